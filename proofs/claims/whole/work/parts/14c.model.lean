-- printed by wip/gen (walks of the bytecode)
theorem iX6_wipe_X6 : ∀ w ∈ wsX60, w ∈ wsX6_wipe := fun _ h => List.mem_cons_of_mem _ (List.mem_append_right _ h)
set_option maxHeartbeats 4000000 in
set_option maxRecDepth 100000 in
theorem kX6_wipe (l : Launch) (D : va_G) (cy : Nat → ClassId) (hM : Nat) (aM : Nat → Nat) (sdM : Int64) (sz : Nat) (M : dk_O)  (r : Int32) (oM_I : (Nat → Int32)) (hf : fX6_wipe M = some (r, oM_I)) : dk_MuI l yX6_wipe wsX6_wipe ({ frames := 0, cells := 0, slots := 0, locals := 0 }) D cy [.ref hM] (wMd cy hM aM sdM M) (wMd cy hM aM sdM (oM_I, M.2)) sz r := by
  refine Met.ofW (cc := cX6_wipe) (maxL := 2) (ret := (some .int)) (by decide) rfl ?_
  intro p e s m args below meth c s₁ B hml hv
  obtain ⟨rfl, hsz, hP, hK, hD0⟩ := hv
  have hx := B.exec
  have hb := B.bytes
  have hr := B.returns
  have hts := atoms_spec (ws := wsX6_wipe) B.pre
  have hown : s.vm.findClass RX6 = some m.cls := findClass_of_methodNamed B.named
  have hlocks := B.notSynchronized
  subst hsz
  have hD := hD0.self (sz := s.heap.size)
  generalize hAe : va_A (wMd cy hM aM sdM M) s.heap.size = A at hD ⊢
  have hA : ∀ q : Nat, s.heap.size ≤ q → A q := fun q h => by rw [← hAe]; exact Or.inr h
  have hS : va_S A s.heap s.heap [] := va_S.rf
  have hl := lv_entry ([.ref hM]) (n := 2) (Nat.le_of_ble_eq_true rfl)
  rw [lg_entry_eq]
  generalize (lg_sl ([.ref hM]) ++ List.replicate (2 - (lg_sl ([.ref hM])).length) Slot.unset).toArray = ls at hl ⊢
  have hl : lv_has ls 2 [(0, .ref hM)] := hl
  unfold fX6_wipe at hf
  refine lv_aload_n hx hb dX6_wipe_0 rfl (lv_at hl 0 rfl) ?_
  refine lv_iconst (v := 0) hx hb dX6_wipe_1 (by decide) ?_
  refine va_put (D := D) (ci := 6) (v := .int 0) (ty := .int) (C := RX6) (T := TX6) (N := 28) hx hb hts iX6_wipe_X6 tyX6 tyX6_ok nmX6 hown hK.1 hP hD hS 0 rfl rfl 0 (by decide) (hts (.fieldLink RX6 61 "DarkPlaceModel" "thrown" "I") (List.mem_of_getElem? (i := 1) rfl)) (fun _ h9 => h9) rfl (by decide +kernel) rfl rfl (Nat.le_of_ble_eq_true rfl) dX6_wipe_2 (fun H locs hP hD hS => ?_)
  have hP : va_P D vwCl (wMd cy hM aM sdM (upd M.1 0 0, M.2)) H := hP
  have hD : va_D A (wMd cy hM aM sdM (upd M.1 0 0, M.2)) := hD
  refine lv_aload_n hx hb dX6_wipe_5 rfl (lv_at hl 0 rfl) ?_
  refine va_get (D := D) (ci := 6) (v := .int (M.1 2)) (C := RX6) (T := TX6) (N := 28) hx hb hts iX6_wipe_X6 hown hK.1 hP 0 rfl rfl 2 (by decide) (hts (.fieldLink RX6 126 "DarkPlaceModel" "textSize" "I") (List.mem_of_getElem? (i := 2) rfl)) (fun _ h9 => h9) rfl dX6_wipe_6 ?_
  refine lv_istore_n (lv' := [(1, .int (M.1 2)), (0, .ref hM)]) hx hb dX6_wipe_9 rfl hl (by decide) rfl (fun ls hl => ?_)
  refine lv_aload_n hx hb dX6_wipe_10 rfl (lv_at hl 1 rfl) ?_
  refine lv_iconst (v := 0) hx hb dX6_wipe_11 (by decide) ?_
  refine va_put (D := D) (ci := 6) (v := .int 0) (ty := .int) (C := RX6) (T := TX6) (N := 28) hx hb hts iX6_wipe_X6 tyX6 tyX6_ok nmX6 hown hK.1 hP hD hS 0 rfl rfl 2 (by decide) (hts (.fieldLink RX6 126 "DarkPlaceModel" "textSize" "I") (List.mem_of_getElem? (i := 2) rfl)) (fun _ h9 => h9) rfl (by decide +kernel) rfl rfl (Nat.le_of_ble_eq_true rfl) dX6_wipe_12 (fun H locs hP hD hS => ?_)
  have hP : va_P D vwCl (wMd cy hM aM sdM (upd (upd M.1 0 0) 2 0, M.2)) H := hP
  have hD : va_D A (wMd cy hM aM sdM (upd (upd M.1 0 0) 2 0, M.2)) := hD
  refine lv_iload_n hx hb dX6_wipe_15 rfl (lv_at hl 0 rfl) ?_
  have e := Option.some.inj hf
  simp only [Prod.mk.injEq] at e
  obtain ⟨e0, e1⟩ := e
  subst e1
  exact W.iret (v := M.1 2) hx hb hr (fun t ht hW => ⟨⟨M.1 2, (), rfl, e0, by rw [ht]; exact hP, hD⟩, hS.F ht⟩) hS.2.2 dX6_wipe_16
theorem iX6_figure_X6 : ∀ w ∈ wsX60, w ∈ wsX6_figure := fun _ h => List.mem_cons_of_mem _ (List.mem_append_right _ h)
set_option maxHeartbeats 4000000 in
set_option maxRecDepth 100000 in
theorem kX6_figure (l : Launch) (D : va_G) (cy : Nat → ClassId) (hM : Nat) (aM : Nat → Nat) (sdM : Int64) (sz : Nat) (M : dk_O) (v1 : Int32) (r : Int32) (oM_I : (Nat → Int32)) (hf : fX6_figure M v1 = some (r, oM_I)) : dk_MuI l yX6_figure wsX6_figure ({ frames := 1, cells := 0, slots := 0, locals := 25 }) D cy [.ref hM, .int v1] (wMd cy hM aM sdM M) (wMd cy hM aM sdM (oM_I, M.2)) sz r := by
  refine Met.ofW (cc := cX6_figure) (maxL := 3) (ret := (some .int)) (by decide) rfl ?_
  intro p e s m args below meth c s₁ B hml hv
  obtain ⟨rfl, hsz, hP, hK, hD0⟩ := hv
  have hx := B.exec
  have hb := B.bytes
  have hr := B.returns
  have hts := atoms_spec (ws := wsX6_figure) B.pre
  have hown : s.vm.findClass RX6 = some m.cls := findClass_of_methodNamed B.named
  have hlocks := B.notSynchronized
  subst hsz
  have hD := hD0.self (sz := s.heap.size)
  generalize hAe : va_A (wMd cy hM aM sdM M) s.heap.size = A at hD ⊢
  have hA : ∀ q : Nat, s.heap.size ≤ q → A q := fun q h => by rw [← hAe]; exact Or.inr h
  have hS : va_S A s.heap s.heap [] := va_S.rf
  have hl := lv_entry ([.ref hM, .int v1]) (n := 3) (Nat.le_of_ble_eq_true rfl)
  rw [lg_entry_eq]
  generalize (lg_sl ([.ref hM, .int v1]) ++ List.replicate (3 - (lg_sl ([.ref hM, .int v1])).length) Slot.unset).toArray = ls at hl ⊢
  have hl : lv_has ls 3 [(0, .ref hM), (1, .int v1)] := hl
  have L28 : ∀ (x1 : Int32) (s0 : Int32) (M_I : (Nat → Int32)) (H : Heap) (locs : List Loc) (ls : Array Slot), va_P D vwCl (wMd cy hM aM sdM (M_I, M.2)) H → va_D A (wMd cy hM aM sdM (M_I, M.2)) → va_S A s.heap H locs → lv_has ls 3 [(0, .ref hM), (1, .int x1)] → fX6_figure_L28 M x1 s0 M_I = some (r, oM_I) → W p l e (headSpec wsX6_figure ({ frames := 1, cells := 0, slots := 0, locals := 25 })).room s m ([.ref hM, .int v1]).toArray below meth c H locs 0 0 (MQ below (va_Qi (fun (x : Int32) (_ : Unit) => x = r) (dk_B D (wMd cy hM aM sdM (oM_I, M.2)) A) A) ([.ref hM, .int v1]).toArray s 0 0 A) (F0 m 28 ls [.int s0]) := by
    intro x1 s0 M_I H locs ls hP hD hS hl hf
    unfold fX6_figure_L28 at hf
    refine lv_istore_n (lv' := [(2, .int s0), (0, .ref hM), (1, .int x1)]) hx hb dX6_figure_28 rfl hl (by decide) rfl (fun ls hl => ?_)
    refine lv_iload_n hx hb dX6_figure_29 rfl (lv_at hl 0 rfl) ?_
    refine lv_i2l hx hb dX6_figure_30 rfl ?_
    refine lv_lconst (v := 0) hx hb dX6_figure_31 (by decide) ?_
    refine lv_ldc2 hx hb hown (hts (.constantLong RX6 132 (9)) (List.mem_of_getElem? (i := 4) rfl)) dX6_figure_32 ?_
    obtain ⟨r35, k35, hf⟩ := dk_bind hf
    refine dk_ri (va_runS (As := [.long s0.toInt64, .long 0, .long 9]) (rest := []) ⟨hx, hb, hml, hown, hts⟩ (kX6_in l D cy s0.toInt64 0 9 r35 k35) (va_cwS 3 hts gX6_figure_X6_in rfl rfl rfl (by decide +kernel) ⟨Nat.le_of_ble_eq_true rfl, Nat.le_of_ble_eq_true rfl⟩) (dk_preS hK (hP.sub (ws' := []) [] rfl)) rfl rfl hl.1 rfl (lv_room (Nat.le_of_ble_eq_true rfl)) dX6_figure_35 ⟨Nat.zero_le _, Nat.zero_le _⟩) ?_
    refine dk_ieq (tgt := 49) hx hb dX6_figure_38 (by decide) hf (fun hf => ?_) (fun hf => ?_)
    · refine lv_bipush (v := (-9)) hx hb dX6_figure_49 (by decide) ?_
      have e := Option.some.inj hf
      simp only [Prod.mk.injEq] at e
      obtain ⟨e0, e1⟩ := e
      subst e1
      exact W.iret (v := (-9)) hx hb hr (fun t ht hW => ⟨⟨(-9), (), rfl, e0, by rw [ht]; exact hP, hD⟩, hS.F ht⟩) hS.2.2 dX6_figure_51
    · refine lv_iload_n hx hb dX6_figure_41 rfl (lv_at hl 2 rfl) ?_
      refine lv_iload_n hx hb dX6_figure_42 rfl (lv_at hl 0 rfl) ?_
      obtain ⟨r43, k43, hf⟩ := dk_bind hf
      refine dk_ri (va_runS (As := [.int x1, .int s0]) (rest := []) ⟨hx, hb, hml, hown, hts⟩ (kX6_has l D cy x1 s0 r43 k43) (va_cwS 2 hts gX6_figure_X6_has rfl rfl rfl (by decide +kernel) ⟨Nat.le_of_ble_eq_true rfl, Nat.le_of_ble_eq_true rfl⟩) (dk_preS hK (hP.sub (ws' := []) [] rfl)) rfl rfl hl.1 rfl (lv_room (Nat.le_of_ble_eq_true rfl)) dX6_figure_43 ⟨Nat.zero_le _, Nat.zero_le _⟩) ?_
      refine dk_ine (tgt := 52) hx hb dX6_figure_46 (by decide) hf (fun hf => ?_) (fun hf => ?_)
      · refine lv_aload_n hx hb dX6_figure_52 rfl (lv_at hl 1 rfl) ?_
        refine lv_dup hx hb dX6_figure_53 rfl ?_
        refine va_get (D := D) (ci := 6) (v := .int (M_I 3)) (C := RX6) (T := TX6) (N := 28) hx hb hts iX6_figure_X6 hown hK.1 hP 0 rfl rfl 3 (by decide) (hts (.fieldLink RX6 129 "DarkPlaceModel" "place" "I") (List.mem_of_getElem? (i := 1) rfl)) (fun _ h9 => h9) rfl dX6_figure_54 ?_
        refine lv_iconst (v := 1) hx hb dX6_figure_57 (by decide) ?_
        refine lv_iadd hx hb dX6_figure_58 ?_
        refine va_put (D := D) (ci := 6) (v := .int ((M_I 3) + 1)) (ty := .int) (C := RX6) (T := TX6) (N := 28) hx hb hts iX6_figure_X6 tyX6 tyX6_ok nmX6 hown hK.1 hP hD hS 0 rfl rfl 3 (by decide) (hts (.fieldLink RX6 129 "DarkPlaceModel" "place" "I") (List.mem_of_getElem? (i := 1) rfl)) (fun _ h9 => h9) rfl (by decide +kernel) rfl rfl (Nat.le_of_ble_eq_true rfl) dX6_figure_59 (fun H locs hP hD hS => ?_)
        have hP : va_P D vwCl (wMd cy hM aM sdM (upd M_I 3 ((M_I 3) + 1), M.2)) H := hP
        have hD : va_D A (wMd cy hM aM sdM (upd M_I 3 ((M_I 3) + 1), M.2)) := hD
        refine lv_iload_n hx hb dX6_figure_62 rfl (lv_at hl 0 rfl) ?_
        have e := Option.some.inj hf
        simp only [Prod.mk.injEq] at e
        obtain ⟨e0, e1⟩ := e
        subst e1
        exact W.iret (v := s0) hx hb hr (fun t ht hW => ⟨⟨s0, (), rfl, e0, by rw [ht]; exact hP, hD⟩, hS.F ht⟩) hS.2.2 dX6_figure_63
      · refine lv_bipush (v := (-9)) hx hb dX6_figure_49 (by decide) ?_
        have e := Option.some.inj hf
        simp only [Prod.mk.injEq] at e
        obtain ⟨e0, e1⟩ := e
        subst e1
        exact W.iret (v := (-9)) hx hb hr (fun t ht hW => ⟨⟨(-9), (), rfl, e0, by rw [ht]; exact hP, hD⟩, hS.F ht⟩) hS.2.2 dX6_figure_51
  unfold fX6_figure at hf
  refine lv_aload_n hx hb dX6_figure_0 rfl (lv_at hl 0 rfl) ?_
  refine va_get (D := D) (ci := 6) (v := .int (M.1 3)) (C := RX6) (T := TX6) (N := 28) hx hb hts iX6_figure_X6 hown hK.1 hP 0 rfl rfl 3 (by decide) (hts (.fieldLink RX6 129 "DarkPlaceModel" "place" "I") (List.mem_of_getElem? (i := 1) rfl)) (fun _ h9 => h9) rfl dX6_figure_1 ?_
  refine lv_aload_n hx hb dX6_figure_4 rfl (lv_at hl 0 rfl) ?_
  refine va_get (D := D) (ci := 6) (v := .int (M.1 2)) (C := RX6) (T := TX6) (N := 28) hx hb hts iX6_figure_X6 hown hK.1 hP 0 rfl rfl 2 (by decide) (hts (.fieldLink RX6 126 "DarkPlaceModel" "textSize" "I") (List.mem_of_getElem? (i := 2) rfl)) (fun _ h9 => h9) rfl dX6_figure_5 ?_
  refine dk_cge (tgt := 26) hx hb dX6_figure_8 (by decide) hf (fun hf => ?_) (fun hf => ?_)
  · refine lv_bipush (v := (-9)) hx hb dX6_figure_26 (by decide) ?_
    exact L28 v1 (-9) M.1 _ _ _ hP hD hS (lv_sub hl [0, 1] rfl) hf
  · refine lv_aload_n hx hb dX6_figure_11 rfl (lv_at hl 0 rfl) ?_
    refine va_get (D := D) (ci := 6) (v := .ref (aM 1)) (C := RX6) (T := TX6) (N := 28) hx hb hts iX6_figure_X6 hown hK.1 hP 0 rfl rfl 1 (by decide) (hts (.fieldLink RX6 7 "DarkPlaceModel" "text" "[I") (List.mem_of_getElem? (i := 3) rfl)) (fun _ h9 => h9) rfl dX6_figure_12 ?_
    refine lv_aload_n hx hb dX6_figure_15 rfl (lv_at hl 0 rfl) ?_
    refine va_get (D := D) (ci := 6) (v := .int (M.1 3)) (C := RX6) (T := TX6) (N := 28) hx hb hts iX6_figure_X6 hown hK.1 hP 0 rfl rfl 3 (by decide) (hts (.fieldLink RX6 129 "DarkPlaceModel" "place" "I") (List.mem_of_getElem? (i := 1) rfl)) (fun _ h9 => h9) rfl dX6_figure_16 ?_
    refine dk_iald hx hb hK.1 hP 6 0 rfl rfl hf dX6_figure_19 (fun d19 hf => ?_)
    refine lv_bipush (v := 48) hx hb dX6_figure_20 (by decide) ?_
    refine lv_isub hx hb dX6_figure_22 ?_
    refine lv_goto (tgt := 28) hx hb dX6_figure_23 (by decide) ?_
    exact L28 v1 (d19 - 48) M.1 _ _ _ hP hD hS (lv_sub hl [0, 1] rfl) hf
theorem iX6_apart_X6 : ∀ w ∈ wsX60, w ∈ wsX6_apart := fun _ h => List.mem_cons_of_mem _ (List.mem_append_right _ h)
set_option maxHeartbeats 4000000 in
set_option maxRecDepth 100000 in
theorem kX6_apart (l : Launch) (D : va_G) (cy : Nat → ClassId) (hM : Nat) (aM : Nat → Nat) (sdM : Int64) (M : dk_O) (v1 : Int32) (r : Int32) (hf : fX6_apart M v1 = some r) : dk_RdI l yX6_apart wsX6_apart ({ frames := 0, cells := 0, slots := 0, locals := 0 }) D cy [.ref hM, .int v1] (wMd cy hM aM sdM M) r := by
  refine Met.ofW (cc := cX6_apart) (maxL := 4) (ret := (some .int)) (by decide) rfl ?_
  intro p e s m args below meth c s₁ B hml hv
  obtain ⟨rfl, hP, hK⟩ := hv
  have hx := B.exec
  have hb := B.bytes
  have hr := B.returns
  have hts := atoms_spec (ws := wsX6_apart) B.pre
  have hown : s.vm.findClass RX6 = some m.cls := findClass_of_methodNamed B.named
  have hlocks := B.notSynchronized
  have hl := lv_entry ([.ref hM, .int v1]) (n := 4) (Nat.le_of_ble_eq_true rfl)
  rw [lg_entry_eq]
  generalize (lg_sl ([.ref hM, .int v1]) ++ List.replicate (4 - (lg_sl ([.ref hM, .int v1])).length) Slot.unset).toArray = ls at hl ⊢
  have hl : lv_has ls 4 [(0, .ref hM), (1, .int v1)] := hl
  have L17 : ∀ (fu17 : Nat) (x1 : Int32) (x2 : Int32) (x3 : Int32) (ls : Array Slot), lv_has ls 4 [(0, .ref hM), (1, .int x1), (2, .int x2), (3, .int x3)] → fX6_apart_L17 M fu17 x1 x2 x3 = some r → W p l e (headSpec wsX6_apart ({ frames := 0, cells := 0, slots := 0, locals := 0 })).room s m ([.ref hM, .int v1]).toArray below meth c s.heap [] 0 0 (MQ below (vp_Si (fun x => x = r)) ([.ref hM, .int v1]).toArray s 0 0 (fun _ => False)) (F0 m 17 ls []) := by
    intro fu17
    induction fu17 with
    | zero =>
      intro x1 x2 x3 ls hl hf
      rw [fX6_apart_L17] at hf
      cases hf
    | succ fu17 ih17 =>
      intro x1 x2 x3 ls hl hf
      rw [fX6_apart_L17] at hf
      refine lv_iload_n hx hb dX6_apart_17 rfl (lv_at hl 3 rfl) ?_
      refine lv_aload_n hx hb dX6_apart_18 rfl (lv_at hl 0 rfl) ?_
      refine va_get (D := D) (ci := 6) (v := .int (M.1 13)) (C := RX6) (T := TX6) (N := 28) hx hb hts iX6_apart_X6 hown hK.1 hP 0 rfl rfl 13 (by decide) (hts (.fieldLink RX6 137 "DarkPlaceModel" "readEdges" "I") (List.mem_of_getElem? (i := 2) rfl)) (fun _ h9 => h9) rfl dX6_apart_19 ?_
      refine dk_cge (tgt := 81) hx hb dX6_apart_22 (by decide) hf (fun hf => ?_) (fun hf => ?_)
      · refine lv_iload_n hx hb dX6_apart_81 rfl (lv_at hl 2 rfl) ?_
        exact W.iret (v := x2) hx hb hr (fun t ht hW => ⟨x2, rfl, Option.some.inj hf, ht⟩) t_nil dX6_apart_82
      · refine lv_iload_n hx hb dX6_apart_25 rfl (lv_at hl 2 rfl) ?_
        refine lv_aload_n hx hb dX6_apart_26 rfl (lv_at hl 0 rfl) ?_
        refine va_get (D := D) (ci := 6) (v := .ref (aM 14)) (C := RX6) (T := TX6) (N := 28) hx hb hts iX6_apart_X6 hown hK.1 hP 0 rfl rfl 14 (by decide) (hts (.fieldLink RX6 23 "DarkPlaceModel" "readOne" "[I") (List.mem_of_getElem? (i := 3) rfl)) (fun _ h9 => h9) rfl dX6_apart_27 ?_
        refine lv_iload_n hx hb dX6_apart_30 rfl (lv_at hl 3 rfl) ?_
        refine dk_iald hx hb hK.1 hP 7 0 rfl rfl hf dX6_apart_31 (fun d31 hf => ?_)
        refine lv_iload_n hx hb dX6_apart_32 rfl (lv_at hl 1 rfl) ?_
        refine dk_cne (tgt := 49) hx hb dX6_apart_33 (by decide) hf (fun hf => ?_) (fun hf => ?_)
        · refine lv_aload_n hx hb dX6_apart_49 rfl (lv_at hl 0 rfl) ?_
          refine va_get (D := D) (ci := 6) (v := .ref (aM 15)) (C := RX6) (T := TX6) (N := 28) hx hb hts iX6_apart_X6 hown hK.1 hP 0 rfl rfl 15 (by decide) (hts (.fieldLink RX6 26 "DarkPlaceModel" "readOther" "[I") (List.mem_of_getElem? (i := 4) rfl)) (fun _ h9 => h9) rfl dX6_apart_50 ?_
          refine lv_iload_n hx hb dX6_apart_53 rfl (lv_at hl 3 rfl) ?_
          refine dk_iald hx hb hK.1 hP 8 0 rfl rfl hf dX6_apart_54 (fun d54 hf => ?_)
          refine lv_iload_n hx hb dX6_apart_55 rfl (lv_at hl 1 rfl) ?_
          refine dk_cne (tgt := 72) hx hb dX6_apart_56 (by decide) hf (fun hf => ?_) (fun hf => ?_)
          · refine lv_iconst (v := (-1)) hx hb dX6_apart_72 (by decide) ?_
            refine lv_iand hx hb dX6_apart_73 ?_
            refine lv_istore_n (lv' := [(2, .int (x2 &&& (-1))), (0, .ref hM), (1, .int x1), (3, .int x3)]) hx hb dX6_apart_74 rfl hl (by decide) rfl (fun ls hl => ?_)
            refine lv_iinc (v := x3 + 1) (lv' := [(3, .int (x3 + 1)), (2, .int (x2 &&& (-1))), (0, .ref hM), (1, .int x1)]) hx hb dX6_apart_75 hl (k := 3) rfl rfl (by decide) rfl (fun ls hl => ?_)
            refine lv_goto (tgt := 17) hx hb dX6_apart_78 (by decide) ?_
            exact ih17 x1 (x2 &&& (-1)) (x3 + 1) _ (lv_sub hl [2, 3, 1, 0] rfl) hf
          · refine lv_iconst (v := 1) hx hb dX6_apart_59 (by decide) ?_
            refine lv_aload_n hx hb dX6_apart_60 rfl (lv_at hl 0 rfl) ?_
            refine va_get (D := D) (ci := 6) (v := .ref (aM 14)) (C := RX6) (T := TX6) (N := 28) hx hb hts iX6_apart_X6 hown hK.1 hP 0 rfl rfl 14 (by decide) (hts (.fieldLink RX6 23 "DarkPlaceModel" "readOne" "[I") (List.mem_of_getElem? (i := 3) rfl)) (fun _ h9 => h9) rfl dX6_apart_61 ?_
            refine lv_iload_n hx hb dX6_apart_64 rfl (lv_at hl 3 rfl) ?_
            refine dk_iald hx hb hK.1 hP 7 0 rfl rfl hf dX6_apart_65 (fun d65 hf => ?_)
            refine lv_ishl hx hb dX6_apart_66 ?_
            refine lv_iconst (v := (-1)) hx hb dX6_apart_67 (by decide) ?_
            refine lv_ixor hx hb dX6_apart_68 ?_
            refine lv_goto (tgt := 73) hx hb dX6_apart_69 (by decide) ?_
            refine lv_iand hx hb dX6_apart_73 ?_
            refine lv_istore_n (lv' := [(2, .int (x2 &&& (((1 : Int32) <<< (d65 &&& 31)) ^^^ (-1)))), (0, .ref hM), (1, .int x1), (3, .int x3)]) hx hb dX6_apart_74 rfl hl (by decide) rfl (fun ls hl => ?_)
            refine lv_iinc (v := x3 + 1) (lv' := [(3, .int (x3 + 1)), (2, .int (x2 &&& (((1 : Int32) <<< (d65 &&& 31)) ^^^ (-1)))), (0, .ref hM), (1, .int x1)]) hx hb dX6_apart_75 hl (k := 3) rfl rfl (by decide) rfl (fun ls hl => ?_)
            refine lv_goto (tgt := 17) hx hb dX6_apart_78 (by decide) ?_
            exact ih17 x1 (x2 &&& (((1 : Int32) <<< (d65 &&& 31)) ^^^ (-1))) (x3 + 1) _ (lv_sub hl [2, 3, 1, 0] rfl) hf
        · refine lv_iconst (v := 1) hx hb dX6_apart_36 (by decide) ?_
          refine lv_aload_n hx hb dX6_apart_37 rfl (lv_at hl 0 rfl) ?_
          refine va_get (D := D) (ci := 6) (v := .ref (aM 15)) (C := RX6) (T := TX6) (N := 28) hx hb hts iX6_apart_X6 hown hK.1 hP 0 rfl rfl 15 (by decide) (hts (.fieldLink RX6 26 "DarkPlaceModel" "readOther" "[I") (List.mem_of_getElem? (i := 4) rfl)) (fun _ h9 => h9) rfl dX6_apart_38 ?_
          refine lv_iload_n hx hb dX6_apart_41 rfl (lv_at hl 3 rfl) ?_
          refine dk_iald hx hb hK.1 hP 8 0 rfl rfl hf dX6_apart_42 (fun d42 hf => ?_)
          refine lv_ishl hx hb dX6_apart_43 ?_
          refine lv_iconst (v := (-1)) hx hb dX6_apart_44 (by decide) ?_
          refine lv_ixor hx hb dX6_apart_45 ?_
          refine lv_goto (tgt := 73) hx hb dX6_apart_46 (by decide) ?_
          refine lv_iand hx hb dX6_apart_73 ?_
          refine lv_istore_n (lv' := [(2, .int (x2 &&& (((1 : Int32) <<< (d42 &&& 31)) ^^^ (-1)))), (0, .ref hM), (1, .int x1), (3, .int x3)]) hx hb dX6_apart_74 rfl hl (by decide) rfl (fun ls hl => ?_)
          refine lv_iinc (v := x3 + 1) (lv' := [(3, .int (x3 + 1)), (2, .int (x2 &&& (((1 : Int32) <<< (d42 &&& 31)) ^^^ (-1)))), (0, .ref hM), (1, .int x1)]) hx hb dX6_apart_75 hl (k := 3) rfl rfl (by decide) rfl (fun ls hl => ?_)
          refine lv_goto (tgt := 17) hx hb dX6_apart_78 (by decide) ?_
          exact ih17 x1 (x2 &&& (((1 : Int32) <<< (d42 &&& 31)) ^^^ (-1))) (x3 + 1) _ (lv_sub hl [2, 3, 1, 0] rfl) hf
  unfold fX6_apart at hf
  refine lv_iconst (v := 1) hx hb dX6_apart_0 (by decide) ?_
  refine lv_aload_n hx hb dX6_apart_1 rfl (lv_at hl 0 rfl) ?_
  refine va_get (D := D) (ci := 6) (v := .int (M.1 9)) (C := RX6) (T := TX6) (N := 28) hx hb hts iX6_apart_X6 hown hK.1 hP 0 rfl rfl 9 (by decide) (hts (.fieldLink RX6 134 "DarkPlaceModel" "readPlaces" "I") (List.mem_of_getElem? (i := 1) rfl)) (fun _ h9 => h9) rfl dX6_apart_2 ?_
  refine lv_ishl hx hb dX6_apart_5 ?_
  refine lv_iconst (v := 1) hx hb dX6_apart_6 (by decide) ?_
  refine lv_isub hx hb dX6_apart_7 ?_
  refine lv_iconst (v := 1) hx hb dX6_apart_8 (by decide) ?_
  refine lv_iload_n hx hb dX6_apart_9 rfl (lv_at hl 1 rfl) ?_
  refine lv_ishl hx hb dX6_apart_10 ?_
  refine lv_iconst (v := (-1)) hx hb dX6_apart_11 (by decide) ?_
  refine lv_ixor hx hb dX6_apart_12 ?_
  refine lv_iand hx hb dX6_apart_13 ?_
  refine lv_istore_n (lv' := [(2, .int ((((1 : Int32) <<< ((M.1 9) &&& 31)) - 1) &&& (((1 : Int32) <<< (v1 &&& 31)) ^^^ (-1)))), (0, .ref hM), (1, .int v1)]) hx hb dX6_apart_14 rfl hl (by decide) rfl (fun ls hl => ?_)
  refine lv_iconst (v := 0) hx hb dX6_apart_15 (by decide) ?_
  refine lv_istore_n (lv' := [(3, .int 0), (2, .int ((((1 : Int32) <<< ((M.1 9) &&& 31)) - 1) &&& (((1 : Int32) <<< (v1 &&& 31)) ^^^ (-1)))), (0, .ref hM), (1, .int v1)]) hx hb dX6_apart_16 rfl hl (by decide) rfl (fun ls hl => ?_)
  exact L17 1000 v1 ((((1 : Int32) <<< ((M.1 9) &&& 31)) - 1) &&& (((1 : Int32) <<< (v1 &&& 31)) ^^^ (-1))) 0 _ (lv_sub hl [2, 3, 1, 0] rfl) hf
theorem iX6_readEdge_X6 : ∀ w ∈ wsX60, w ∈ wsX6_readEdge := fun _ h => List.mem_cons_of_mem _ (List.mem_append_right _ h)
set_option maxHeartbeats 4000000 in
set_option maxRecDepth 100000 in
theorem kX6_readEdge (l : Launch) (D : va_G) (cy : Nat → ClassId) (hM : Nat) (aM : Nat → Nat) (sdM : Int64) (sz : Nat) (M : dk_O)  (r : Int32) (oM_I : (Nat → Int32)) (oM_14 : (Nat → Int32)) (oM_15 : (Nat → Int32)) (hf : fX6_readEdge M = some (r, oM_I, oM_14, oM_15)) : dk_MuI l yX6_readEdge wsX6_readEdge ({ frames := 2, cells := 0, slots := 0, locals := 47 }) D cy [.ref hM] (wMd cy hM aM sdM M) (wMd cy hM aM sdM (oM_I, dk_upA (dk_upA M.2 14 oM_14) 15 oM_15)) sz r := by
  refine Met.ofW (cc := cX6_readEdge) (maxL := 4) (ret := (some .boolean)) (by decide) rfl ?_
  intro p e s m args below meth c s₁ B hml hv
  obtain ⟨rfl, hsz, hP, hK, hD0⟩ := hv
  have hx := B.exec
  have hb := B.bytes
  have hr := B.returns
  have hts := atoms_spec (ws := wsX6_readEdge) B.pre
  have hown : s.vm.findClass RX6 = some m.cls := findClass_of_methodNamed B.named
  have hlocks := B.notSynchronized
  subst hsz
  have hD := hD0.self (sz := s.heap.size)
  generalize hAe : va_A (wMd cy hM aM sdM M) s.heap.size = A at hD ⊢
  have hA : ∀ q : Nat, s.heap.size ≤ q → A q := fun q h => by rw [← hAe]; exact Or.inr h
  have hS : va_S A s.heap s.heap [] := va_S.rf
  have hl := lv_entry ([.ref hM]) (n := 4) (Nat.le_of_ble_eq_true rfl)
  rw [lg_entry_eq]
  generalize (lg_sl ([.ref hM]) ++ List.replicate (4 - (lg_sl ([.ref hM])).length) Slot.unset).toArray = ls at hl ⊢
  have hl : lv_has ls 4 [(0, .ref hM)] := hl
  have L101 : ∀ (x2 : Int32) (s0 : Int32) (M_I : (Nat → Int32)) (M_14 : (Nat → Int32)) (M_15 : (Nat → Int32)) (H : Heap) (locs : List Loc) (ls : Array Slot), va_P D vwCl (wMd cy hM aM sdM (M_I, dk_upA (dk_upA M.2 14 M_14) 15 M_15)) H → va_D A (wMd cy hM aM sdM (M_I, dk_upA (dk_upA M.2 14 M_14) 15 M_15)) → va_S A s.heap H locs → lv_has ls 4 [(0, .ref hM), (2, .int x2)] → fX6_readEdge_L101 M x2 s0 M_I M_14 M_15 = some (r, oM_I, oM_14, oM_15) → W p l e (headSpec wsX6_readEdge ({ frames := 2, cells := 0, slots := 0, locals := 47 })).room s m ([.ref hM]).toArray below meth c H locs 0 0 (MQ below (va_Qi (fun (x : Int32) (_ : Unit) => x = r) (dk_B D (wMd cy hM aM sdM (oM_I, dk_upA (dk_upA M.2 14 oM_14) 15 oM_15)) A) A) ([.ref hM]).toArray s 0 0 A) (F0 m 101 ls [.int s0]) := by
    intro x2 s0 M_I M_14 M_15 H locs ls hP hD hS hl hf
    unfold fX6_readEdge_L101 at hf
    refine lv_istore_n (lv' := [(3, .int s0), (0, .ref hM), (2, .int x2)]) hx hb dX6_readEdge_101 rfl hl (by decide) rfl (fun ls hl => ?_)
    refine lv_iload_n hx hb dX6_readEdge_102 rfl (lv_at hl 0 rfl) ?_
    refine lv_bipush (v := (-9)) hx hb dX6_readEdge_103 (by decide) ?_
    refine dk_cne (tgt := 110) hx hb dX6_readEdge_105 (by decide) hf (fun hf => ?_) (fun hf => ?_)
    · refine lv_aload_n hx hb dX6_readEdge_110 rfl (lv_at hl 1 rfl) ?_
      refine va_get (D := D) (ci := 6) (v := .ref (aM 14)) (C := RX6) (T := TX6) (N := 28) hx hb hts iX6_readEdge_X6 hown hK.1 hP 0 rfl rfl 14 (by decide) (hts (.fieldLink RX6 23 "DarkPlaceModel" "readOne" "[I") (List.mem_of_getElem? (i := 5) rfl)) (fun _ h9 => h9) rfl dX6_readEdge_111 ?_
      refine lv_aload_n hx hb dX6_readEdge_114 rfl (lv_at hl 1 rfl) ?_
      refine va_get (D := D) (ci := 6) (v := .int (M_I 13)) (C := RX6) (T := TX6) (N := 28) hx hb hts iX6_readEdge_X6 hown hK.1 hP 0 rfl rfl 13 (by decide) (hts (.fieldLink RX6 137 "DarkPlaceModel" "readEdges" "I") (List.mem_of_getElem? (i := 4) rfl)) (fun _ h9 => h9) rfl dX6_readEdge_115 ?_
      refine lv_iload_n hx hb dX6_readEdge_118 rfl (lv_at hl 2 rfl) ?_
      refine dk_iast hx hb hK.1 hP hD hS 7 0 rfl rfl hf dX6_readEdge_119 (fun f119 H locs hP hD hS hf => ?_)
      have hP : va_P D vwCl (wMd cy hM aM sdM (M_I, dk_upA (dk_upA M.2 14 f119) 15 M_15)) H := hP
      have hD : va_D A (wMd cy hM aM sdM (M_I, dk_upA (dk_upA M.2 14 f119) 15 M_15)) := hD
      refine lv_aload_n hx hb dX6_readEdge_120 rfl (lv_at hl 1 rfl) ?_
      refine va_get (D := D) (ci := 6) (v := .ref (aM 15)) (C := RX6) (T := TX6) (N := 28) hx hb hts iX6_readEdge_X6 hown hK.1 hP 0 rfl rfl 15 (by decide) (hts (.fieldLink RX6 26 "DarkPlaceModel" "readOther" "[I") (List.mem_of_getElem? (i := 6) rfl)) (fun _ h9 => h9) rfl dX6_readEdge_121 ?_
      refine lv_aload_n hx hb dX6_readEdge_124 rfl (lv_at hl 1 rfl) ?_
      refine va_get (D := D) (ci := 6) (v := .int (M_I 13)) (C := RX6) (T := TX6) (N := 28) hx hb hts iX6_readEdge_X6 hown hK.1 hP 0 rfl rfl 13 (by decide) (hts (.fieldLink RX6 137 "DarkPlaceModel" "readEdges" "I") (List.mem_of_getElem? (i := 4) rfl)) (fun _ h9 => h9) rfl dX6_readEdge_125 ?_
      refine lv_iload_n hx hb dX6_readEdge_128 rfl (lv_at hl 0 rfl) ?_
      refine dk_iast hx hb hK.1 hP hD hS 8 0 rfl rfl hf dX6_readEdge_129 (fun f129 H locs hP hD hS hf => ?_)
      have hP : va_P D vwCl (wMd cy hM aM sdM (M_I, dk_upA (dk_upA M.2 14 f119) 15 f129)) H := hP
      have hD : va_D A (wMd cy hM aM sdM (M_I, dk_upA (dk_upA M.2 14 f119) 15 f129)) := hD
      refine lv_aload_n hx hb dX6_readEdge_130 rfl (lv_at hl 1 rfl) ?_
      refine lv_dup hx hb dX6_readEdge_131 rfl ?_
      refine va_get (D := D) (ci := 6) (v := .int (M_I 13)) (C := RX6) (T := TX6) (N := 28) hx hb hts iX6_readEdge_X6 hown hK.1 hP 0 rfl rfl 13 (by decide) (hts (.fieldLink RX6 137 "DarkPlaceModel" "readEdges" "I") (List.mem_of_getElem? (i := 4) rfl)) (fun _ h9 => h9) rfl dX6_readEdge_132 ?_
      refine lv_iconst (v := 1) hx hb dX6_readEdge_135 (by decide) ?_
      refine lv_iadd hx hb dX6_readEdge_136 ?_
      refine va_put (D := D) (ci := 6) (v := .int ((M_I 13) + 1)) (ty := .int) (C := RX6) (T := TX6) (N := 28) hx hb hts iX6_readEdge_X6 tyX6 tyX6_ok nmX6 hown hK.1 hP hD hS 0 rfl rfl 13 (by decide) (hts (.fieldLink RX6 137 "DarkPlaceModel" "readEdges" "I") (List.mem_of_getElem? (i := 4) rfl)) (fun _ h9 => h9) rfl (by decide +kernel) rfl rfl (Nat.le_of_ble_eq_true rfl) dX6_readEdge_137 (fun H locs hP hD hS => ?_)
      have hP : va_P D vwCl (wMd cy hM aM sdM (upd M_I 13 ((M_I 13) + 1), dk_upA (dk_upA M.2 14 f119) 15 f129)) H := hP
      have hD : va_D A (wMd cy hM aM sdM (upd M_I 13 ((M_I 13) + 1), dk_upA (dk_upA M.2 14 f119) 15 f129)) := hD
      refine lv_iconst (v := 1) hx hb dX6_readEdge_140 (by decide) ?_
      have e := Option.some.inj hf
      simp only [Prod.mk.injEq] at e
      obtain ⟨e0, e1, e2, e3⟩ := e
      subst e1
      subst e2
      subst e3
      exact W.zret (v := 1) hx hb hr rfl (fun t ht hW => ⟨⟨1, (), rfl, e0, by rw [ht]; exact hP, hD⟩, hS.F ht⟩) hS.2.2 dX6_readEdge_141
    · refine lv_iconst (v := 0) hx hb dX6_readEdge_108 (by decide) ?_
      have e := Option.some.inj hf
      simp only [Prod.mk.injEq] at e
      obtain ⟨e0, e1, e2, e3⟩ := e
      subst e1
      subst e2
      subst e3
      exact W.zret (v := 0) hx hb hr rfl (fun t ht hW => ⟨⟨0, (), rfl, e0, by rw [ht]; exact hP, hD⟩, hS.F ht⟩) hS.2.2 dX6_readEdge_109
  have L4 : ∀ (fu4 : Nat) (x1 : Int32) (x2 : Int32) (M_I : (Nat → Int32)) (M_14 : (Nat → Int32)) (M_15 : (Nat → Int32)) (H : Heap) (locs : List Loc) (ls : Array Slot), va_P D vwCl (wMd cy hM aM sdM (M_I, dk_upA (dk_upA M.2 14 M_14) 15 M_15)) H → va_D A (wMd cy hM aM sdM (M_I, dk_upA (dk_upA M.2 14 M_14) 15 M_15)) → va_S A s.heap H locs → lv_has ls 4 [(0, .ref hM), (1, .int x1), (2, .int x2)] → fX6_readEdge_L4 M fu4 x1 x2 M_I M_14 M_15 = some (r, oM_I, oM_14, oM_15) → W p l e (headSpec wsX6_readEdge ({ frames := 2, cells := 0, slots := 0, locals := 47 })).room s m ([.ref hM]).toArray below meth c H locs 0 0 (MQ below (va_Qi (fun (x : Int32) (_ : Unit) => x = r) (dk_B D (wMd cy hM aM sdM (oM_I, dk_upA (dk_upA M.2 14 oM_14) 15 oM_15)) A) A) ([.ref hM]).toArray s 0 0 A) (F0 m 4 ls []) := by
    intro fu4
    induction fu4 with
    | zero =>
      intro x1 x2 M_I M_14 M_15 H locs ls hP hD hS hl hf
      rw [fX6_readEdge_L4] at hf
      cases hf
    | succ fu4 ih4 =>
      intro x1 x2 M_I M_14 M_15 H locs ls hP hD hS hl hf
      rw [fX6_readEdge_L4] at hf
      refine lv_iload_n hx hb dX6_readEdge_4 rfl (lv_at hl 2 rfl) ?_
      refine lv_aload_n hx hb dX6_readEdge_5 rfl (lv_at hl 0 rfl) ?_
      refine va_get (D := D) (ci := 6) (v := .int (M_I 9)) (C := RX6) (T := TX6) (N := 28) hx hb hts iX6_readEdge_X6 hown hK.1 hP 0 rfl rfl 9 (by decide) (hts (.fieldLink RX6 134 "DarkPlaceModel" "readPlaces" "I") (List.mem_of_getElem? (i := 1) rfl)) (fun _ h9 => h9) rfl dX6_readEdge_6 ?_
      refine dk_cge (tgt := 36) hx hb dX6_readEdge_9 (by decide) hf (fun hf => ?_) (fun hf => ?_)
      · refine lv_aload_n hx hb dX6_readEdge_36 rfl (lv_at hl 0 rfl) ?_
        refine va_get (D := D) (ci := 6) (v := .ref (aM 1)) (C := RX6) (T := TX6) (N := 28) hx hb hts iX6_readEdge_X6 hown hK.1 hP 0 rfl rfl 1 (by decide) (hts (.fieldLink RX6 7 "DarkPlaceModel" "text" "[I") (List.mem_of_getElem? (i := 2) rfl)) (fun _ h9 => h9) rfl dX6_readEdge_37 ?_
        refine lv_aload_n hx hb dX6_readEdge_40 rfl (lv_at hl 0 rfl) ?_
        refine va_get (D := D) (ci := 6) (v := .int (M_I 3)) (C := RX6) (T := TX6) (N := 28) hx hb hts iX6_readEdge_X6 hown hK.1 hP 0 rfl rfl 3 (by decide) (hts (.fieldLink RX6 129 "DarkPlaceModel" "place" "I") (List.mem_of_getElem? (i := 3) rfl)) (fun _ h9 => h9) rfl dX6_readEdge_41 ?_
        refine dk_iald hx hb hK.1 hP 6 0 rfl rfl hf dX6_readEdge_44 (fun d44 hf => ?_)
        refine lv_bipush (v := 101) hx hb dX6_readEdge_45 (by decide) ?_
        refine dk_cne (tgt := 63) hx hb dX6_readEdge_47 (by decide) hf (fun hf => ?_) (fun hf => ?_)
        · refine lv_iconst (v := 0) hx hb dX6_readEdge_63 (by decide) ?_
          have e := Option.some.inj hf
          simp only [Prod.mk.injEq] at e
          obtain ⟨e0, e1, e2, e3⟩ := e
          subst e1
          subst e2
          subst e3
          exact W.zret (v := 0) hx hb hr rfl (fun t ht hW => ⟨⟨0, (), rfl, e0, by rw [ht]; exact hP, hD⟩, hS.F ht⟩) hS.2.2 dX6_readEdge_64
        · refine lv_aload_n hx hb dX6_readEdge_50 rfl (lv_at hl 0 rfl) ?_
          refine va_get (D := D) (ci := 6) (v := .int (M_I 13)) (C := RX6) (T := TX6) (N := 28) hx hb hts iX6_readEdge_X6 hown hK.1 hP 0 rfl rfl 13 (by decide) (hts (.fieldLink RX6 137 "DarkPlaceModel" "readEdges" "I") (List.mem_of_getElem? (i := 4) rfl)) (fun _ h9 => h9) rfl dX6_readEdge_51 ?_
          refine lv_bipush (v := 10) hx hb dX6_readEdge_54 (by decide) ?_
          refine dk_ceq (tgt := 63) hx hb dX6_readEdge_56 (by decide) hf (fun hf => ?_) (fun hf => ?_)
          · refine lv_iconst (v := 0) hx hb dX6_readEdge_63 (by decide) ?_
            have e := Option.some.inj hf
            simp only [Prod.mk.injEq] at e
            obtain ⟨e0, e1, e2, e3⟩ := e
            subst e1
            subst e2
            subst e3
            exact W.zret (v := 0) hx hb hr rfl (fun t ht hW => ⟨⟨0, (), rfl, e0, by rw [ht]; exact hP, hD⟩, hS.F ht⟩) hS.2.2 dX6_readEdge_64
          · refine lv_iload_n hx hb dX6_readEdge_59 rfl (lv_at hl 1 rfl) ?_
            refine dk_ine (tgt := 65) hx hb dX6_readEdge_60 (by decide) hf (fun hf => ?_) (fun hf => ?_)
            · refine lv_aload_n hx hb dX6_readEdge_65 rfl (lv_at hl 0 rfl) ?_
              refine lv_dup hx hb dX6_readEdge_66 rfl ?_
              refine va_get (D := D) (ci := 6) (v := .int (M_I 3)) (C := RX6) (T := TX6) (N := 28) hx hb hts iX6_readEdge_X6 hown hK.1 hP 0 rfl rfl 3 (by decide) (hts (.fieldLink RX6 129 "DarkPlaceModel" "place" "I") (List.mem_of_getElem? (i := 3) rfl)) (fun _ h9 => h9) rfl dX6_readEdge_67 ?_
              refine lv_iconst (v := 1) hx hb dX6_readEdge_70 (by decide) ?_
              refine lv_iadd hx hb dX6_readEdge_71 ?_
              refine va_put (D := D) (ci := 6) (v := .int ((M_I 3) + 1)) (ty := .int) (C := RX6) (T := TX6) (N := 28) hx hb hts iX6_readEdge_X6 tyX6 tyX6_ok nmX6 hown hK.1 hP hD hS 0 rfl rfl 3 (by decide) (hts (.fieldLink RX6 129 "DarkPlaceModel" "place" "I") (List.mem_of_getElem? (i := 3) rfl)) (fun _ h9 => h9) rfl (by decide +kernel) rfl rfl (Nat.le_of_ble_eq_true rfl) dX6_readEdge_72 (fun H locs hP hD hS => ?_)
              have hP : va_P D vwCl (wMd cy hM aM sdM (upd M_I 3 ((M_I 3) + 1), dk_upA (dk_upA M.2 14 M_14) 15 M_15)) H := hP
              have hD : va_D A (wMd cy hM aM sdM (upd M_I 3 ((M_I 3) + 1), dk_upA (dk_upA M.2 14 M_14) 15 M_15)) := hD
              refine lv_aload_n hx hb dX6_readEdge_75 rfl (lv_at hl 0 rfl) ?_
              refine lv_iload_n hx hb dX6_readEdge_76 rfl (lv_at hl 1 rfl) ?_
              obtain ⟨⟨r77, i77_0⟩, k77, hf⟩ := dk_bind hf
              dsimp only at hf
              have hPc := hP.sub (ws' := wMd cy hM aM sdM (upd M_I 3 ((M_I 3) + 1), dk_upA (dk_upA M.2 14 M_14) 15 M_15)) [0, 1, 2, 3, 4, 5, 6, 7, 8, 9, 10, 11, 12, 13] rfl
              have hDc := hD.sub (ws' := wMd cy hM aM sdM (upd M_I 3 ((M_I 3) + 1), dk_upA (dk_upA M.2 14 M_14) 15 M_15)) [0, 1, 2, 3, 4, 5, 6, 7, 8, 9, 10, 11, 12, 13] (by decide) rfl
              have hFc := va_free (wc := wMd cy hM aM sdM (upd M_I 3 ((M_I 3) + 1), dk_upA (dk_upA M.2 14 M_14) 15 M_15)) hD hS hA [0, 1, 2, 3, 4, 5, 6, 7, 8, 9, 10, 11, 12, 13] rfl
              refine va_calli (va_runV (As := [.int x1]) (rest := []) ⟨hx, hb, hml, hown, hts⟩ (kX6_figure l D cy hM aM sdM H.size (upd M_I 3 ((M_I 3) + 1), dk_upA (dk_upA M.2 14 M_14) 15 M_15) x1 r77 i77_0 k77) (cwV 1 hts gX6_readEdge_X6_figure rfl rfl rfl (by decide +kernel) ⟨Nat.le_of_ble_eq_true rfl, Nat.le_of_ble_eq_true rfl⟩) (dk_premV hK hPc hDc (ci := 6) (q0 := 0) rfl rfl) rfl rfl hl.1 rfl (lv_room (Nat.le_of_ble_eq_true rfl)) dX6_readEdge_77 ⟨Nat.zero_le _, Nat.zero_le _⟩) hS (fun q _ h => hFc q h) hFc (fun xr77 u t H1 locs ht hvm hw hB hz1 hk1 hS => ?_)
              obtain ⟨hP1, hD1⟩ := hB
              rw [ht] at hP1
              rw [hw]
              obtain ⟨hP, hD⟩ := va_join (wr := ([] : List Nat).filterMap (fun i => (wMd cy hM aM sdM (upd M_I 3 ((M_I 3) + 1), dk_upA (dk_upA M.2 14 M_14) 15 M_15))[i]?)) (w1 := wMd cy hM aM sdM (i77_0, dk_upA (dk_upA M.2 14 M_14) 15 M_15)) hP hD [0, 1, 2, 3, 4, 5, 6, 7, 8, 9, 10, 11, 12, 13] [] rfl rfl (by decide) (by decide) hk1 hFc hP1 hD1
              generalize H1 = H at hP hS ⊢
              have hP : va_P D vwCl (wMd cy hM aM sdM (i77_0, dk_upA (dk_upA M.2 14 M_14) 15 M_15)) H := hP.sub [0, 1, 2, 3, 4, 5, 6, 7, 8, 9, 10, 11, 12, 13] rfl
              have hD : va_D A (wMd cy hM aM sdM (i77_0, dk_upA (dk_upA M.2 14 M_14) 15 M_15)) := hD.sub [0, 1, 2, 3, 4, 5, 6, 7, 8, 9, 10, 11, 12, 13] (by decide) rfl
              refine lv_istore_n (lv' := [(2, .int r77), (0, .ref hM), (1, .int x1)]) hx hb dX6_readEdge_80 rfl hl (by decide) rfl (fun ls hl => ?_)
              refine lv_iload_n hx hb dX6_readEdge_81 rfl (lv_at hl 0 rfl) ?_
              refine lv_bipush (v := (-9)) hx hb dX6_readEdge_82 (by decide) ?_
              refine dk_cne (tgt := 92) hx hb dX6_readEdge_84 (by decide) hf (fun hf => ?_) (fun hf => ?_)
              · refine lv_aload_n hx hb dX6_readEdge_92 rfl (lv_at hl 1 rfl) ?_
                refine lv_aload_n hx hb dX6_readEdge_93 rfl (lv_at hl 1 rfl) ?_
                refine lv_iload_n hx hb dX6_readEdge_94 rfl (lv_at hl 0 rfl) ?_
                obtain ⟨r95, k95, hf⟩ := dk_bind hf
                refine dk_ri (va_runV (As := [.int r77]) (rest := [.ref hM]) ⟨hx, hb, hml, hown, hts⟩ (kX6_apart l D cy hM aM sdM (i77_0, dk_upA (dk_upA M.2 14 M_14) 15 M_15) r77 r95 k95) (cwV 1 hts gX6_readEdge_X6_apart rfl rfl rfl (by decide +kernel) ⟨Nat.le_of_ble_eq_true rfl, Nat.le_of_ble_eq_true rfl⟩) (dk_preV hK (hP.sub (ws' := wMd cy hM aM sdM (i77_0, dk_upA (dk_upA M.2 14 M_14) 15 M_15)) [0, 1, 2, 3, 4, 5, 6, 7, 8, 9, 10, 11, 12, 13] rfl) (ci := 6) (q0 := 0) rfl rfl) rfl rfl hl.1 rfl (lv_room (Nat.le_of_ble_eq_true rfl)) dX6_readEdge_95 ⟨Nat.zero_le _, Nat.zero_le _⟩) ?_
                obtain ⟨⟨r98, i98_0⟩, k98, hf⟩ := dk_bind hf
                dsimp only at hf
                have hPc := hP.sub (ws' := wMd cy hM aM sdM (i77_0, dk_upA (dk_upA M.2 14 M_14) 15 M_15)) [0, 1, 2, 3, 4, 5, 6, 7, 8, 9, 10, 11, 12, 13] rfl
                have hDc := hD.sub (ws' := wMd cy hM aM sdM (i77_0, dk_upA (dk_upA M.2 14 M_14) 15 M_15)) [0, 1, 2, 3, 4, 5, 6, 7, 8, 9, 10, 11, 12, 13] (by decide) rfl
                have hFc := va_free (wc := wMd cy hM aM sdM (i77_0, dk_upA (dk_upA M.2 14 M_14) 15 M_15)) hD hS hA [0, 1, 2, 3, 4, 5, 6, 7, 8, 9, 10, 11, 12, 13] rfl
                refine va_calli (va_runV (As := [.int r95]) (rest := []) ⟨hx, hb, hml, hown, hts⟩ (kX6_figure l D cy hM aM sdM H.size (i77_0, dk_upA (dk_upA M.2 14 M_14) 15 M_15) r95 r98 i98_0 k98) (cwV 1 hts gX6_readEdge_X6_figure rfl rfl rfl (by decide +kernel) ⟨Nat.le_of_ble_eq_true rfl, Nat.le_of_ble_eq_true rfl⟩) (dk_premV hK hPc hDc (ci := 6) (q0 := 0) rfl rfl) rfl rfl hl.1 rfl (lv_room (Nat.le_of_ble_eq_true rfl)) dX6_readEdge_98 ⟨Nat.zero_le _, Nat.zero_le _⟩) hS (fun q _ h => hFc q h) hFc (fun xr98 u t H1 locs ht hvm hw hB hz1 hk1 hS => ?_)
                obtain ⟨hP1, hD1⟩ := hB
                rw [ht] at hP1
                rw [hw]
                obtain ⟨hP, hD⟩ := va_join (wr := ([] : List Nat).filterMap (fun i => (wMd cy hM aM sdM (i77_0, dk_upA (dk_upA M.2 14 M_14) 15 M_15))[i]?)) (w1 := wMd cy hM aM sdM (i98_0, dk_upA (dk_upA M.2 14 M_14) 15 M_15)) hP hD [0, 1, 2, 3, 4, 5, 6, 7, 8, 9, 10, 11, 12, 13] [] rfl rfl (by decide) (by decide) hk1 hFc hP1 hD1
                generalize H1 = H at hP hS ⊢
                have hP : va_P D vwCl (wMd cy hM aM sdM (i98_0, dk_upA (dk_upA M.2 14 M_14) 15 M_15)) H := hP.sub [0, 1, 2, 3, 4, 5, 6, 7, 8, 9, 10, 11, 12, 13] rfl
                have hD : va_D A (wMd cy hM aM sdM (i98_0, dk_upA (dk_upA M.2 14 M_14) 15 M_15)) := hD.sub [0, 1, 2, 3, 4, 5, 6, 7, 8, 9, 10, 11, 12, 13] (by decide) rfl
                exact L101 r77 r98 i98_0 M_14 M_15 _ _ _ hP hD hS (lv_sub hl [1, 0] rfl) hf
              · refine lv_bipush (v := (-9)) hx hb dX6_readEdge_87 (by decide) ?_
                refine lv_goto (tgt := 101) hx hb dX6_readEdge_89 (by decide) ?_
                exact L101 r77 (-9) i77_0 M_14 M_15 _ _ _ hP hD hS (lv_sub hl [1, 0] rfl) hf
            · refine lv_iconst (v := 0) hx hb dX6_readEdge_63 (by decide) ?_
              have e := Option.some.inj hf
              simp only [Prod.mk.injEq] at e
              obtain ⟨e0, e1, e2, e3⟩ := e
              subst e1
              subst e2
              subst e3
              exact W.zret (v := 0) hx hb hr rfl (fun t ht hW => ⟨⟨0, (), rfl, e0, by rw [ht]; exact hP, hD⟩, hS.F ht⟩) hS.2.2 dX6_readEdge_64
      · refine lv_iload_n hx hb dX6_readEdge_12 rfl (lv_at hl 1 rfl) ?_
        refine lv_aload_n hx hb dX6_readEdge_13 rfl (lv_at hl 0 rfl) ?_
        refine lv_iload_n hx hb dX6_readEdge_14 rfl (lv_at hl 2 rfl) ?_
        obtain ⟨r15, k15, hf⟩ := dk_bind hf
        refine dk_ri (va_runV (As := [.int x2]) (rest := [.int x1]) ⟨hx, hb, hml, hown, hts⟩ (kX6_apart l D cy hM aM sdM (M_I, dk_upA (dk_upA M.2 14 M_14) 15 M_15) x2 r15 k15) (cwV 1 hts gX6_readEdge_X6_apart rfl rfl rfl (by decide +kernel) ⟨Nat.le_of_ble_eq_true rfl, Nat.le_of_ble_eq_true rfl⟩) (dk_preV hK (hP.sub (ws' := wMd cy hM aM sdM (M_I, dk_upA (dk_upA M.2 14 M_14) 15 M_15)) [0, 1, 2, 3, 4, 5, 6, 7, 8, 9, 10, 11, 12, 13] rfl) (ci := 6) (q0 := 0) rfl rfl) rfl rfl hl.1 rfl (lv_room (Nat.le_of_ble_eq_true rfl)) dX6_readEdge_15 ⟨Nat.zero_le _, Nat.zero_le _⟩) ?_
        refine dk_ieq (tgt := 27) hx hb dX6_readEdge_18 (by decide) hf (fun hf => ?_) (fun hf => ?_)
        · refine lv_iconst (v := 0) hx hb dX6_readEdge_27 (by decide) ?_
          refine lv_ior hx hb dX6_readEdge_28 ?_
          refine lv_istore_n (lv' := [(1, .int (x1 ||| 0)), (0, .ref hM), (2, .int x2)]) hx hb dX6_readEdge_29 rfl hl (by decide) rfl (fun ls hl => ?_)
          refine lv_iinc (v := x2 + 1) (lv' := [(2, .int (x2 + 1)), (1, .int (x1 ||| 0)), (0, .ref hM)]) hx hb dX6_readEdge_30 hl (k := 2) rfl rfl (by decide) rfl (fun ls hl => ?_)
          refine lv_goto (tgt := 4) hx hb dX6_readEdge_33 (by decide) ?_
          exact ih4 (x1 ||| 0) (x2 + 1) M_I M_14 M_15 _ _ _ hP hD hS (lv_sub hl [2, 1, 0] rfl) hf
        · refine lv_iconst (v := 1) hx hb dX6_readEdge_21 (by decide) ?_
          refine lv_iload_n hx hb dX6_readEdge_22 rfl (lv_at hl 2 rfl) ?_
          refine lv_ishl hx hb dX6_readEdge_23 ?_
          refine lv_goto (tgt := 28) hx hb dX6_readEdge_24 (by decide) ?_
          refine lv_ior hx hb dX6_readEdge_28 ?_
          refine lv_istore_n (lv' := [(1, .int (x1 ||| ((1 : Int32) <<< (x2 &&& 31)))), (0, .ref hM), (2, .int x2)]) hx hb dX6_readEdge_29 rfl hl (by decide) rfl (fun ls hl => ?_)
          refine lv_iinc (v := x2 + 1) (lv' := [(2, .int (x2 + 1)), (1, .int (x1 ||| ((1 : Int32) <<< (x2 &&& 31)))), (0, .ref hM)]) hx hb dX6_readEdge_30 hl (k := 2) rfl rfl (by decide) rfl (fun ls hl => ?_)
          refine lv_goto (tgt := 4) hx hb dX6_readEdge_33 (by decide) ?_
          exact ih4 (x1 ||| ((1 : Int32) <<< (x2 &&& 31))) (x2 + 1) M_I M_14 M_15 _ _ _ hP hD hS (lv_sub hl [2, 1, 0] rfl) hf
  unfold fX6_readEdge at hf
  refine lv_iconst (v := 0) hx hb dX6_readEdge_0 (by decide) ?_
  refine lv_istore_n (lv' := [(1, .int 0), (0, .ref hM)]) hx hb dX6_readEdge_1 rfl hl (by decide) rfl (fun ls hl => ?_)
  refine lv_iconst (v := 0) hx hb dX6_readEdge_2 (by decide) ?_
  refine lv_istore_n (lv' := [(2, .int 0), (1, .int 0), (0, .ref hM)]) hx hb dX6_readEdge_3 rfl hl (by decide) rfl (fun ls hl => ?_)
  exact L4 1000 0 0 M.1 (M.2 14) (M.2 15) _ _ _ hP hD hS (lv_sub hl [2, 1, 0] rfl) hf
theorem iX6_readNet_X6 : ∀ w ∈ wsX60, w ∈ wsX6_readNet := fun _ h => List.mem_cons_of_mem _ (List.mem_append_right _ h)
set_option maxHeartbeats 4000000 in
set_option maxRecDepth 100000 in
theorem kX6_readNet (l : Launch) (D : va_G) (cy : Nat → ClassId) (hM : Nat) (aM : Nat → Nat) (sdM : Int64) (sz : Nat) (M : dk_O)  (r : Int32) (oM_I : (Nat → Int32)) (oM_14 : (Nat → Int32)) (oM_15 : (Nat → Int32)) (hf : fX6_readNet M = some (r, oM_I, oM_14, oM_15)) : dk_MuI l yX6_readNet wsX6_readNet ({ frames := 3, cells := 0, slots := 0, locals := 70 }) D cy [.ref hM] (wMd cy hM aM sdM M) (wMd cy hM aM sdM (oM_I, dk_upA (dk_upA M.2 14 oM_14) 15 oM_15)) sz r := by
  refine Met.ofW (cc := cX6_readNet) (maxL := 1) (ret := (some .int)) (by decide) rfl ?_
  intro p e s m args below meth c s₁ B hml hv
  obtain ⟨rfl, hsz, hP, hK, hD0⟩ := hv
  have hx := B.exec
  have hb := B.bytes
  have hr := B.returns
  have hts := atoms_spec (ws := wsX6_readNet) B.pre
  have hown : s.vm.findClass RX6 = some m.cls := findClass_of_methodNamed B.named
  have hlocks := B.notSynchronized
  subst hsz
  have hD := hD0.self (sz := s.heap.size)
  generalize hAe : va_A (wMd cy hM aM sdM M) s.heap.size = A at hD ⊢
  have hA : ∀ q : Nat, s.heap.size ≤ q → A q := fun q h => by rw [← hAe]; exact Or.inr h
  have hS : va_S A s.heap s.heap [] := va_S.rf
  have hl := lv_entry ([.ref hM]) (n := 1) (Nat.le_of_ble_eq_true rfl)
  rw [lg_entry_eq]
  generalize (lg_sl ([.ref hM]) ++ List.replicate (1 - (lg_sl ([.ref hM])).length) Slot.unset).toArray = ls at hl ⊢
  have hl : lv_has ls 1 [(0, .ref hM)] := hl
  have L153 : ∀ (fu153 : Nat) (M_I : (Nat → Int32)) (M_14 : (Nat → Int32)) (M_15 : (Nat → Int32)) (H : Heap) (locs : List Loc) (ls : Array Slot), va_P D vwCl (wMd cy hM aM sdM (M_I, dk_upA (dk_upA M.2 14 M_14) 15 M_15)) H → va_D A (wMd cy hM aM sdM (M_I, dk_upA (dk_upA M.2 14 M_14) 15 M_15)) → va_S A s.heap H locs → lv_has ls 1 [(0, .ref hM)] → fX6_readNet_L153 M fu153 M_I M_14 M_15 = some (r, oM_I, oM_14, oM_15) → W p l e (headSpec wsX6_readNet ({ frames := 3, cells := 0, slots := 0, locals := 70 })).room s m ([.ref hM]).toArray below meth c H locs 0 0 (MQ below (va_Qi (fun (x : Int32) (_ : Unit) => x = r) (dk_B D (wMd cy hM aM sdM (oM_I, dk_upA (dk_upA M.2 14 oM_14) 15 oM_15)) A) A) ([.ref hM]).toArray s 0 0 A) (F0 m 153 ls []) := by
    intro fu153
    induction fu153 with
    | zero =>
      intro M_I M_14 M_15 H locs ls hP hD hS hl hf
      rw [fX6_readNet_L153] at hf
      cases hf
    | succ fu153 ih153 =>
      intro M_I M_14 M_15 H locs ls hP hD hS hl hf
      rw [fX6_readNet_L153] at hf
      refine lv_aload_n hx hb dX6_readNet_153 rfl (lv_at hl 0 rfl) ?_
      refine va_get (D := D) (ci := 6) (v := .int (M_I 3)) (C := RX6) (T := TX6) (N := 28) hx hb hts iX6_readNet_X6 hown hK.1 hP 0 rfl rfl 3 (by decide) (hts (.fieldLink RX6 129 "DarkPlaceModel" "place" "I") (List.mem_of_getElem? (i := 1) rfl)) (fun _ h9 => h9) rfl dX6_readNet_154 ?_
      refine lv_aload_n hx hb dX6_readNet_157 rfl (lv_at hl 0 rfl) ?_
      refine va_get (D := D) (ci := 6) (v := .int (M_I 2)) (C := RX6) (T := TX6) (N := 28) hx hb hts iX6_readNet_X6 hown hK.1 hP 0 rfl rfl 2 (by decide) (hts (.fieldLink RX6 126 "DarkPlaceModel" "textSize" "I") (List.mem_of_getElem? (i := 3) rfl)) (fun _ h9 => h9) rfl dX6_readNet_158 ?_
      refine dk_cge (tgt := 176) hx hb dX6_readNet_161 (by decide) hf (fun hf => ?_) (fun hf => ?_)
      · refine lv_bipush (v := (-9)) hx hb dX6_readNet_176 (by decide) ?_
        have e := Option.some.inj hf
        simp only [Prod.mk.injEq] at e
        obtain ⟨e0, e1, e2, e3⟩ := e
        subst e1
        subst e2
        subst e3
        exact W.iret (v := (-9)) hx hb hr (fun t ht hW => ⟨⟨(-9), (), rfl, e0, by rw [ht]; exact hP, hD⟩, hS.F ht⟩) hS.2.2 dX6_readNet_178
      · refine lv_aload_n hx hb dX6_readNet_164 rfl (lv_at hl 0 rfl) ?_
        obtain ⟨⟨r165, i165_0, g165_1, g165_2⟩, k165, hf⟩ := dk_bind hf
        dsimp only at hf
        have hPc := hP.sub (ws' := wMd cy hM aM sdM (M_I, dk_upA (dk_upA M.2 14 M_14) 15 M_15)) [0, 1, 2, 3, 4, 5, 6, 7, 8, 9, 10, 11, 12, 13] rfl
        have hDc := hD.sub (ws' := wMd cy hM aM sdM (M_I, dk_upA (dk_upA M.2 14 M_14) 15 M_15)) [0, 1, 2, 3, 4, 5, 6, 7, 8, 9, 10, 11, 12, 13] (by decide) rfl
        have hFc := va_free (wc := wMd cy hM aM sdM (M_I, dk_upA (dk_upA M.2 14 M_14) 15 M_15)) hD hS hA [0, 1, 2, 3, 4, 5, 6, 7, 8, 9, 10, 11, 12, 13] rfl
        refine va_calli (va_runV (As := []) (rest := []) ⟨hx, hb, hml, hown, hts⟩ (kX6_readEdge l D cy hM aM sdM H.size (M_I, dk_upA (dk_upA M.2 14 M_14) 15 M_15) r165 i165_0 g165_1 g165_2 k165) (cwV 0 hts gX6_readNet_X6_readEdge rfl rfl rfl (by decide +kernel) ⟨Nat.le_of_ble_eq_true rfl, Nat.le_of_ble_eq_true rfl⟩) (dk_premV hK hPc hDc (ci := 6) (q0 := 0) rfl rfl) rfl rfl hl.1 rfl (lv_room (Nat.le_of_ble_eq_true rfl)) dX6_readNet_165 ⟨Nat.zero_le _, Nat.zero_le _⟩) hS (fun q _ h => hFc q h) hFc (fun xr165 u t H1 locs ht hvm hw hB hz1 hk1 hS => ?_)
        obtain ⟨hP1, hD1⟩ := hB
        rw [ht] at hP1
        rw [hw]
        obtain ⟨hP, hD⟩ := va_join (wr := ([] : List Nat).filterMap (fun i => (wMd cy hM aM sdM (M_I, dk_upA (dk_upA M.2 14 M_14) 15 M_15))[i]?)) (w1 := wMd cy hM aM sdM (i165_0, dk_upA (dk_upA M.2 14 g165_1) 15 g165_2)) hP hD [0, 1, 2, 3, 4, 5, 6, 7, 8, 9, 10, 11, 12, 13] [] rfl rfl (by decide) (by decide) hk1 hFc hP1 hD1
        generalize H1 = H at hP hS ⊢
        have hP : va_P D vwCl (wMd cy hM aM sdM (i165_0, dk_upA (dk_upA M.2 14 g165_1) 15 g165_2)) H := hP.sub [0, 1, 2, 3, 4, 5, 6, 7, 8, 9, 10, 11, 12, 13] rfl
        have hD : va_D A (wMd cy hM aM sdM (i165_0, dk_upA (dk_upA M.2 14 g165_1) 15 g165_2)) := hD.sub [0, 1, 2, 3, 4, 5, 6, 7, 8, 9, 10, 11, 12, 13] (by decide) rfl
        refine dk_ine (tgt := 153) hx hb dX6_readNet_168 (by decide) hf (fun hf => ?_) (fun hf => ?_)
        · exact ih153 i165_0 g165_1 g165_2 _ _ _ hP hD hS (lv_sub hl [0] rfl) hf
        · refine lv_aload_n hx hb dX6_readNet_171 rfl (lv_at hl 0 rfl) ?_
          refine va_get (D := D) (ci := 6) (v := .int (i165_0 3)) (C := RX6) (T := TX6) (N := 28) hx hb hts iX6_readNet_X6 hown hK.1 hP 0 rfl rfl 3 (by decide) (hts (.fieldLink RX6 129 "DarkPlaceModel" "place" "I") (List.mem_of_getElem? (i := 1) rfl)) (fun _ h9 => h9) rfl dX6_readNet_172 ?_
          have e := Option.some.inj hf
          simp only [Prod.mk.injEq] at e
          obtain ⟨e0, e1, e2, e3⟩ := e
          subst e1
          subst e2
          subst e3
          exact W.iret (v := i165_0 3) hx hb hr (fun t ht hW => ⟨⟨i165_0 3, (), rfl, e0, by rw [ht]; exact hP, hD⟩, hS.F ht⟩) hS.2.2 dX6_readNet_175
  have L136 : ∀ (s1 : Int32) (M_I : (Nat → Int32)) (M_14 : (Nat → Int32)) (M_15 : (Nat → Int32)) (H : Heap) (locs : List Loc) (ls : Array Slot), va_P D vwCl (wMd cy hM aM sdM (M_I, dk_upA (dk_upA M.2 14 M_14) 15 M_15)) H → va_D A (wMd cy hM aM sdM (M_I, dk_upA (dk_upA M.2 14 M_14) 15 M_15)) → va_S A s.heap H locs → lv_has ls 1 [(0, .ref hM)] → fX6_readNet_L136 M s1 M_I M_14 M_15 = some (r, oM_I, oM_14, oM_15) → W p l e (headSpec wsX6_readNet ({ frames := 3, cells := 0, slots := 0, locals := 70 })).room s m ([.ref hM]).toArray below meth c H locs 0 0 (MQ below (va_Qi (fun (x : Int32) (_ : Unit) => x = r) (dk_B D (wMd cy hM aM sdM (oM_I, dk_upA (dk_upA M.2 14 oM_14) 15 oM_15)) A) A) ([.ref hM]).toArray s 0 0 A) (F0 m 136 ls [.int s1, .ref hM]) := by
    intro s1 M_I M_14 M_15 H locs ls hP hD hS hl hf
    unfold fX6_readNet_L136 at hf
    refine va_put (D := D) (ci := 6) (v := .int s1) (ty := .int) (C := RX6) (T := TX6) (N := 28) hx hb hts iX6_readNet_X6 tyX6 tyX6_ok nmX6 hown hK.1 hP hD hS 0 rfl rfl 12 (by decide) (hts (.fieldLink RX6 152 "DarkPlaceModel" "readSearchers" "I") (List.mem_of_getElem? (i := 8) rfl)) (fun _ h9 => h9) rfl (by decide +kernel) rfl rfl (Nat.le_of_ble_eq_true rfl) dX6_readNet_136 (fun H locs hP hD hS => ?_)
    have hP : va_P D vwCl (wMd cy hM aM sdM (upd M_I 12 s1, dk_upA (dk_upA M.2 14 M_14) 15 M_15)) H := hP
    have hD : va_D A (wMd cy hM aM sdM (upd M_I 12 s1, dk_upA (dk_upA M.2 14 M_14) 15 M_15)) := hD
    refine lv_aload_n hx hb dX6_readNet_139 rfl (lv_at hl 0 rfl) ?_
    refine va_get (D := D) (ci := 6) (v := .int s1) (C := RX6) (T := TX6) (N := 28) hx hb hts iX6_readNet_X6 hown hK.1 hP 0 rfl rfl 12 (by decide) (hts (.fieldLink RX6 152 "DarkPlaceModel" "readSearchers" "I") (List.mem_of_getElem? (i := 8) rfl)) (fun _ h9 => h9) rfl dX6_readNet_140 ?_
    refine lv_bipush (v := (-9)) hx hb dX6_readNet_143 (by decide) ?_
    refine dk_cne (tgt := 153) hx hb dX6_readNet_145 (by decide) hf (fun hf => ?_) (fun hf => ?_)
    · exact L153 1000 (upd M_I 12 s1) M_14 M_15 _ _ _ hP hD hS (lv_sub hl [0] rfl) hf
    · refine lv_aload_n hx hb dX6_readNet_148 rfl (lv_at hl 0 rfl) ?_
      refine va_get (D := D) (ci := 6) (v := .int (M_I 3)) (C := RX6) (T := TX6) (N := 28) hx hb hts iX6_readNet_X6 hown hK.1 hP 0 rfl rfl 3 (by decide) (hts (.fieldLink RX6 129 "DarkPlaceModel" "place" "I") (List.mem_of_getElem? (i := 1) rfl)) (fun _ h9 => h9) rfl dX6_readNet_149 ?_
      have e := Option.some.inj hf
      simp only [Prod.mk.injEq] at e
      obtain ⟨e0, e1, e2, e3⟩ := e
      subst e1
      subst e2
      subst e3
      exact W.iret (v := M_I 3) hx hb hr (fun t ht hW => ⟨⟨M_I 3, (), rfl, e0, by rw [ht]; exact hP, hD⟩, hS.F ht⟩) hS.2.2 dX6_readNet_152
  have L112 : ∀ (s1 : Int32) (M_I : (Nat → Int32)) (M_14 : (Nat → Int32)) (M_15 : (Nat → Int32)) (H : Heap) (locs : List Loc) (ls : Array Slot), va_P D vwCl (wMd cy hM aM sdM (M_I, dk_upA (dk_upA M.2 14 M_14) 15 M_15)) H → va_D A (wMd cy hM aM sdM (M_I, dk_upA (dk_upA M.2 14 M_14) 15 M_15)) → va_S A s.heap H locs → lv_has ls 1 [(0, .ref hM)] → fX6_readNet_L112 M s1 M_I M_14 M_15 = some (r, oM_I, oM_14, oM_15) → W p l e (headSpec wsX6_readNet ({ frames := 3, cells := 0, slots := 0, locals := 70 })).room s m ([.ref hM]).toArray below meth c H locs 0 0 (MQ below (va_Qi (fun (x : Int32) (_ : Unit) => x = r) (dk_B D (wMd cy hM aM sdM (oM_I, dk_upA (dk_upA M.2 14 oM_14) 15 oM_15)) A) A) ([.ref hM]).toArray s 0 0 A) (F0 m 112 ls [.int s1, .ref hM]) := by
    intro s1 M_I M_14 M_15 H locs ls hP hD hS hl hf
    unfold fX6_readNet_L112 at hf
    refine va_put (D := D) (ci := 6) (v := .int s1) (ty := .int) (C := RX6) (T := TX6) (N := 28) hx hb hts iX6_readNet_X6 tyX6 tyX6_ok nmX6 hown hK.1 hP hD hS 0 rfl rfl 11 (by decide) (hts (.fieldLink RX6 149 "DarkPlaceModel" "readHole" "I") (List.mem_of_getElem? (i := 7) rfl)) (fun _ h9 => h9) rfl (by decide +kernel) rfl rfl (Nat.le_of_ble_eq_true rfl) dX6_readNet_112 (fun H locs hP hD hS => ?_)
    have hP : va_P D vwCl (wMd cy hM aM sdM (upd M_I 11 s1, dk_upA (dk_upA M.2 14 M_14) 15 M_15)) H := hP
    have hD : va_D A (wMd cy hM aM sdM (upd M_I 11 s1, dk_upA (dk_upA M.2 14 M_14) 15 M_15)) := hD
    refine lv_aload_n hx hb dX6_readNet_115 rfl (lv_at hl 0 rfl) ?_
    refine lv_aload_n hx hb dX6_readNet_116 rfl (lv_at hl 0 rfl) ?_
    refine va_get (D := D) (ci := 6) (v := .int s1) (C := RX6) (T := TX6) (N := 28) hx hb hts iX6_readNet_X6 hown hK.1 hP 0 rfl rfl 11 (by decide) (hts (.fieldLink RX6 149 "DarkPlaceModel" "readHole" "I") (List.mem_of_getElem? (i := 7) rfl)) (fun _ h9 => h9) rfl dX6_readNet_117 ?_
    refine lv_bipush (v := (-9)) hx hb dX6_readNet_120 (by decide) ?_
    refine dk_cne (tgt := 130) hx hb dX6_readNet_122 (by decide) hf (fun hf => ?_) (fun hf => ?_)
    · refine lv_aload_n hx hb dX6_readNet_130 rfl (lv_at hl 0 rfl) ?_
      refine lv_bipush (v := 30) hx hb dX6_readNet_131 (by decide) ?_
      obtain ⟨⟨r133, i133_0⟩, k133, hf⟩ := dk_bind hf
      dsimp only at hf
      have hPc := hP.sub (ws' := wMd cy hM aM sdM (upd M_I 11 s1, dk_upA (dk_upA M.2 14 M_14) 15 M_15)) [0, 1, 2, 3, 4, 5, 6, 7, 8, 9, 10, 11, 12, 13] rfl
      have hDc := hD.sub (ws' := wMd cy hM aM sdM (upd M_I 11 s1, dk_upA (dk_upA M.2 14 M_14) 15 M_15)) [0, 1, 2, 3, 4, 5, 6, 7, 8, 9, 10, 11, 12, 13] (by decide) rfl
      have hFc := va_free (wc := wMd cy hM aM sdM (upd M_I 11 s1, dk_upA (dk_upA M.2 14 M_14) 15 M_15)) hD hS hA [0, 1, 2, 3, 4, 5, 6, 7, 8, 9, 10, 11, 12, 13] rfl
      refine va_calli (va_runV (As := [.int 30]) (rest := [.ref hM]) ⟨hx, hb, hml, hown, hts⟩ (kX6_figure l D cy hM aM sdM H.size (upd M_I 11 s1, dk_upA (dk_upA M.2 14 M_14) 15 M_15) 30 r133 i133_0 k133) (cwV 1 hts gX6_readNet_X6_figure rfl rfl rfl (by decide +kernel) ⟨Nat.le_of_ble_eq_true rfl, Nat.le_of_ble_eq_true rfl⟩) (dk_premV hK hPc hDc (ci := 6) (q0 := 0) rfl rfl) rfl rfl hl.1 rfl (lv_room (Nat.le_of_ble_eq_true rfl)) dX6_readNet_133 ⟨Nat.zero_le _, Nat.zero_le _⟩) hS (fun q _ h => hFc q h) hFc (fun xr133 u t H1 locs ht hvm hw hB hz1 hk1 hS => ?_)
      obtain ⟨hP1, hD1⟩ := hB
      rw [ht] at hP1
      rw [hw]
      obtain ⟨hP, hD⟩ := va_join (wr := ([] : List Nat).filterMap (fun i => (wMd cy hM aM sdM (upd M_I 11 s1, dk_upA (dk_upA M.2 14 M_14) 15 M_15))[i]?)) (w1 := wMd cy hM aM sdM (i133_0, dk_upA (dk_upA M.2 14 M_14) 15 M_15)) hP hD [0, 1, 2, 3, 4, 5, 6, 7, 8, 9, 10, 11, 12, 13] [] rfl rfl (by decide) (by decide) hk1 hFc hP1 hD1
      generalize H1 = H at hP hS ⊢
      have hP : va_P D vwCl (wMd cy hM aM sdM (i133_0, dk_upA (dk_upA M.2 14 M_14) 15 M_15)) H := hP.sub [0, 1, 2, 3, 4, 5, 6, 7, 8, 9, 10, 11, 12, 13] rfl
      have hD : va_D A (wMd cy hM aM sdM (i133_0, dk_upA (dk_upA M.2 14 M_14) 15 M_15)) := hD.sub [0, 1, 2, 3, 4, 5, 6, 7, 8, 9, 10, 11, 12, 13] (by decide) rfl
      exact L136 r133 i133_0 M_14 M_15 _ _ _ hP hD hS (lv_sub hl [0] rfl) hf
    · refine lv_bipush (v := (-9)) hx hb dX6_readNet_125 (by decide) ?_
      refine lv_goto (tgt := 136) hx hb dX6_readNet_127 (by decide) ?_
      exact L136 (-9) (upd M_I 11 s1) M_14 M_15 _ _ _ hP hD hS (lv_sub hl [0] rfl) hf
  have L73 : ∀ (s1 : Int32) (M_I : (Nat → Int32)) (M_14 : (Nat → Int32)) (M_15 : (Nat → Int32)) (H : Heap) (locs : List Loc) (ls : Array Slot), va_P D vwCl (wMd cy hM aM sdM (M_I, dk_upA (dk_upA M.2 14 M_14) 15 M_15)) H → va_D A (wMd cy hM aM sdM (M_I, dk_upA (dk_upA M.2 14 M_14) 15 M_15)) → va_S A s.heap H locs → lv_has ls 1 [(0, .ref hM)] → fX6_readNet_L73 M s1 M_I M_14 M_15 = some (r, oM_I, oM_14, oM_15) → W p l e (headSpec wsX6_readNet ({ frames := 3, cells := 0, slots := 0, locals := 70 })).room s m ([.ref hM]).toArray below meth c H locs 0 0 (MQ below (va_Qi (fun (x : Int32) (_ : Unit) => x = r) (dk_B D (wMd cy hM aM sdM (oM_I, dk_upA (dk_upA M.2 14 oM_14) 15 oM_15)) A) A) ([.ref hM]).toArray s 0 0 A) (F0 m 73 ls [.int s1, .ref hM]) := by
    intro s1 M_I M_14 M_15 H locs ls hP hD hS hl hf
    unfold fX6_readNet_L73 at hf
    refine va_put (D := D) (ci := 6) (v := .int s1) (ty := .int) (C := RX6) (T := TX6) (N := 28) hx hb hts iX6_readNet_X6 tyX6 tyX6_ok nmX6 hown hK.1 hP hD hS 0 rfl rfl 10 (by decide) (hts (.fieldLink RX6 146 "DarkPlaceModel" "readHome" "I") (List.mem_of_getElem? (i := 6) rfl)) (fun _ h9 => h9) rfl (by decide +kernel) rfl rfl (Nat.le_of_ble_eq_true rfl) dX6_readNet_73 (fun H locs hP hD hS => ?_)
    have hP : va_P D vwCl (wMd cy hM aM sdM (upd M_I 10 s1, dk_upA (dk_upA M.2 14 M_14) 15 M_15)) H := hP
    have hD : va_D A (wMd cy hM aM sdM (upd M_I 10 s1, dk_upA (dk_upA M.2 14 M_14) 15 M_15)) := hD
    refine lv_aload_n hx hb dX6_readNet_76 rfl (lv_at hl 0 rfl) ?_
    refine lv_aload_n hx hb dX6_readNet_77 rfl (lv_at hl 0 rfl) ?_
    refine va_get (D := D) (ci := 6) (v := .int s1) (C := RX6) (T := TX6) (N := 28) hx hb hts iX6_readNet_X6 hown hK.1 hP 0 rfl rfl 10 (by decide) (hts (.fieldLink RX6 146 "DarkPlaceModel" "readHome" "I") (List.mem_of_getElem? (i := 6) rfl)) (fun _ h9 => h9) rfl dX6_readNet_78 ?_
    refine lv_bipush (v := (-9)) hx hb dX6_readNet_81 (by decide) ?_
    refine dk_cne (tgt := 91) hx hb dX6_readNet_83 (by decide) hf (fun hf => ?_) (fun hf => ?_)
    · refine lv_aload_n hx hb dX6_readNet_91 rfl (lv_at hl 0 rfl) ?_
      refine lv_iconst (v := 1) hx hb dX6_readNet_92 (by decide) ?_
      refine lv_aload_n hx hb dX6_readNet_93 rfl (lv_at hl 0 rfl) ?_
      refine va_get (D := D) (ci := 6) (v := .int (M_I 9)) (C := RX6) (T := TX6) (N := 28) hx hb hts iX6_readNet_X6 hown hK.1 hP 0 rfl rfl 9 (by decide) (hts (.fieldLink RX6 134 "DarkPlaceModel" "readPlaces" "I") (List.mem_of_getElem? (i := 5) rfl)) (fun _ h9 => h9) rfl dX6_readNet_94 ?_
      refine lv_ishl hx hb dX6_readNet_97 ?_
      refine lv_iconst (v := 1) hx hb dX6_readNet_98 (by decide) ?_
      refine lv_isub hx hb dX6_readNet_99 ?_
      refine lv_iconst (v := 1) hx hb dX6_readNet_100 (by decide) ?_
      refine lv_aload_n hx hb dX6_readNet_101 rfl (lv_at hl 0 rfl) ?_
      refine va_get (D := D) (ci := 6) (v := .int s1) (C := RX6) (T := TX6) (N := 28) hx hb hts iX6_readNet_X6 hown hK.1 hP 0 rfl rfl 10 (by decide) (hts (.fieldLink RX6 146 "DarkPlaceModel" "readHome" "I") (List.mem_of_getElem? (i := 6) rfl)) (fun _ h9 => h9) rfl dX6_readNet_102 ?_
      refine lv_ishl hx hb dX6_readNet_105 ?_
      refine lv_iconst (v := (-1)) hx hb dX6_readNet_106 (by decide) ?_
      refine lv_ixor hx hb dX6_readNet_107 ?_
      refine lv_iand hx hb dX6_readNet_108 ?_
      obtain ⟨⟨r109, i109_0⟩, k109, hf⟩ := dk_bind hf
      dsimp only at hf
      have hPc := hP.sub (ws' := wMd cy hM aM sdM (upd M_I 10 s1, dk_upA (dk_upA M.2 14 M_14) 15 M_15)) [0, 1, 2, 3, 4, 5, 6, 7, 8, 9, 10, 11, 12, 13] rfl
      have hDc := hD.sub (ws' := wMd cy hM aM sdM (upd M_I 10 s1, dk_upA (dk_upA M.2 14 M_14) 15 M_15)) [0, 1, 2, 3, 4, 5, 6, 7, 8, 9, 10, 11, 12, 13] (by decide) rfl
      have hFc := va_free (wc := wMd cy hM aM sdM (upd M_I 10 s1, dk_upA (dk_upA M.2 14 M_14) 15 M_15)) hD hS hA [0, 1, 2, 3, 4, 5, 6, 7, 8, 9, 10, 11, 12, 13] rfl
      refine va_calli (va_runV (As := [.int ((((1 : Int32) <<< ((M_I 9) &&& 31)) - 1) &&& (((1 : Int32) <<< (s1 &&& 31)) ^^^ (-1)))]) (rest := [.ref hM]) ⟨hx, hb, hml, hown, hts⟩ (kX6_figure l D cy hM aM sdM H.size (upd M_I 10 s1, dk_upA (dk_upA M.2 14 M_14) 15 M_15) ((((1 : Int32) <<< ((M_I 9) &&& 31)) - 1) &&& (((1 : Int32) <<< (s1 &&& 31)) ^^^ (-1))) r109 i109_0 k109) (cwV 1 hts gX6_readNet_X6_figure rfl rfl rfl (by decide +kernel) ⟨Nat.le_of_ble_eq_true rfl, Nat.le_of_ble_eq_true rfl⟩) (dk_premV hK hPc hDc (ci := 6) (q0 := 0) rfl rfl) rfl rfl hl.1 rfl (lv_room (Nat.le_of_ble_eq_true rfl)) dX6_readNet_109 ⟨Nat.zero_le _, Nat.zero_le _⟩) hS (fun q _ h => hFc q h) hFc (fun xr109 u t H1 locs ht hvm hw hB hz1 hk1 hS => ?_)
      obtain ⟨hP1, hD1⟩ := hB
      rw [ht] at hP1
      rw [hw]
      obtain ⟨hP, hD⟩ := va_join (wr := ([] : List Nat).filterMap (fun i => (wMd cy hM aM sdM (upd M_I 10 s1, dk_upA (dk_upA M.2 14 M_14) 15 M_15))[i]?)) (w1 := wMd cy hM aM sdM (i109_0, dk_upA (dk_upA M.2 14 M_14) 15 M_15)) hP hD [0, 1, 2, 3, 4, 5, 6, 7, 8, 9, 10, 11, 12, 13] [] rfl rfl (by decide) (by decide) hk1 hFc hP1 hD1
      generalize H1 = H at hP hS ⊢
      have hP : va_P D vwCl (wMd cy hM aM sdM (i109_0, dk_upA (dk_upA M.2 14 M_14) 15 M_15)) H := hP.sub [0, 1, 2, 3, 4, 5, 6, 7, 8, 9, 10, 11, 12, 13] rfl
      have hD : va_D A (wMd cy hM aM sdM (i109_0, dk_upA (dk_upA M.2 14 M_14) 15 M_15)) := hD.sub [0, 1, 2, 3, 4, 5, 6, 7, 8, 9, 10, 11, 12, 13] (by decide) rfl
      exact L112 r109 i109_0 M_14 M_15 _ _ _ hP hD hS (lv_sub hl [0] rfl) hf
    · refine lv_bipush (v := (-9)) hx hb dX6_readNet_86 (by decide) ?_
      refine lv_goto (tgt := 112) hx hb dX6_readNet_88 (by decide) ?_
      exact L112 (-9) (upd M_I 10 s1) M_14 M_15 _ _ _ hP hD hS (lv_sub hl [0] rfl) hf
  unfold fX6_readNet at hf
  refine lv_aload_n hx hb dX6_readNet_0 rfl (lv_at hl 0 rfl) ?_
  refine lv_iconst (v := 0) hx hb dX6_readNet_1 (by decide) ?_
  refine va_put (D := D) (ci := 6) (v := .int 0) (ty := .int) (C := RX6) (T := TX6) (N := 28) hx hb hts iX6_readNet_X6 tyX6 tyX6_ok nmX6 hown hK.1 hP hD hS 0 rfl rfl 3 (by decide) (hts (.fieldLink RX6 129 "DarkPlaceModel" "place" "I") (List.mem_of_getElem? (i := 1) rfl)) (fun _ h9 => h9) rfl (by decide +kernel) rfl rfl (Nat.le_of_ble_eq_true rfl) dX6_readNet_2 (fun H locs hP hD hS => ?_)
  have hP : va_P D vwCl (wMd cy hM aM sdM (upd M.1 3 0, M.2)) H := hP
  have hD : va_D A (wMd cy hM aM sdM (upd M.1 3 0, M.2)) := hD
  refine lv_aload_n hx hb dX6_readNet_5 rfl (lv_at hl 0 rfl) ?_
  refine lv_iconst (v := 0) hx hb dX6_readNet_6 (by decide) ?_
  refine va_put (D := D) (ci := 6) (v := .int 0) (ty := .int) (C := RX6) (T := TX6) (N := 28) hx hb hts iX6_readNet_X6 tyX6 tyX6_ok nmX6 hown hK.1 hP hD hS 0 rfl rfl 13 (by decide) (hts (.fieldLink RX6 137 "DarkPlaceModel" "readEdges" "I") (List.mem_of_getElem? (i := 2) rfl)) (fun _ h9 => h9) rfl (by decide +kernel) rfl rfl (Nat.le_of_ble_eq_true rfl) dX6_readNet_7 (fun H locs hP hD hS => ?_)
  have hP : va_P D vwCl (wMd cy hM aM sdM (upd (upd M.1 3 0) 13 0, M.2)) H := hP
  have hD : va_D A (wMd cy hM aM sdM (upd (upd M.1 3 0) 13 0, M.2)) := hD
  refine lv_aload_n hx hb dX6_readNet_10 rfl (lv_at hl 0 rfl) ?_
  refine va_get (D := D) (ci := 6) (v := .int (M.1 2)) (C := RX6) (T := TX6) (N := 28) hx hb hts iX6_readNet_X6 hown hK.1 hP 0 rfl rfl 2 (by decide) (hts (.fieldLink RX6 126 "DarkPlaceModel" "textSize" "I") (List.mem_of_getElem? (i := 3) rfl)) (fun _ h9 => h9) rfl dX6_readNet_11 ?_
  refine dk_ieq (tgt := 28) hx hb dX6_readNet_14 (by decide) hf (fun hf => ?_) (fun hf => ?_)
  · refine lv_iconst (v := 0) hx hb dX6_readNet_28 (by decide) ?_
    have e := Option.some.inj hf
    simp only [Prod.mk.injEq] at e
    obtain ⟨e0, e1, e2, e3⟩ := e
    subst e1
    subst e2
    subst e3
    exact W.iret (v := 0) hx hb hr (fun t ht hW => ⟨⟨0, (), rfl, e0, by rw [ht]; exact hP, hD⟩, hS.F ht⟩) hS.2.2 dX6_readNet_29
  · refine lv_aload_n hx hb dX6_readNet_17 rfl (lv_at hl 0 rfl) ?_
    refine va_get (D := D) (ci := 6) (v := .ref (aM 1)) (C := RX6) (T := TX6) (N := 28) hx hb hts iX6_readNet_X6 hown hK.1 hP 0 rfl rfl 1 (by decide) (hts (.fieldLink RX6 7 "DarkPlaceModel" "text" "[I") (List.mem_of_getElem? (i := 4) rfl)) (fun _ h9 => h9) rfl dX6_readNet_18 ?_
    refine lv_iconst (v := 0) hx hb dX6_readNet_21 (by decide) ?_
    refine dk_iald hx hb hK.1 hP 6 0 rfl rfl hf dX6_readNet_22 (fun d22 hf => ?_)
    refine lv_bipush (v := 78) hx hb dX6_readNet_23 (by decide) ?_
    refine dk_ceq (tgt := 30) hx hb dX6_readNet_25 (by decide) hf (fun hf => ?_) (fun hf => ?_)
    · refine lv_aload_n hx hb dX6_readNet_30 rfl (lv_at hl 0 rfl) ?_
      refine lv_iconst (v := 1) hx hb dX6_readNet_31 (by decide) ?_
      refine va_put (D := D) (ci := 6) (v := .int 1) (ty := .int) (C := RX6) (T := TX6) (N := 28) hx hb hts iX6_readNet_X6 tyX6 tyX6_ok nmX6 hown hK.1 hP hD hS 0 rfl rfl 3 (by decide) (hts (.fieldLink RX6 129 "DarkPlaceModel" "place" "I") (List.mem_of_getElem? (i := 1) rfl)) (fun _ h9 => h9) rfl (by decide +kernel) rfl rfl (Nat.le_of_ble_eq_true rfl) dX6_readNet_32 (fun H locs hP hD hS => ?_)
      have hP : va_P D vwCl (wMd cy hM aM sdM (upd (upd (upd M.1 3 0) 13 0) 3 1, M.2)) H := hP
      have hD : va_D A (wMd cy hM aM sdM (upd (upd (upd M.1 3 0) 13 0) 3 1, M.2)) := hD
      refine lv_aload_n hx hb dX6_readNet_35 rfl (lv_at hl 0 rfl) ?_
      refine lv_aload_n hx hb dX6_readNet_36 rfl (lv_at hl 0 rfl) ?_
      refine lv_sipush (v := 508) hx hb dX6_readNet_37 (by decide) ?_
      obtain ⟨⟨r40, i40_0⟩, k40, hf⟩ := dk_bind hf
      dsimp only at hf
      have hPc := hP.sub (ws' := wMd cy hM aM sdM (upd (upd (upd M.1 3 0) 13 0) 3 1, M.2)) [0, 1, 2, 3, 4, 5, 6, 7, 8, 9, 10, 11, 12, 13] rfl
      have hDc := hD.sub (ws' := wMd cy hM aM sdM (upd (upd (upd M.1 3 0) 13 0) 3 1, M.2)) [0, 1, 2, 3, 4, 5, 6, 7, 8, 9, 10, 11, 12, 13] (by decide) rfl
      have hFc := va_free (wc := wMd cy hM aM sdM (upd (upd (upd M.1 3 0) 13 0) 3 1, M.2)) hD hS hA [0, 1, 2, 3, 4, 5, 6, 7, 8, 9, 10, 11, 12, 13] rfl
      refine va_calli (va_runV (As := [.int 508]) (rest := [.ref hM]) ⟨hx, hb, hml, hown, hts⟩ (kX6_figure l D cy hM aM sdM H.size (upd (upd (upd M.1 3 0) 13 0) 3 1, M.2) 508 r40 i40_0 k40) (cwV 1 hts gX6_readNet_X6_figure rfl rfl rfl (by decide +kernel) ⟨Nat.le_of_ble_eq_true rfl, Nat.le_of_ble_eq_true rfl⟩) (dk_premV hK hPc hDc (ci := 6) (q0 := 0) rfl rfl) rfl rfl hl.1 rfl (lv_room (Nat.le_of_ble_eq_true rfl)) dX6_readNet_40 ⟨Nat.zero_le _, Nat.zero_le _⟩) hS (fun q _ h => hFc q h) hFc (fun xr40 u t H1 locs ht hvm hw hB hz1 hk1 hS => ?_)
      obtain ⟨hP1, hD1⟩ := hB
      rw [ht] at hP1
      rw [hw]
      obtain ⟨hP, hD⟩ := va_join (wr := ([] : List Nat).filterMap (fun i => (wMd cy hM aM sdM (upd (upd (upd M.1 3 0) 13 0) 3 1, M.2))[i]?)) (w1 := wMd cy hM aM sdM (i40_0, M.2)) hP hD [0, 1, 2, 3, 4, 5, 6, 7, 8, 9, 10, 11, 12, 13] [] rfl rfl (by decide) (by decide) hk1 hFc hP1 hD1
      generalize H1 = H at hP hS ⊢
      have hP : va_P D vwCl (wMd cy hM aM sdM (i40_0, M.2)) H := hP.sub [0, 1, 2, 3, 4, 5, 6, 7, 8, 9, 10, 11, 12, 13] rfl
      have hD : va_D A (wMd cy hM aM sdM (i40_0, M.2)) := hD.sub [0, 1, 2, 3, 4, 5, 6, 7, 8, 9, 10, 11, 12, 13] (by decide) rfl
      refine va_put (D := D) (ci := 6) (v := .int r40) (ty := .int) (C := RX6) (T := TX6) (N := 28) hx hb hts iX6_readNet_X6 tyX6 tyX6_ok nmX6 hown hK.1 hP hD hS 0 rfl rfl 9 (by decide) (hts (.fieldLink RX6 134 "DarkPlaceModel" "readPlaces" "I") (List.mem_of_getElem? (i := 5) rfl)) (fun _ h9 => h9) rfl (by decide +kernel) rfl rfl (Nat.le_of_ble_eq_true rfl) dX6_readNet_43 (fun H locs hP hD hS => ?_)
      have hP : va_P D vwCl (wMd cy hM aM sdM (upd i40_0 9 r40, M.2)) H := hP
      have hD : va_D A (wMd cy hM aM sdM (upd i40_0 9 r40, M.2)) := hD
      refine lv_aload_n hx hb dX6_readNet_46 rfl (lv_at hl 0 rfl) ?_
      refine lv_aload_n hx hb dX6_readNet_47 rfl (lv_at hl 0 rfl) ?_
      refine va_get (D := D) (ci := 6) (v := .int r40) (C := RX6) (T := TX6) (N := 28) hx hb hts iX6_readNet_X6 hown hK.1 hP 0 rfl rfl 9 (by decide) (hts (.fieldLink RX6 134 "DarkPlaceModel" "readPlaces" "I") (List.mem_of_getElem? (i := 5) rfl)) (fun _ h9 => h9) rfl dX6_readNet_48 ?_
      refine lv_bipush (v := (-9)) hx hb dX6_readNet_51 (by decide) ?_
      refine dk_cne (tgt := 61) hx hb dX6_readNet_53 (by decide) hf (fun hf => ?_) (fun hf => ?_)
      · refine lv_aload_n hx hb dX6_readNet_61 rfl (lv_at hl 0 rfl) ?_
        refine lv_iconst (v := 1) hx hb dX6_readNet_62 (by decide) ?_
        refine lv_aload_n hx hb dX6_readNet_63 rfl (lv_at hl 0 rfl) ?_
        refine va_get (D := D) (ci := 6) (v := .int r40) (C := RX6) (T := TX6) (N := 28) hx hb hts iX6_readNet_X6 hown hK.1 hP 0 rfl rfl 9 (by decide) (hts (.fieldLink RX6 134 "DarkPlaceModel" "readPlaces" "I") (List.mem_of_getElem? (i := 5) rfl)) (fun _ h9 => h9) rfl dX6_readNet_64 ?_
        refine lv_ishl hx hb dX6_readNet_67 ?_
        refine lv_iconst (v := 1) hx hb dX6_readNet_68 (by decide) ?_
        refine lv_isub hx hb dX6_readNet_69 ?_
        obtain ⟨⟨r70, i70_0⟩, k70, hf⟩ := dk_bind hf
        dsimp only at hf
        have hPc := hP.sub (ws' := wMd cy hM aM sdM (upd i40_0 9 r40, M.2)) [0, 1, 2, 3, 4, 5, 6, 7, 8, 9, 10, 11, 12, 13] rfl
        have hDc := hD.sub (ws' := wMd cy hM aM sdM (upd i40_0 9 r40, M.2)) [0, 1, 2, 3, 4, 5, 6, 7, 8, 9, 10, 11, 12, 13] (by decide) rfl
        have hFc := va_free (wc := wMd cy hM aM sdM (upd i40_0 9 r40, M.2)) hD hS hA [0, 1, 2, 3, 4, 5, 6, 7, 8, 9, 10, 11, 12, 13] rfl
        refine va_calli (va_runV (As := [.int (((1 : Int32) <<< (r40 &&& 31)) - 1)]) (rest := [.ref hM]) ⟨hx, hb, hml, hown, hts⟩ (kX6_figure l D cy hM aM sdM H.size (upd i40_0 9 r40, M.2) (((1 : Int32) <<< (r40 &&& 31)) - 1) r70 i70_0 k70) (cwV 1 hts gX6_readNet_X6_figure rfl rfl rfl (by decide +kernel) ⟨Nat.le_of_ble_eq_true rfl, Nat.le_of_ble_eq_true rfl⟩) (dk_premV hK hPc hDc (ci := 6) (q0 := 0) rfl rfl) rfl rfl hl.1 rfl (lv_room (Nat.le_of_ble_eq_true rfl)) dX6_readNet_70 ⟨Nat.zero_le _, Nat.zero_le _⟩) hS (fun q _ h => hFc q h) hFc (fun xr70 u t H1 locs ht hvm hw hB hz1 hk1 hS => ?_)
        obtain ⟨hP1, hD1⟩ := hB
        rw [ht] at hP1
        rw [hw]
        obtain ⟨hP, hD⟩ := va_join (wr := ([] : List Nat).filterMap (fun i => (wMd cy hM aM sdM (upd i40_0 9 r40, M.2))[i]?)) (w1 := wMd cy hM aM sdM (i70_0, M.2)) hP hD [0, 1, 2, 3, 4, 5, 6, 7, 8, 9, 10, 11, 12, 13] [] rfl rfl (by decide) (by decide) hk1 hFc hP1 hD1
        generalize H1 = H at hP hS ⊢
        have hP : va_P D vwCl (wMd cy hM aM sdM (i70_0, M.2)) H := hP.sub [0, 1, 2, 3, 4, 5, 6, 7, 8, 9, 10, 11, 12, 13] rfl
        have hD : va_D A (wMd cy hM aM sdM (i70_0, M.2)) := hD.sub [0, 1, 2, 3, 4, 5, 6, 7, 8, 9, 10, 11, 12, 13] (by decide) rfl
        exact L73 r70 i70_0 (M.2 14) (M.2 15) _ _ _ hP hD hS (lv_sub hl [0] rfl) hf
      · refine lv_bipush (v := (-9)) hx hb dX6_readNet_56 (by decide) ?_
        refine lv_goto (tgt := 73) hx hb dX6_readNet_58 (by decide) ?_
        exact L73 (-9) (upd i40_0 9 r40) (M.2 14) (M.2 15) _ _ _ hP hD hS (lv_sub hl [0] rfl) hf
    · refine lv_iconst (v := 0) hx hb dX6_readNet_28 (by decide) ?_
      have e := Option.some.inj hf
      simp only [Prod.mk.injEq] at e
      obtain ⟨e0, e1, e2, e3⟩ := e
      subst e1
      subst e2
      subst e3
      exact W.iret (v := 0) hx hb hr (fun t ht hW => ⟨⟨0, (), rfl, e0, by rw [ht]; exact hP, hD⟩, hS.F ht⟩) hS.2.2 dX6_readNet_29
theorem iX6_fault_X6 : ∀ w ∈ wsX60, w ∈ wsX6_fault := fun _ h => List.mem_cons_of_mem _ (List.mem_append_right _ h)
set_option maxHeartbeats 4000000 in
set_option maxRecDepth 100000 in
theorem kX6_fault (l : Launch) (D : va_G) (cy : Nat → ClassId) (hM : Nat) (aM : Nat → Nat) (sdM : Int64) (sz : Nat) (M : dk_O)  (r : Int32) (oM_I : (Nat → Int32)) (oM_14 : (Nat → Int32)) (oM_15 : (Nat → Int32)) (hf : fX6_fault M = some (r, oM_I, oM_14, oM_15)) : dk_MuI l yX6_fault wsX6_fault ({ frames := 4, cells := 0, slots := 0, locals := 90 }) D cy [.ref hM] (wMd cy hM aM sdM M) (wMd cy hM aM sdM (oM_I, dk_upA (dk_upA M.2 14 oM_14) 15 oM_15)) sz r := by
  refine Met.ofW (cc := cX6_fault) (maxL := 1) (ret := (some .int)) (by decide) rfl ?_
  intro p e s m args below meth c s₁ B hml hv
  obtain ⟨rfl, hsz, hP, hK, hD0⟩ := hv
  have hx := B.exec
  have hb := B.bytes
  have hr := B.returns
  have hts := atoms_spec (ws := wsX6_fault) B.pre
  have hown : s.vm.findClass RX6 = some m.cls := findClass_of_methodNamed B.named
  have hlocks := B.notSynchronized
  subst hsz
  have hD := hD0.self (sz := s.heap.size)
  generalize hAe : va_A (wMd cy hM aM sdM M) s.heap.size = A at hD ⊢
  have hA : ∀ q : Nat, s.heap.size ≤ q → A q := fun q h => by rw [← hAe]; exact Or.inr h
  have hS : va_S A s.heap s.heap [] := va_S.rf
  have hl := lv_entry ([.ref hM]) (n := 1) (Nat.le_of_ble_eq_true rfl)
  rw [lg_entry_eq]
  generalize (lg_sl ([.ref hM]) ++ List.replicate (1 - (lg_sl ([.ref hM])).length) Slot.unset).toArray = ls at hl ⊢
  have hl : lv_has ls 1 [(0, .ref hM)] := hl
  unfold fX6_fault at hf
  refine lv_aload_n hx hb dX6_fault_0 rfl (lv_at hl 0 rfl) ?_
  refine lv_iconst (v := 0) hx hb dX6_fault_1 (by decide) ?_
  refine va_put (D := D) (ci := 6) (v := .int 0) (ty := .int) (C := RX6) (T := TX6) (N := 28) hx hb hts iX6_fault_X6 tyX6 tyX6_ok nmX6 hown hK.1 hP hD hS 0 rfl rfl 0 (by decide) (hts (.fieldLink RX6 61 "DarkPlaceModel" "thrown" "I") (List.mem_of_getElem? (i := 1) rfl)) (fun _ h9 => h9) rfl (by decide +kernel) rfl rfl (Nat.le_of_ble_eq_true rfl) dX6_fault_2 (fun H locs hP hD hS => ?_)
  have hP : va_P D vwCl (wMd cy hM aM sdM (upd M.1 0 0, M.2)) H := hP
  have hD : va_D A (wMd cy hM aM sdM (upd M.1 0 0, M.2)) := hD
  refine lv_aload_n hx hb dX6_fault_5 rfl (lv_at hl 0 rfl) ?_
  obtain ⟨⟨r6, i6_0, g6_1, g6_2⟩, k6, hf⟩ := dk_bind hf
  dsimp only at hf
  have hPc := hP.sub (ws' := wMd cy hM aM sdM (upd M.1 0 0, M.2)) [0, 1, 2, 3, 4, 5, 6, 7, 8, 9, 10, 11, 12, 13] rfl
  have hDc := hD.sub (ws' := wMd cy hM aM sdM (upd M.1 0 0, M.2)) [0, 1, 2, 3, 4, 5, 6, 7, 8, 9, 10, 11, 12, 13] (by decide) rfl
  have hFc := va_free (wc := wMd cy hM aM sdM (upd M.1 0 0, M.2)) hD hS hA [0, 1, 2, 3, 4, 5, 6, 7, 8, 9, 10, 11, 12, 13] rfl
  refine va_calli (va_runV (As := []) (rest := []) ⟨hx, hb, hml, hown, hts⟩ (kX6_readNet l D cy hM aM sdM H.size (upd M.1 0 0, M.2) r6 i6_0 g6_1 g6_2 k6) (cwV 0 hts gX6_fault_X6_readNet rfl rfl rfl (by decide +kernel) ⟨Nat.le_of_ble_eq_true rfl, Nat.le_of_ble_eq_true rfl⟩) (dk_premV hK hPc hDc (ci := 6) (q0 := 0) rfl rfl) rfl rfl hl.1 rfl (lv_room (Nat.le_of_ble_eq_true rfl)) dX6_fault_6 ⟨Nat.zero_le _, Nat.zero_le _⟩) hS (fun q _ h => hFc q h) hFc (fun xr6 u t H1 locs ht hvm hw hB hz1 hk1 hS => ?_)
  obtain ⟨hP1, hD1⟩ := hB
  rw [ht] at hP1
  rw [hw]
  obtain ⟨hP, hD⟩ := va_join (wr := ([] : List Nat).filterMap (fun i => (wMd cy hM aM sdM (upd M.1 0 0, M.2))[i]?)) (w1 := wMd cy hM aM sdM (i6_0, dk_upA (dk_upA M.2 14 g6_1) 15 g6_2)) hP hD [0, 1, 2, 3, 4, 5, 6, 7, 8, 9, 10, 11, 12, 13] [] rfl rfl (by decide) (by decide) hk1 hFc hP1 hD1
  generalize H1 = H at hP hS ⊢
  have hP : va_P D vwCl (wMd cy hM aM sdM (i6_0, dk_upA (dk_upA M.2 14 g6_1) 15 g6_2)) H := hP.sub [0, 1, 2, 3, 4, 5, 6, 7, 8, 9, 10, 11, 12, 13] rfl
  have hD : va_D A (wMd cy hM aM sdM (i6_0, dk_upA (dk_upA M.2 14 g6_1) 15 g6_2)) := hD.sub [0, 1, 2, 3, 4, 5, 6, 7, 8, 9, 10, 11, 12, 13] (by decide) rfl
  have e := Option.some.inj hf
  simp only [Prod.mk.injEq] at e
  obtain ⟨e0, e1, e2, e3⟩ := e
  subst e1
  subst e2
  subst e3
  exact W.iret (v := r6) hx hb hr (fun t ht hW => ⟨⟨r6, (), rfl, e0, by rw [ht]; exact hP, hD⟩, hS.F ht⟩) hS.2.2 dX6_fault_9
theorem iX6_net_X6 : ∀ w ∈ wsX60, w ∈ wsX6_net := fun _ h => List.mem_cons_of_mem _ (List.mem_append_right _ h)
set_option maxHeartbeats 4000000 in
set_option maxRecDepth 100000 in
theorem kX6_net (l : Launch) (D : va_G) (cy : Nat → ClassId) (hM : Nat) (aM : Nat → Nat) (sdM : Int64) (sz : Nat) (M : dk_O)  (r : Int32) (oM_I : (Nat → Int32)) (oM_7 : (Nat → Int32)) (oM_8 : (Nat → Int32)) (oM_16 : (Nat → Int32)) (oM_14 : (Nat → Int32)) (oM_15 : (Nat → Int32)) (oM_21 : (Nat → Int32)) (hf : fX6_net M = some (r, oM_I, oM_7, oM_8, oM_16, oM_14, oM_15, oM_21)) : dk_MuI l yX6_net wsX6_net ({ frames := 4, cells := 0, slots := 0, locals := 90 }) D cy [.ref hM] (wMd cy hM aM sdM M) (wMd cy hM aM sdM (oM_I, dk_upA (dk_upA (dk_upA (dk_upA (dk_upA (dk_upA M.2 7 oM_7) 8 oM_8) 16 oM_16) 14 oM_14) 15 oM_15) 21 oM_21)) sz r := by
  refine Met.ofW (cc := cX6_net) (maxL := 2) (ret := (some .int)) (by decide) rfl ?_
  intro p e s m args below meth c s₁ B hml hv
  obtain ⟨rfl, hsz, hP, hK, hD0⟩ := hv
  have hx := B.exec
  have hb := B.bytes
  have hr := B.returns
  have hts := atoms_spec (ws := wsX6_net) B.pre
  have hown : s.vm.findClass RX6 = some m.cls := findClass_of_methodNamed B.named
  have hlocks := B.notSynchronized
  subst hsz
  have hD := hD0.self (sz := s.heap.size)
  generalize hAe : va_A (wMd cy hM aM sdM M) s.heap.size = A at hD ⊢
  have hA : ∀ q : Nat, s.heap.size ≤ q → A q := fun q h => by rw [← hAe]; exact Or.inr h
  have hS : va_S A s.heap s.heap [] := va_S.rf
  have hl := lv_entry ([.ref hM]) (n := 2) (Nat.le_of_ble_eq_true rfl)
  rw [lg_entry_eq]
  generalize (lg_sl ([.ref hM]) ++ List.replicate (2 - (lg_sl ([.ref hM])).length) Slot.unset).toArray = ls at hl ⊢
  have hl : lv_has ls 2 [(0, .ref hM)] := hl
  have L43 : ∀ (fu43 : Nat) (x1 : Int32) (M_I : (Nat → Int32)) (M_7 : (Nat → Int32)) (M_8 : (Nat → Int32)) (M_16 : (Nat → Int32)) (M_14 : (Nat → Int32)) (M_15 : (Nat → Int32)) (M_21 : (Nat → Int32)) (H : Heap) (locs : List Loc) (ls : Array Slot), va_P D vwCl (wMd cy hM aM sdM (M_I, dk_upA (dk_upA (dk_upA (dk_upA (dk_upA (dk_upA M.2 7 M_7) 8 M_8) 16 M_16) 14 M_14) 15 M_15) 21 M_21)) H → va_D A (wMd cy hM aM sdM (M_I, dk_upA (dk_upA (dk_upA (dk_upA (dk_upA (dk_upA M.2 7 M_7) 8 M_8) 16 M_16) 14 M_14) 15 M_15) 21 M_21)) → va_S A s.heap H locs → lv_has ls 2 [(0, .ref hM), (1, .int x1)] → fX6_net_L43 M fu43 x1 M_I M_7 M_8 M_16 M_14 M_15 M_21 = some (r, oM_I, oM_7, oM_8, oM_16, oM_14, oM_15, oM_21) → W p l e (headSpec wsX6_net ({ frames := 4, cells := 0, slots := 0, locals := 90 })).room s m ([.ref hM]).toArray below meth c H locs 0 0 (MQ below (va_Qi (fun (x : Int32) (_ : Unit) => x = r) (dk_B D (wMd cy hM aM sdM (oM_I, dk_upA (dk_upA (dk_upA (dk_upA (dk_upA (dk_upA M.2 7 oM_7) 8 oM_8) 16 oM_16) 14 oM_14) 15 oM_15) 21 oM_21)) A) A) ([.ref hM]).toArray s 0 0 A) (F0 m 43 ls []) := by
    intro fu43
    induction fu43 with
    | zero =>
      intro x1 M_I M_7 M_8 M_16 M_14 M_15 M_21 H locs ls hP hD hS hl hf
      rw [fX6_net_L43] at hf
      cases hf
    | succ fu43 ih43 =>
      intro x1 M_I M_7 M_8 M_16 M_14 M_15 M_21 H locs ls hP hD hS hl hf
      rw [fX6_net_L43] at hf
      have L122 : ∀ (x1 : Int32) (s1 : Int32) (s2 : Int32) (M_I : (Nat → Int32)) (M_7 : (Nat → Int32)) (M_8 : (Nat → Int32)) (M_16 : (Nat → Int32)) (M_14 : (Nat → Int32)) (M_15 : (Nat → Int32)) (M_21 : (Nat → Int32)) (H : Heap) (locs : List Loc) (ls : Array Slot), va_P D vwCl (wMd cy hM aM sdM (M_I, dk_upA (dk_upA (dk_upA (dk_upA (dk_upA (dk_upA M.2 7 M_7) 8 M_8) 16 M_16) 14 M_14) 15 M_15) 21 M_21)) H → va_D A (wMd cy hM aM sdM (M_I, dk_upA (dk_upA (dk_upA (dk_upA (dk_upA (dk_upA M.2 7 M_7) 8 M_8) 16 M_16) 14 M_14) 15 M_15) 21 M_21)) → va_S A s.heap H locs → lv_has ls 2 [(0, .ref hM), (1, .int x1)] → fX6_net_L122 M (fun z0 z1 z2 z3 z4 z5 z6 z7 => fX6_net_L43 M fu43 z0 z1 z2 z3 z4 z5 z6 z7) x1 s1 s2 M_I M_7 M_8 M_16 M_14 M_15 M_21 = some (r, oM_I, oM_7, oM_8, oM_16, oM_14, oM_15, oM_21) → W p l e (headSpec wsX6_net ({ frames := 4, cells := 0, slots := 0, locals := 90 })).room s m ([.ref hM]).toArray below meth c H locs 0 0 (MQ below (va_Qi (fun (x : Int32) (_ : Unit) => x = r) (dk_B D (wMd cy hM aM sdM (oM_I, dk_upA (dk_upA (dk_upA (dk_upA (dk_upA (dk_upA M.2 7 oM_7) 8 oM_8) 16 oM_16) 14 oM_14) 15 oM_15) 21 oM_21)) A) A) ([.ref hM]).toArray s 0 0 A) (F0 m 122 ls [.int s2, .int s1, .ref (aM 8)]) := by
        intro x1 s1 s2 M_I M_7 M_8 M_16 M_14 M_15 M_21 H locs ls hP hD hS hl hf
        unfold fX6_net_L122 at hf
        refine dk_iast hx hb hK.1 hP hD hS 2 0 rfl rfl hf dX6_net_122 (fun f122 H locs hP hD hS hf => ?_)
        have hP : va_P D vwCl (wMd cy hM aM sdM (M_I, dk_upA (dk_upA (dk_upA (dk_upA (dk_upA (dk_upA M.2 7 M_7) 8 f122) 16 M_16) 14 M_14) 15 M_15) 21 M_21)) H := hP
        have hD : va_D A (wMd cy hM aM sdM (M_I, dk_upA (dk_upA (dk_upA (dk_upA (dk_upA (dk_upA M.2 7 M_7) 8 f122) 16 M_16) 14 M_14) 15 M_15) 21 M_21)) := hD
        refine lv_iinc (v := x1 + 1) (lv' := [(1, .int (x1 + 1)), (0, .ref hM)]) hx hb dX6_net_123 hl (k := 1) rfl rfl (by decide) rfl (fun ls hl => ?_)
        refine lv_goto (tgt := 43) hx hb dX6_net_126 (by decide) ?_
        exact ih43 (x1 + 1) M_I M_7 f122 M_16 M_14 M_15 M_21 _ _ _ hP hD hS (lv_sub hl [1, 0] rfl) hf
      have L86 : ∀ (x1 : Int32) (s1 : Int32) (s2 : Int32) (M_I : (Nat → Int32)) (M_7 : (Nat → Int32)) (M_8 : (Nat → Int32)) (M_16 : (Nat → Int32)) (M_14 : (Nat → Int32)) (M_15 : (Nat → Int32)) (M_21 : (Nat → Int32)) (H : Heap) (locs : List Loc) (ls : Array Slot), va_P D vwCl (wMd cy hM aM sdM (M_I, dk_upA (dk_upA (dk_upA (dk_upA (dk_upA (dk_upA M.2 7 M_7) 8 M_8) 16 M_16) 14 M_14) 15 M_15) 21 M_21)) H → va_D A (wMd cy hM aM sdM (M_I, dk_upA (dk_upA (dk_upA (dk_upA (dk_upA (dk_upA M.2 7 M_7) 8 M_8) 16 M_16) 14 M_14) 15 M_15) 21 M_21)) → va_S A s.heap H locs → lv_has ls 2 [(0, .ref hM), (1, .int x1)] → fX6_net_L86 M (fun z0 z1 z2 z3 z4 z5 z6 z7 => fX6_net_L43 M fu43 z0 z1 z2 z3 z4 z5 z6 z7) x1 s1 s2 M_I M_7 M_8 M_16 M_14 M_15 M_21 = some (r, oM_I, oM_7, oM_8, oM_16, oM_14, oM_15, oM_21) → W p l e (headSpec wsX6_net ({ frames := 4, cells := 0, slots := 0, locals := 90 })).room s m ([.ref hM]).toArray below meth c H locs 0 0 (MQ below (va_Qi (fun (x : Int32) (_ : Unit) => x = r) (dk_B D (wMd cy hM aM sdM (oM_I, dk_upA (dk_upA (dk_upA (dk_upA (dk_upA (dk_upA M.2 7 oM_7) 8 oM_8) 16 oM_16) 14 oM_14) 15 oM_15) 21 oM_21)) A) A) ([.ref hM]).toArray s 0 0 A) (F0 m 86 ls [.int s2, .int s1, .ref (aM 7)]) := by
        intro x1 s1 s2 M_I M_7 M_8 M_16 M_14 M_15 M_21 H locs ls hP hD hS hl hf
        unfold fX6_net_L86 at hf
        refine dk_iast hx hb hK.1 hP hD hS 1 0 rfl rfl hf dX6_net_86 (fun f86 H locs hP hD hS hf => ?_)
        have hP : va_P D vwCl (wMd cy hM aM sdM (M_I, dk_upA (dk_upA (dk_upA (dk_upA (dk_upA (dk_upA M.2 7 f86) 8 M_8) 16 M_16) 14 M_14) 15 M_15) 21 M_21)) H := hP
        have hD : va_D A (wMd cy hM aM sdM (M_I, dk_upA (dk_upA (dk_upA (dk_upA (dk_upA (dk_upA M.2 7 f86) 8 M_8) 16 M_16) 14 M_14) 15 M_15) 21 M_21)) := hD
        refine lv_aload_n hx hb dX6_net_87 rfl (lv_at hl 0 rfl) ?_
        refine va_get (D := D) (ci := 6) (v := .ref (aM 8)) (C := RX6) (T := TX6) (N := 28) hx hb hts iX6_net_X6 hown hK.1 hP 0 rfl rfl 8 (by decide) (hts (.fieldLink RX6 20 "DarkPlaceModel" "other" "[I") (List.mem_of_getElem? (i := 11) rfl)) (fun _ h9 => h9) rfl dX6_net_88 ?_
        refine lv_iload_n hx hb dX6_net_91 rfl (lv_at hl 1 rfl) ?_
        refine lv_aload_n hx hb dX6_net_92 rfl (lv_at hl 0 rfl) ?_
        refine va_get (D := D) (ci := 6) (v := .ref (aM 14)) (C := RX6) (T := TX6) (N := 28) hx hb hts iX6_net_X6 hown hK.1 hP 0 rfl rfl 14 (by decide) (hts (.fieldLink RX6 23 "DarkPlaceModel" "readOne" "[I") (List.mem_of_getElem? (i := 9) rfl)) (fun _ h9 => h9) rfl dX6_net_93 ?_
        refine lv_iload_n hx hb dX6_net_96 rfl (lv_at hl 1 rfl) ?_
        refine dk_iald hx hb hK.1 hP 7 0 rfl rfl hf dX6_net_97 (fun d97 hf => ?_)
        refine lv_aload_n hx hb dX6_net_98 rfl (lv_at hl 0 rfl) ?_
        refine va_get (D := D) (ci := 6) (v := .ref (aM 15)) (C := RX6) (T := TX6) (N := 28) hx hb hts iX6_net_X6 hown hK.1 hP 0 rfl rfl 15 (by decide) (hts (.fieldLink RX6 26 "DarkPlaceModel" "readOther" "[I") (List.mem_of_getElem? (i := 10) rfl)) (fun _ h9 => h9) rfl dX6_net_99 ?_
        refine lv_iload_n hx hb dX6_net_102 rfl (lv_at hl 1 rfl) ?_
        refine dk_iald hx hb hK.1 hP 8 0 rfl rfl hf dX6_net_103 (fun d103 hf => ?_)
        refine dk_cge (tgt := 116) hx hb dX6_net_104 (by decide) hf (fun hf => ?_) (fun hf => ?_)
        · refine lv_aload_n hx hb dX6_net_116 rfl (lv_at hl 0 rfl) ?_
          refine va_get (D := D) (ci := 6) (v := .ref (aM 14)) (C := RX6) (T := TX6) (N := 28) hx hb hts iX6_net_X6 hown hK.1 hP 0 rfl rfl 14 (by decide) (hts (.fieldLink RX6 23 "DarkPlaceModel" "readOne" "[I") (List.mem_of_getElem? (i := 9) rfl)) (fun _ h9 => h9) rfl dX6_net_117 ?_
          refine lv_iload_n hx hb dX6_net_120 rfl (lv_at hl 1 rfl) ?_
          refine dk_iald hx hb hK.1 hP 7 0 rfl rfl hf dX6_net_121 (fun d121 hf => ?_)
          exact L122 x1 x1 d121 M_I f86 M_8 M_16 M_14 M_15 M_21 _ _ _ hP hD hS (lv_sub hl [0, 1] rfl) hf
        · refine lv_aload_n hx hb dX6_net_107 rfl (lv_at hl 0 rfl) ?_
          refine va_get (D := D) (ci := 6) (v := .ref (aM 15)) (C := RX6) (T := TX6) (N := 28) hx hb hts iX6_net_X6 hown hK.1 hP 0 rfl rfl 15 (by decide) (hts (.fieldLink RX6 26 "DarkPlaceModel" "readOther" "[I") (List.mem_of_getElem? (i := 10) rfl)) (fun _ h9 => h9) rfl dX6_net_108 ?_
          refine lv_iload_n hx hb dX6_net_111 rfl (lv_at hl 1 rfl) ?_
          refine dk_iald hx hb hK.1 hP 8 0 rfl rfl hf dX6_net_112 (fun d112 hf => ?_)
          refine lv_goto (tgt := 122) hx hb dX6_net_113 (by decide) ?_
          exact L122 x1 x1 d112 M_I f86 M_8 M_16 M_14 M_15 M_21 _ _ _ hP hD hS (lv_sub hl [0, 1] rfl) hf
      refine lv_iload_n hx hb dX6_net_43 rfl (lv_at hl 1 rfl) ?_
      refine lv_aload_n hx hb dX6_net_44 rfl (lv_at hl 0 rfl) ?_
      refine va_get (D := D) (ci := 6) (v := .int (M_I 6)) (C := RX6) (T := TX6) (N := 28) hx hb hts iX6_net_X6 hown hK.1 hP 0 rfl rfl 6 (by decide) (hts (.fieldLink RX6 71 "DarkPlaceModel" "edges" "I") (List.mem_of_getElem? (i := 7) rfl)) (fun _ h9 => h9) rfl dX6_net_45 ?_
      refine dk_cge (tgt := 129) hx hb dX6_net_48 (by decide) hf (fun hf => ?_) (fun hf => ?_)
      · refine lv_aload_n hx hb dX6_net_129 rfl (lv_at hl 0 rfl) ?_
        refine lv_aload_n hx hb dX6_net_130 rfl (lv_at hl 0 rfl) ?_
        refine va_get (D := D) (ci := 6) (v := .ref (aM 16)) (C := RX6) (T := TX6) (N := 28) hx hb hts iX6_net_X6 hown hK.1 hP 0 rfl rfl 16 (by decide) (hts (.fieldLink RX6 29 "DarkPlaceModel" "page" "[I") (List.mem_of_getElem? (i := 12) rfl)) (fun _ h9 => h9) rfl dX6_net_131 ?_
        refine lv_aload_n hx hb dX6_net_134 rfl (lv_at hl 0 rfl) ?_
        refine va_get (D := D) (ci := 6) (v := .int (M_I 11)) (C := RX6) (T := TX6) (N := 28) hx hb hts iX6_net_X6 hown hK.1 hP 0 rfl rfl 11 (by decide) (hts (.fieldLink RX6 149 "DarkPlaceModel" "readHole" "I") (List.mem_of_getElem? (i := 13) rfl)) (fun _ h9 => h9) rfl dX6_net_135 ?_
        refine lv_aload_n hx hb dX6_net_138 rfl (lv_at hl 0 rfl) ?_
        refine va_get (D := D) (ci := 6) (v := .int (M_I 12)) (C := RX6) (T := TX6) (N := 28) hx hb hts iX6_net_X6 hown hK.1 hP 0 rfl rfl 12 (by decide) (hts (.fieldLink RX6 152 "DarkPlaceModel" "readSearchers" "I") (List.mem_of_getElem? (i := 14) rfl)) (fun _ h9 => h9) rfl dX6_net_139 ?_
        obtain ⟨g142_0, k142, hf⟩ := dk_bind hf
        have hPc := hP.sub (ws' := wMs cy hM aM sdM (M_I, dk_upA (dk_upA (dk_upA (dk_upA (dk_upA (dk_upA M.2 7 M_7) 8 M_8) 16 M_16) 14 M_14) 15 M_15) 21 M_21) ++ wRw cy (aM 16) 21 M_16) [0, 1, 2, 3, 4] rfl
        have hDc := hD.sub (ws' := wMs cy hM aM sdM (M_I, dk_upA (dk_upA (dk_upA (dk_upA (dk_upA (dk_upA M.2 7 M_7) 8 M_8) 16 M_16) 14 M_14) 15 M_15) 21 M_21) ++ wRw cy (aM 16) 21 M_16) [0, 1, 2, 3, 4] (by decide) rfl
        have hFc := va_free (wc := wMs cy hM aM sdM (M_I, dk_upA (dk_upA (dk_upA (dk_upA (dk_upA (dk_upA M.2 7 M_7) 8 M_8) 16 M_16) 14 M_14) 15 M_15) 21 M_21) ++ wRw cy (aM 16) 21 M_16) hD hS hA [0, 1, 2, 3, 4] rfl
        refine va_callv (va_runV (As := [.ref (aM 16), .int (M_I 11), .int (M_I 12)]) (rest := []) ⟨hx, hb, hml, hown, hts⟩ (kX6_layFirst l D cy hM aM sdM (aM 16) H.size (M_I, dk_upA (dk_upA (dk_upA (dk_upA (dk_upA (dk_upA M.2 7 M_7) 8 M_8) 16 M_16) 14 M_14) 15 M_15) 21 M_21) M_16 (M_I 11) (M_I 12) g142_0 k142) (cwV 3 hts gX6_net_X6_layFirst rfl rfl rfl (by decide +kernel) ⟨Nat.le_of_ble_eq_true rfl, Nat.le_of_ble_eq_true rfl⟩) (dk_premV hK hPc hDc (ci := 6) (q0 := 0) rfl rfl) rfl rfl hl.1 rfl (lv_room (Nat.le_of_ble_eq_true rfl)) dX6_net_142 ⟨Nat.zero_le _, Nat.zero_le _⟩) hS (fun q _ h => hFc q h) hFc (fun u t H1 locs ht hvm hw hB hz1 hk1 hS => ?_)
        obtain ⟨hP1, hD1⟩ := hB
        rw [ht] at hP1
        obtain ⟨hP, hD⟩ := va_join (wr := ([5, 6, 7, 8, 9, 10, 11, 12, 13] : List Nat).filterMap (fun i => (wMd cy hM aM sdM (M_I, dk_upA (dk_upA (dk_upA (dk_upA (dk_upA (dk_upA M.2 7 M_7) 8 M_8) 16 M_16) 14 M_14) 15 M_15) 21 M_21))[i]?)) (w1 := wMs cy hM aM sdM (M_I, dk_upA (dk_upA (dk_upA (dk_upA (dk_upA (dk_upA M.2 7 M_7) 8 M_8) 16 g142_0) 14 M_14) 15 M_15) 21 M_21) ++ wRw cy (aM 16) 21 g142_0) hP hD [0, 1, 2, 3, 4] [5, 6, 7, 8, 9, 10, 11, 12, 13] rfl rfl (by decide) (by decide) hk1 hFc hP1 hD1
        generalize H1 = H at hP hS ⊢
        have hP : va_P D vwCl (wMd cy hM aM sdM (M_I, dk_upA (dk_upA (dk_upA (dk_upA (dk_upA (dk_upA M.2 7 M_7) 8 M_8) 16 g142_0) 14 M_14) 15 M_15) 21 M_21)) H := hP.sub [9, 10, 11, 12, 13, 0, 1, 2, 3, 4, 5, 6, 7, 8] rfl
        have hD : va_D A (wMd cy hM aM sdM (M_I, dk_upA (dk_upA (dk_upA (dk_upA (dk_upA (dk_upA M.2 7 M_7) 8 M_8) 16 g142_0) 14 M_14) 15 M_15) 21 M_21)) := hD.sub [9, 10, 11, 12, 13, 0, 1, 2, 3, 4, 5, 6, 7, 8] (by decide) rfl
        refine lv_aload_n hx hb dX6_net_145 rfl (lv_at hl 0 rfl) ?_
        refine lv_iconst (v := 0) hx hb dX6_net_146 (by decide) ?_
        refine va_put (D := D) (ci := 6) (v := .int 0) (ty := .int) (C := RX6) (T := TX6) (N := 28) hx hb hts iX6_net_X6 tyX6 tyX6_ok nmX6 hown hK.1 hP hD hS 0 rfl rfl 19 (by decide) (hts (.fieldLink RX6 163 "DarkPlaceModel" "doings" "I") (List.mem_of_getElem? (i := 15) rfl)) (fun _ h9 => h9) rfl (by decide +kernel) rfl rfl (Nat.le_of_ble_eq_true rfl) dX6_net_147 (fun H locs hP hD hS => ?_)
        have hP : va_P D vwCl (wMd cy hM aM sdM (upd M_I 19 0, dk_upA (dk_upA (dk_upA (dk_upA (dk_upA (dk_upA M.2 7 M_7) 8 M_8) 16 g142_0) 14 M_14) 15 M_15) 21 M_21)) H := hP
        have hD : va_D A (wMd cy hM aM sdM (upd M_I 19 0, dk_upA (dk_upA (dk_upA (dk_upA (dk_upA (dk_upA M.2 7 M_7) 8 M_8) 16 g142_0) 14 M_14) 15 M_15) 21 M_21)) := hD
        refine lv_aload_n hx hb dX6_net_150 rfl (lv_at hl 0 rfl) ?_
        refine va_get (D := D) (ci := 6) (v := .ref (aM 21)) (C := RX6) (T := TX6) (N := 28) hx hb hts iX6_net_X6 hown hK.1 hP 0 rfl rfl 21 (by decide) (hts (.fieldLink RX6 41 "DarkPlaceModel" "isKept" "[Z") (List.mem_of_getElem? (i := 16) rfl)) (fun _ h9 => h9) rfl dX6_net_151 ?_
        refine lv_iconst (v := 0) hx hb dX6_net_154 (by decide) ?_
        refine lv_iconst (v := 0) hx hb dX6_net_155 (by decide) ?_
        refine dk_zast hx hb hK.1 hP hD hS 11 1 rfl rfl (by decide) hf dX6_net_156 (fun f156 H locs hP hD hS hf => ?_)
        have hP : va_P D vwCl (wMd cy hM aM sdM (upd M_I 19 0, dk_upA (dk_upA (dk_upA (dk_upA (dk_upA (dk_upA M.2 7 M_7) 8 M_8) 16 g142_0) 14 M_14) 15 M_15) 21 f156)) H := hP
        have hD : va_D A (wMd cy hM aM sdM (upd M_I 19 0, dk_upA (dk_upA (dk_upA (dk_upA (dk_upA (dk_upA M.2 7 M_7) 8 M_8) 16 g142_0) 14 M_14) 15 M_15) 21 f156)) := hD
        refine lv_aload_n hx hb dX6_net_157 rfl (lv_at hl 0 rfl) ?_
        refine va_get (D := D) (ci := 6) (v := .ref (aM 21)) (C := RX6) (T := TX6) (N := 28) hx hb hts iX6_net_X6 hown hK.1 hP 0 rfl rfl 21 (by decide) (hts (.fieldLink RX6 41 "DarkPlaceModel" "isKept" "[Z") (List.mem_of_getElem? (i := 16) rfl)) (fun _ h9 => h9) rfl dX6_net_158 ?_
        refine lv_iconst (v := 1) hx hb dX6_net_161 (by decide) ?_
        refine lv_iconst (v := 0) hx hb dX6_net_162 (by decide) ?_
        refine dk_zast hx hb hK.1 hP hD hS 11 1 rfl rfl (by decide) hf dX6_net_163 (fun f163 H locs hP hD hS hf => ?_)
        have hP : va_P D vwCl (wMd cy hM aM sdM (upd M_I 19 0, dk_upA (dk_upA (dk_upA (dk_upA (dk_upA (dk_upA M.2 7 M_7) 8 M_8) 16 g142_0) 14 M_14) 15 M_15) 21 f163)) H := hP
        have hD : va_D A (wMd cy hM aM sdM (upd M_I 19 0, dk_upA (dk_upA (dk_upA (dk_upA (dk_upA (dk_upA M.2 7 M_7) 8 M_8) 16 g142_0) 14 M_14) 15 M_15) 21 f163)) := hD
        refine lv_aload_n hx hb dX6_net_164 rfl (lv_at hl 0 rfl) ?_
        refine va_get (D := D) (ci := 6) (v := .int (M_I 6)) (C := RX6) (T := TX6) (N := 28) hx hb hts iX6_net_X6 hown hK.1 hP 0 rfl rfl 6 (by decide) (hts (.fieldLink RX6 71 "DarkPlaceModel" "edges" "I") (List.mem_of_getElem? (i := 7) rfl)) (fun _ h9 => h9) rfl dX6_net_165 ?_
        have e := Option.some.inj hf
        simp only [Prod.mk.injEq] at e
        obtain ⟨e0, e1, e2, e3, e4, e5, e6, e7⟩ := e
        subst e1
        subst e2
        subst e3
        subst e4
        subst e5
        subst e6
        subst e7
        exact W.iret (v := M_I 6) hx hb hr (fun t ht hW => ⟨⟨M_I 6, (), rfl, e0, by rw [ht]; exact hP, hD⟩, hS.F ht⟩) hS.2.2 dX6_net_168
      · refine lv_aload_n hx hb dX6_net_51 rfl (lv_at hl 0 rfl) ?_
        refine va_get (D := D) (ci := 6) (v := .ref (aM 7)) (C := RX6) (T := TX6) (N := 28) hx hb hts iX6_net_X6 hown hK.1 hP 0 rfl rfl 7 (by decide) (hts (.fieldLink RX6 17 "DarkPlaceModel" "one" "[I") (List.mem_of_getElem? (i := 8) rfl)) (fun _ h9 => h9) rfl dX6_net_52 ?_
        refine lv_iload_n hx hb dX6_net_55 rfl (lv_at hl 1 rfl) ?_
        refine lv_aload_n hx hb dX6_net_56 rfl (lv_at hl 0 rfl) ?_
        refine va_get (D := D) (ci := 6) (v := .ref (aM 14)) (C := RX6) (T := TX6) (N := 28) hx hb hts iX6_net_X6 hown hK.1 hP 0 rfl rfl 14 (by decide) (hts (.fieldLink RX6 23 "DarkPlaceModel" "readOne" "[I") (List.mem_of_getElem? (i := 9) rfl)) (fun _ h9 => h9) rfl dX6_net_57 ?_
        refine lv_iload_n hx hb dX6_net_60 rfl (lv_at hl 1 rfl) ?_
        refine dk_iald hx hb hK.1 hP 7 0 rfl rfl hf dX6_net_61 (fun d61 hf => ?_)
        refine lv_aload_n hx hb dX6_net_62 rfl (lv_at hl 0 rfl) ?_
        refine va_get (D := D) (ci := 6) (v := .ref (aM 15)) (C := RX6) (T := TX6) (N := 28) hx hb hts iX6_net_X6 hown hK.1 hP 0 rfl rfl 15 (by decide) (hts (.fieldLink RX6 26 "DarkPlaceModel" "readOther" "[I") (List.mem_of_getElem? (i := 10) rfl)) (fun _ h9 => h9) rfl dX6_net_63 ?_
        refine lv_iload_n hx hb dX6_net_66 rfl (lv_at hl 1 rfl) ?_
        refine dk_iald hx hb hK.1 hP 8 0 rfl rfl hf dX6_net_67 (fun d67 hf => ?_)
        refine dk_cge (tgt := 80) hx hb dX6_net_68 (by decide) hf (fun hf => ?_) (fun hf => ?_)
        · refine lv_aload_n hx hb dX6_net_80 rfl (lv_at hl 0 rfl) ?_
          refine va_get (D := D) (ci := 6) (v := .ref (aM 15)) (C := RX6) (T := TX6) (N := 28) hx hb hts iX6_net_X6 hown hK.1 hP 0 rfl rfl 15 (by decide) (hts (.fieldLink RX6 26 "DarkPlaceModel" "readOther" "[I") (List.mem_of_getElem? (i := 10) rfl)) (fun _ h9 => h9) rfl dX6_net_81 ?_
          refine lv_iload_n hx hb dX6_net_84 rfl (lv_at hl 1 rfl) ?_
          refine dk_iald hx hb hK.1 hP 8 0 rfl rfl hf dX6_net_85 (fun d85 hf => ?_)
          exact L86 x1 x1 d85 M_I M_7 M_8 M_16 M_14 M_15 M_21 _ _ _ hP hD hS (lv_sub hl [0, 1] rfl) hf
        · refine lv_aload_n hx hb dX6_net_71 rfl (lv_at hl 0 rfl) ?_
          refine va_get (D := D) (ci := 6) (v := .ref (aM 14)) (C := RX6) (T := TX6) (N := 28) hx hb hts iX6_net_X6 hown hK.1 hP 0 rfl rfl 14 (by decide) (hts (.fieldLink RX6 23 "DarkPlaceModel" "readOne" "[I") (List.mem_of_getElem? (i := 9) rfl)) (fun _ h9 => h9) rfl dX6_net_72 ?_
          refine lv_iload_n hx hb dX6_net_75 rfl (lv_at hl 1 rfl) ?_
          refine dk_iald hx hb hK.1 hP 7 0 rfl rfl hf dX6_net_76 (fun d76 hf => ?_)
          refine lv_goto (tgt := 86) hx hb dX6_net_77 (by decide) ?_
          exact L86 x1 x1 d76 M_I M_7 M_8 M_16 M_14 M_15 M_21 _ _ _ hP hD hS (lv_sub hl [0, 1] rfl) hf
  unfold fX6_net at hf
  refine lv_aload_n hx hb dX6_net_0 rfl (lv_at hl 0 rfl) ?_
  refine lv_iconst (v := 0) hx hb dX6_net_1 (by decide) ?_
  refine va_put (D := D) (ci := 6) (v := .int 0) (ty := .int) (C := RX6) (T := TX6) (N := 28) hx hb hts iX6_net_X6 tyX6 tyX6_ok nmX6 hown hK.1 hP hD hS 0 rfl rfl 0 (by decide) (hts (.fieldLink RX6 61 "DarkPlaceModel" "thrown" "I") (List.mem_of_getElem? (i := 1) rfl)) (fun _ h9 => h9) rfl (by decide +kernel) rfl rfl (Nat.le_of_ble_eq_true rfl) dX6_net_2 (fun H locs hP hD hS => ?_)
  have hP : va_P D vwCl (wMd cy hM aM sdM (upd M.1 0 0, M.2)) H := hP
  have hD : va_D A (wMd cy hM aM sdM (upd M.1 0 0, M.2)) := hD
  refine lv_aload_n hx hb dX6_net_5 rfl (lv_at hl 0 rfl) ?_
  obtain ⟨⟨r6, i6_0, g6_1, g6_2⟩, k6, hf⟩ := dk_bind hf
  dsimp only at hf
  have hPc := hP.sub (ws' := wMd cy hM aM sdM (upd M.1 0 0, M.2)) [0, 1, 2, 3, 4, 5, 6, 7, 8, 9, 10, 11, 12, 13] rfl
  have hDc := hD.sub (ws' := wMd cy hM aM sdM (upd M.1 0 0, M.2)) [0, 1, 2, 3, 4, 5, 6, 7, 8, 9, 10, 11, 12, 13] (by decide) rfl
  have hFc := va_free (wc := wMd cy hM aM sdM (upd M.1 0 0, M.2)) hD hS hA [0, 1, 2, 3, 4, 5, 6, 7, 8, 9, 10, 11, 12, 13] rfl
  refine va_calli (va_runV (As := []) (rest := []) ⟨hx, hb, hml, hown, hts⟩ (kX6_readNet l D cy hM aM sdM H.size (upd M.1 0 0, M.2) r6 i6_0 g6_1 g6_2 k6) (cwV 0 hts gX6_net_X6_readNet rfl rfl rfl (by decide +kernel) ⟨Nat.le_of_ble_eq_true rfl, Nat.le_of_ble_eq_true rfl⟩) (dk_premV hK hPc hDc (ci := 6) (q0 := 0) rfl rfl) rfl rfl hl.1 rfl (lv_room (Nat.le_of_ble_eq_true rfl)) dX6_net_6 ⟨Nat.zero_le _, Nat.zero_le _⟩) hS (fun q _ h => hFc q h) hFc (fun xr6 u t H1 locs ht hvm hw hB hz1 hk1 hS => ?_)
  obtain ⟨hP1, hD1⟩ := hB
  rw [ht] at hP1
  rw [hw]
  obtain ⟨hP, hD⟩ := va_join (wr := ([] : List Nat).filterMap (fun i => (wMd cy hM aM sdM (upd M.1 0 0, M.2))[i]?)) (w1 := wMd cy hM aM sdM (i6_0, dk_upA (dk_upA M.2 14 g6_1) 15 g6_2)) hP hD [0, 1, 2, 3, 4, 5, 6, 7, 8, 9, 10, 11, 12, 13] [] rfl rfl (by decide) (by decide) hk1 hFc hP1 hD1
  generalize H1 = H at hP hS ⊢
  have hP : va_P D vwCl (wMd cy hM aM sdM (i6_0, dk_upA (dk_upA M.2 14 g6_1) 15 g6_2)) H := hP.sub [0, 1, 2, 3, 4, 5, 6, 7, 8, 9, 10, 11, 12, 13] rfl
  have hD : va_D A (wMd cy hM aM sdM (i6_0, dk_upA (dk_upA M.2 14 g6_1) 15 g6_2)) := hD.sub [0, 1, 2, 3, 4, 5, 6, 7, 8, 9, 10, 11, 12, 13] (by decide) rfl
  refine lv_bipush (v := (-9)) hx hb dX6_net_9 (by decide) ?_
  refine dk_ceq (tgt := 17) hx hb dX6_net_11 (by decide) hf (fun hf => ?_) (fun hf => ?_)
  · refine lv_aload_n hx hb dX6_net_17 rfl (lv_at hl 0 rfl) ?_
    refine lv_aload_n hx hb dX6_net_18 rfl (lv_at hl 0 rfl) ?_
    refine va_get (D := D) (ci := 6) (v := .int (i6_0 9)) (C := RX6) (T := TX6) (N := 28) hx hb hts iX6_net_X6 hown hK.1 hP 0 rfl rfl 9 (by decide) (hts (.fieldLink RX6 134 "DarkPlaceModel" "readPlaces" "I") (List.mem_of_getElem? (i := 2) rfl)) (fun _ h9 => h9) rfl dX6_net_19 ?_
    refine va_put (D := D) (ci := 6) (v := .int (i6_0 9)) (ty := .int) (C := RX6) (T := TX6) (N := 28) hx hb hts iX6_net_X6 tyX6 tyX6_ok nmX6 hown hK.1 hP hD hS 0 rfl rfl 4 (by decide) (hts (.fieldLink RX6 13 "DarkPlaceModel" "places" "I") (List.mem_of_getElem? (i := 3) rfl)) (fun _ h9 => h9) rfl (by decide +kernel) rfl rfl (Nat.le_of_ble_eq_true rfl) dX6_net_22 (fun H locs hP hD hS => ?_)
    have hP : va_P D vwCl (wMd cy hM aM sdM (upd i6_0 4 (i6_0 9), dk_upA (dk_upA M.2 14 g6_1) 15 g6_2)) H := hP
    have hD : va_D A (wMd cy hM aM sdM (upd i6_0 4 (i6_0 9), dk_upA (dk_upA M.2 14 g6_1) 15 g6_2)) := hD
    refine lv_aload_n hx hb dX6_net_25 rfl (lv_at hl 0 rfl) ?_
    refine lv_aload_n hx hb dX6_net_26 rfl (lv_at hl 0 rfl) ?_
    refine va_get (D := D) (ci := 6) (v := .int (i6_0 10)) (C := RX6) (T := TX6) (N := 28) hx hb hts iX6_net_X6 hown hK.1 hP 0 rfl rfl 10 (by decide) (hts (.fieldLink RX6 146 "DarkPlaceModel" "readHome" "I") (List.mem_of_getElem? (i := 4) rfl)) (fun _ h9 => h9) rfl dX6_net_27 ?_
    refine va_put (D := D) (ci := 6) (v := .int (i6_0 10)) (ty := .int) (C := RX6) (T := TX6) (N := 28) hx hb hts iX6_net_X6 tyX6 tyX6_ok nmX6 hown hK.1 hP hD hS 0 rfl rfl 5 (by decide) (hts (.fieldLink RX6 64 "DarkPlaceModel" "home" "I") (List.mem_of_getElem? (i := 5) rfl)) (fun _ h9 => h9) rfl (by decide +kernel) rfl rfl (Nat.le_of_ble_eq_true rfl) dX6_net_30 (fun H locs hP hD hS => ?_)
    have hP : va_P D vwCl (wMd cy hM aM sdM (upd (upd i6_0 4 (i6_0 9)) 5 (i6_0 10), dk_upA (dk_upA M.2 14 g6_1) 15 g6_2)) H := hP
    have hD : va_D A (wMd cy hM aM sdM (upd (upd i6_0 4 (i6_0 9)) 5 (i6_0 10), dk_upA (dk_upA M.2 14 g6_1) 15 g6_2)) := hD
    refine lv_aload_n hx hb dX6_net_33 rfl (lv_at hl 0 rfl) ?_
    refine lv_aload_n hx hb dX6_net_34 rfl (lv_at hl 0 rfl) ?_
    refine va_get (D := D) (ci := 6) (v := .int (i6_0 13)) (C := RX6) (T := TX6) (N := 28) hx hb hts iX6_net_X6 hown hK.1 hP 0 rfl rfl 13 (by decide) (hts (.fieldLink RX6 137 "DarkPlaceModel" "readEdges" "I") (List.mem_of_getElem? (i := 6) rfl)) (fun _ h9 => h9) rfl dX6_net_35 ?_
    refine va_put (D := D) (ci := 6) (v := .int (i6_0 13)) (ty := .int) (C := RX6) (T := TX6) (N := 28) hx hb hts iX6_net_X6 tyX6 tyX6_ok nmX6 hown hK.1 hP hD hS 0 rfl rfl 6 (by decide) (hts (.fieldLink RX6 71 "DarkPlaceModel" "edges" "I") (List.mem_of_getElem? (i := 7) rfl)) (fun _ h9 => h9) rfl (by decide +kernel) rfl rfl (Nat.le_of_ble_eq_true rfl) dX6_net_38 (fun H locs hP hD hS => ?_)
    have hP : va_P D vwCl (wMd cy hM aM sdM (upd (upd (upd i6_0 4 (i6_0 9)) 5 (i6_0 10)) 6 (i6_0 13), dk_upA (dk_upA M.2 14 g6_1) 15 g6_2)) H := hP
    have hD : va_D A (wMd cy hM aM sdM (upd (upd (upd i6_0 4 (i6_0 9)) 5 (i6_0 10)) 6 (i6_0 13), dk_upA (dk_upA M.2 14 g6_1) 15 g6_2)) := hD
    refine lv_iconst (v := 0) hx hb dX6_net_41 (by decide) ?_
    refine lv_istore_n (lv' := [(1, .int 0), (0, .ref hM)]) hx hb dX6_net_42 rfl hl (by decide) rfl (fun ls hl => ?_)
    exact L43 1000 0 (upd (upd (upd i6_0 4 (i6_0 9)) 5 (i6_0 10)) 6 (i6_0 13)) (M.2 7) (M.2 8) (M.2 16) g6_1 g6_2 (M.2 21) _ _ _ hP hD hS (lv_sub hl [1, 0] rfl) hf
  · refine lv_bipush (v := (-3)) hx hb dX6_net_14 (by decide) ?_
    have e := Option.some.inj hf
    simp only [Prod.mk.injEq] at e
    obtain ⟨e0, e1, e2, e3, e4, e5, e6, e7⟩ := e
    subst e1
    subst e2
    subst e3
    subst e4
    subst e5
    subst e6
    subst e7
    exact W.iret (v := (-3)) hx hb hr (fun t ht hW => ⟨⟨(-3), (), rfl, e0, by rw [ht]; exact hP, hD⟩, hS.F ht⟩) hS.2.2 dX6_net_16
theorem iX6_edge_X6 : ∀ w ∈ wsX60, w ∈ wsX6_edge := fun _ h => List.mem_cons_of_mem _ (List.mem_append_right _ h)
set_option maxHeartbeats 4000000 in
set_option maxRecDepth 100000 in
theorem kX6_edge (l : Launch) (D : va_G) (cy : Nat → ClassId) (hM : Nat) (aM : Nat → Nat) (sdM : Int64) (sz : Nat) (M : dk_O) (v1 : Int32) (v2 : Int32) (r : Int32) (oM_I : (Nat → Int32)) (hf : fX6_edge M v1 v2 = some (r, oM_I)) : dk_MuI l yX6_edge wsX6_edge ({ frames := 2, cells := 0, slots := 0, locals := 46 }) D cy [.ref hM, .int v1, .int v2] (wMd cy hM aM sdM M) (wMd cy hM aM sdM (oM_I, M.2)) sz r := by
  refine Met.ofW (cc := cX6_edge) (maxL := 5) (ret := (some .int)) (by decide) rfl ?_
  intro p e s m args below meth c s₁ B hml hv
  obtain ⟨rfl, hsz, hP, hK, hD0⟩ := hv
  have hx := B.exec
  have hb := B.bytes
  have hr := B.returns
  have hts := atoms_spec (ws := wsX6_edge) B.pre
  have hown : s.vm.findClass RX6 = some m.cls := findClass_of_methodNamed B.named
  have hlocks := B.notSynchronized
  subst hsz
  have hD := hD0.self (sz := s.heap.size)
  generalize hAe : va_A (wMd cy hM aM sdM M) s.heap.size = A at hD ⊢
  have hA : ∀ q : Nat, s.heap.size ≤ q → A q := fun q h => by rw [← hAe]; exact Or.inr h
  have hS : va_S A s.heap s.heap [] := va_S.rf
  have hl := lv_entry ([.ref hM, .int v1, .int v2]) (n := 5) (Nat.le_of_ble_eq_true rfl)
  rw [lg_entry_eq]
  generalize (lg_sl ([.ref hM, .int v1, .int v2]) ++ List.replicate (5 - (lg_sl ([.ref hM, .int v1, .int v2])).length) Slot.unset).toArray = ls at hl ⊢
  have hl : lv_has ls 5 [(0, .ref hM), (1, .int v1), (2, .int v2)] := hl
  have L21 : ∀ (fu21 : Nat) (x1 : Int32) (x2 : Int32) (x3 : Int32) (x4 : Int32) (M_I : (Nat → Int32)) (H : Heap) (locs : List Loc) (ls : Array Slot), va_P D vwCl (wMd cy hM aM sdM (M_I, M.2)) H → va_D A (wMd cy hM aM sdM (M_I, M.2)) → va_S A s.heap H locs → lv_has ls 5 [(0, .ref hM), (1, .int x1), (2, .int x2), (3, .int x3), (4, .int x4)] → fX6_edge_L21 M fu21 x1 x2 x3 x4 M_I = some (r, oM_I) → W p l e (headSpec wsX6_edge ({ frames := 2, cells := 0, slots := 0, locals := 46 })).room s m ([.ref hM, .int v1, .int v2]).toArray below meth c H locs 0 0 (MQ below (va_Qi (fun (x : Int32) (_ : Unit) => x = r) (dk_B D (wMd cy hM aM sdM (oM_I, M.2)) A) A) ([.ref hM, .int v1, .int v2]).toArray s 0 0 A) (F0 m 21 ls []) := by
    intro fu21
    induction fu21 with
    | zero =>
      intro x1 x2 x3 x4 M_I H locs ls hP hD hS hl hf
      rw [fX6_edge_L21] at hf
      cases hf
    | succ fu21 ih21 =>
      intro x1 x2 x3 x4 M_I H locs ls hP hD hS hl hf
      rw [fX6_edge_L21] at hf
      refine lv_iload hx hb dX6_edge_21 (lv_at hl 4 rfl) ?_
      refine lv_aload_n hx hb dX6_edge_23 rfl (lv_at hl 0 rfl) ?_
      refine va_get (D := D) (ci := 6) (v := .ref (aM 16)) (C := RX6) (T := TX6) (N := 28) hx hb hts iX6_edge_X6 hown hK.1 hP 0 rfl rfl 16 (by decide) (hts (.fieldLink RX6 29 "DarkPlaceModel" "page" "[I") (List.mem_of_getElem? (i := 2) rfl)) (fun _ h9 => h9) rfl dX6_edge_24 ?_
      refine lv_iconst (v := 1) hx hb dX6_edge_27 (by decide) ?_
      refine dk_iald hx hb hK.1 hP 4 0 rfl rfl hf dX6_edge_28 (fun d28 hf => ?_)
      refine dk_cge (tgt := 61) hx hb dX6_edge_29 (by decide) hf (fun hf => ?_) (fun hf => ?_)
      · refine lv_iload_n hx hb dX6_edge_61 rfl (lv_at hl 2 rfl) ?_
        refine dk_ine (tgt := 74) hx hb dX6_edge_62 (by decide) hf (fun hf => ?_) (fun hf => ?_)
        · refine lv_iload_n hx hb dX6_edge_74 rfl (lv_at hl 2 rfl) ?_
          refine lv_iconst (v := 1) hx hb dX6_edge_75 (by decide) ?_
          refine dk_cne (tgt := 88) hx hb dX6_edge_76 (by decide) hf (fun hf => ?_) (fun hf => ?_)
          · refine lv_iload_n hx hb dX6_edge_88 rfl (lv_at hl 2 rfl) ?_
            refine lv_iconst (v := 2) hx hb dX6_edge_89 (by decide) ?_
            refine dk_cne (tgt := 105) hx hb dX6_edge_90 (by decide) hf (fun hf => ?_) (fun hf => ?_)
            · refine lv_iload_n hx hb dX6_edge_105 rfl (lv_at hl 2 rfl) ?_
              refine lv_iconst (v := 3) hx hb dX6_edge_106 (by decide) ?_
              refine dk_cne (tgt := 114) hx hb dX6_edge_107 (by decide) hf (fun hf => ?_) (fun hf => ?_)
              · refine lv_bipush (v := (-2)) hx hb dX6_edge_114 (by decide) ?_
                have e := Option.some.inj hf
                simp only [Prod.mk.injEq] at e
                obtain ⟨e0, e1⟩ := e
                subst e1
                exact W.iret (v := (-2)) hx hb hr (fun t ht hW => ⟨⟨(-2), (), rfl, e0, by rw [ht]; exact hP, hD⟩, hS.F ht⟩) hS.2.2 dX6_edge_116
              · refine lv_iload_n hx hb dX6_edge_110 rfl (lv_at hl 3 rfl) ?_
                refine lv_goto (tgt := 116) hx hb dX6_edge_111 (by decide) ?_
                have e := Option.some.inj hf
                simp only [Prod.mk.injEq] at e
                obtain ⟨e0, e1⟩ := e
                subst e1
                exact W.iret (v := x3) hx hb hr (fun t ht hW => ⟨⟨x3, (), rfl, e0, by rw [ht]; exact hP, hD⟩, hS.F ht⟩) hS.2.2 dX6_edge_116
            · refine lv_aload_n hx hb dX6_edge_93 rfl (lv_at hl 0 rfl) ?_
              refine va_get (D := D) (ci := 6) (v := .ref (aM 16)) (C := RX6) (T := TX6) (N := 28) hx hb hts iX6_edge_X6 hown hK.1 hP 0 rfl rfl 16 (by decide) (hts (.fieldLink RX6 29 "DarkPlaceModel" "page" "[I") (List.mem_of_getElem? (i := 2) rfl)) (fun _ h9 => h9) rfl dX6_edge_94 ?_
              refine lv_bipush (v := 11) hx hb dX6_edge_97 (by decide) ?_
              refine lv_iload_n hx hb dX6_edge_99 rfl (lv_at hl 1 rfl) ?_
              refine lv_iadd hx hb dX6_edge_100 ?_
              refine dk_iald hx hb hK.1 hP 4 0 rfl rfl hf dX6_edge_101 (fun d101 hf => ?_)
              refine lv_goto (tgt := 116) hx hb dX6_edge_102 (by decide) ?_
              have e := Option.some.inj hf
              simp only [Prod.mk.injEq] at e
              obtain ⟨e0, e1⟩ := e
              subst e1
              exact W.iret (v := d101) hx hb hr (fun t ht hW => ⟨⟨d101, (), rfl, e0, by rw [ht]; exact hP, hD⟩, hS.F ht⟩) hS.2.2 dX6_edge_116
          · refine lv_aload_n hx hb dX6_edge_79 rfl (lv_at hl 0 rfl) ?_
            refine va_get (D := D) (ci := 6) (v := .ref (aM 8)) (C := RX6) (T := TX6) (N := 28) hx hb hts iX6_edge_X6 hown hK.1 hP 0 rfl rfl 8 (by decide) (hts (.fieldLink RX6 20 "DarkPlaceModel" "other" "[I") (List.mem_of_getElem? (i := 4) rfl)) (fun _ h9 => h9) rfl dX6_edge_80 ?_
            refine lv_iload_n hx hb dX6_edge_83 rfl (lv_at hl 1 rfl) ?_
            refine dk_iald hx hb hK.1 hP 2 0 rfl rfl hf dX6_edge_84 (fun d84 hf => ?_)
            refine lv_goto (tgt := 116) hx hb dX6_edge_85 (by decide) ?_
            have e := Option.some.inj hf
            simp only [Prod.mk.injEq] at e
            obtain ⟨e0, e1⟩ := e
            subst e1
            exact W.iret (v := d84) hx hb hr (fun t ht hW => ⟨⟨d84, (), rfl, e0, by rw [ht]; exact hP, hD⟩, hS.F ht⟩) hS.2.2 dX6_edge_116
        · refine lv_aload_n hx hb dX6_edge_65 rfl (lv_at hl 0 rfl) ?_
          refine va_get (D := D) (ci := 6) (v := .ref (aM 7)) (C := RX6) (T := TX6) (N := 28) hx hb hts iX6_edge_X6 hown hK.1 hP 0 rfl rfl 7 (by decide) (hts (.fieldLink RX6 17 "DarkPlaceModel" "one" "[I") (List.mem_of_getElem? (i := 3) rfl)) (fun _ h9 => h9) rfl dX6_edge_66 ?_
          refine lv_iload_n hx hb dX6_edge_69 rfl (lv_at hl 1 rfl) ?_
          refine dk_iald hx hb hK.1 hP 1 0 rfl rfl hf dX6_edge_70 (fun d70 hf => ?_)
          refine lv_goto (tgt := 116) hx hb dX6_edge_71 (by decide) ?_
          have e := Option.some.inj hf
          simp only [Prod.mk.injEq] at e
          obtain ⟨e0, e1⟩ := e
          subst e1
          exact W.iret (v := d70) hx hb hr (fun t ht hW => ⟨⟨d70, (), rfl, e0, by rw [ht]; exact hP, hD⟩, hS.F ht⟩) hS.2.2 dX6_edge_116
      · refine lv_aload_n hx hb dX6_edge_32 rfl (lv_at hl 0 rfl) ?_
        refine va_get (D := D) (ci := 6) (v := .ref (aM 16)) (C := RX6) (T := TX6) (N := 28) hx hb hts iX6_edge_X6 hown hK.1 hP 0 rfl rfl 16 (by decide) (hts (.fieldLink RX6 29 "DarkPlaceModel" "page" "[I") (List.mem_of_getElem? (i := 2) rfl)) (fun _ h9 => h9) rfl dX6_edge_33 ?_
        refine lv_bipush (v := 7) hx hb dX6_edge_36 (by decide) ?_
        refine lv_iload hx hb dX6_edge_38 (lv_at hl 4 rfl) ?_
        refine lv_iadd hx hb dX6_edge_40 ?_
        refine dk_iald hx hb hK.1 hP 4 0 rfl rfl hf dX6_edge_41 (fun d41 hf => ?_)
        refine lv_iload_n hx hb dX6_edge_42 rfl (lv_at hl 1 rfl) ?_
        refine lv_iconst (v := 1) hx hb dX6_edge_43 (by decide) ?_
        refine lv_iadd hx hb dX6_edge_44 ?_
        refine dk_cne (tgt := 53) hx hb dX6_edge_45 (by decide) hf (fun hf => ?_) (fun hf => ?_)
        · refine lv_iload_n hx hb dX6_edge_53 rfl (lv_at hl 3 rfl) ?_
          refine lv_istore_n (lv' := [(3, .int x3), (0, .ref hM), (1, .int x1), (2, .int x2), (4, .int x4)]) hx hb dX6_edge_54 rfl hl (by decide) rfl (fun ls hl => ?_)
          refine lv_iinc (v := x4 + 1) (lv' := [(4, .int (x4 + 1)), (3, .int x3), (0, .ref hM), (1, .int x1), (2, .int x2)]) hx hb dX6_edge_55 hl (k := 4) rfl rfl (by decide) rfl (fun ls hl => ?_)
          refine lv_goto (tgt := 21) hx hb dX6_edge_58 (by decide) ?_
          exact ih21 x1 x2 x3 (x4 + 1) M_I _ _ _ hP hD hS (lv_sub hl [2, 3, 4, 1, 0] rfl) hf
        · refine lv_iload hx hb dX6_edge_48 (lv_at hl 4 rfl) ?_
          refine lv_goto (tgt := 54) hx hb dX6_edge_50 (by decide) ?_
          refine lv_istore_n (lv' := [(3, .int x4), (0, .ref hM), (1, .int x1), (2, .int x2), (4, .int x4)]) hx hb dX6_edge_54 rfl hl (by decide) rfl (fun ls hl => ?_)
          refine lv_iinc (v := x4 + 1) (lv' := [(4, .int (x4 + 1)), (3, .int x4), (0, .ref hM), (1, .int x1), (2, .int x2)]) hx hb dX6_edge_55 hl (k := 4) rfl rfl (by decide) rfl (fun ls hl => ?_)
          refine lv_goto (tgt := 21) hx hb dX6_edge_58 (by decide) ?_
          exact ih21 x1 x2 x4 (x4 + 1) M_I _ _ _ hP hD hS (lv_sub hl [2, 3, 4, 1, 0] rfl) hf
  unfold fX6_edge at hf
  refine lv_aload_n hx hb dX6_edge_0 rfl (lv_at hl 0 rfl) ?_
  refine lv_iconst (v := 0) hx hb dX6_edge_1 (by decide) ?_
  refine va_put (D := D) (ci := 6) (v := .int 0) (ty := .int) (C := RX6) (T := TX6) (N := 28) hx hb hts iX6_edge_X6 tyX6 tyX6_ok nmX6 hown hK.1 hP hD hS 0 rfl rfl 0 (by decide) (hts (.fieldLink RX6 61 "DarkPlaceModel" "thrown" "I") (List.mem_of_getElem? (i := 1) rfl)) (fun _ h9 => h9) rfl (by decide +kernel) rfl rfl (Nat.le_of_ble_eq_true rfl) dX6_edge_2 (fun H locs hP hD hS => ?_)
  have hP : va_P D vwCl (wMd cy hM aM sdM (upd M.1 0 0, M.2)) H := hP
  have hD : va_D A (wMd cy hM aM sdM (upd M.1 0 0, M.2)) := hD
  refine lv_aload_n hx hb dX6_edge_5 rfl (lv_at hl 0 rfl) ?_
  refine lv_iload_n hx hb dX6_edge_6 rfl (lv_at hl 1 rfl) ?_
  obtain ⟨r7, k7, hf⟩ := dk_bind hf
  refine dk_ri (va_runV (As := [.int v1]) (rest := []) ⟨hx, hb, hml, hown, hts⟩ (kX6_noEdge l D cy hM aM sdM (upd M.1 0 0, M.2) v1 r7 k7) (cwV 1 hts gX6_edge_X6_noEdge rfl rfl rfl (by decide +kernel) ⟨Nat.le_of_ble_eq_true rfl, Nat.le_of_ble_eq_true rfl⟩) (dk_preV hK (hP.sub (ws' := wMs cy hM aM sdM (upd M.1 0 0, M.2)) [0, 1, 2, 3] rfl) (ci := 6) (q0 := 0) rfl rfl) rfl rfl hl.1 rfl (lv_room (Nat.le_of_ble_eq_true rfl)) dX6_edge_7 ⟨Nat.zero_le _, Nat.zero_le _⟩) ?_
  refine dk_ieq (tgt := 15) hx hb dX6_edge_10 (by decide) hf (fun hf => ?_) (fun hf => ?_)
  · refine lv_bipush (v := (-9)) hx hb dX6_edge_15 (by decide) ?_
    refine lv_istore_n (lv' := [(3, .int (-9)), (0, .ref hM), (1, .int v1), (2, .int v2)]) hx hb dX6_edge_17 rfl hl (by decide) rfl (fun ls hl => ?_)
    refine lv_iconst (v := 0) hx hb dX6_edge_18 (by decide) ?_
    refine lv_istore (lv' := [(4, .int 0), (3, .int (-9)), (0, .ref hM), (1, .int v1), (2, .int v2)]) hx hb dX6_edge_19 hl (by decide) rfl (fun ls hl => ?_)
    exact L21 1000 v1 v2 (-9) 0 (upd M.1 0 0) _ _ _ hP hD hS (lv_sub hl [2, 3, 4, 1, 0] rfl) hf
  · refine lv_iconst (v := (-1)) hx hb dX6_edge_13 (by decide) ?_
    have e := Option.some.inj hf
    simp only [Prod.mk.injEq] at e
    obtain ⟨e0, e1⟩ := e
    subst e1
    exact W.iret (v := (-1)) hx hb hr (fun t ht hW => ⟨⟨(-1), (), rfl, e0, by rw [ht]; exact hP, hD⟩, hS.F ht⟩) hS.2.2 dX6_edge_14
theorem iX6_noSearcher_X6 : ∀ w ∈ wsX60, w ∈ wsX6_noSearcher := fun _ h => List.mem_cons_of_mem _ (List.mem_append_right _ h)
set_option maxHeartbeats 4000000 in
set_option maxRecDepth 100000 in
theorem kX6_noSearcher (l : Launch) (D : va_G) (cy : Nat → ClassId) (hM : Nat) (aM : Nat → Nat) (sdM : Int64) (M : dk_O) (v1 : Int32) (r : Int32) (hf : fX6_noSearcher M v1 = some r) : dk_RdI l yX6_noSearcher wsX6_noSearcher ({ frames := 1, cells := 0, slots := 0, locals := 25 }) D cy [.ref hM, .int v1] (wMd cy hM aM sdM M) r := by
  refine Met.ofW (cc := cX6_noSearcher) (maxL := 2) (ret := (some .boolean)) (by decide) rfl ?_
  intro p e s m args below meth c s₁ B hml hv
  obtain ⟨rfl, hP, hK⟩ := hv
  have hx := B.exec
  have hb := B.bytes
  have hr := B.returns
  have hts := atoms_spec (ws := wsX6_noSearcher) B.pre
  have hown : s.vm.findClass RX6 = some m.cls := findClass_of_methodNamed B.named
  have hlocks := B.notSynchronized
  have hl := lv_entry ([.ref hM, .int v1]) (n := 2) (Nat.le_of_ble_eq_true rfl)
  rw [lg_entry_eq]
  generalize (lg_sl ([.ref hM, .int v1]) ++ List.replicate (2 - (lg_sl ([.ref hM, .int v1])).length) Slot.unset).toArray = ls at hl ⊢
  have hl : lv_has ls 2 [(0, .ref hM), (1, .int v1)] := hl
  unfold fX6_noSearcher at hf
  refine lv_iload_n hx hb dX6_noSearcher_0 rfl (lv_at hl 1 rfl) ?_
  refine lv_i2l hx hb dX6_noSearcher_1 rfl ?_
  refine lv_lconst (v := 0) hx hb dX6_noSearcher_2 (by decide) ?_
  refine lv_aload_n hx hb dX6_noSearcher_3 rfl (lv_at hl 0 rfl) ?_
  refine va_get (D := D) (ci := 6) (v := .ref (aM 16)) (C := RX6) (T := TX6) (N := 28) hx hb hts iX6_noSearcher_X6 hown hK.1 hP 0 rfl rfl 16 (by decide) (hts (.fieldLink RX6 29 "DarkPlaceModel" "page" "[I") (List.mem_of_getElem? (i := 1) rfl)) (fun _ h9 => h9) rfl dX6_noSearcher_4 ?_
  refine lv_iconst (v := 1) hx hb dX6_noSearcher_7 (by decide) ?_
  refine dk_iald hx hb hK.1 hP 4 0 rfl rfl hf dX6_noSearcher_8 (fun d8 hf => ?_)
  refine lv_iconst (v := 1) hx hb dX6_noSearcher_9 (by decide) ?_
  refine lv_isub hx hb dX6_noSearcher_10 ?_
  refine lv_i2l hx hb dX6_noSearcher_11 rfl ?_
  obtain ⟨r12, k12, hf⟩ := dk_bind hf
  refine dk_ri (va_runS (As := [.long v1.toInt64, .long 0, .long ((d8 - 1).toInt64)]) (rest := []) ⟨hx, hb, hml, hown, hts⟩ (kX6_in l D cy v1.toInt64 0 ((d8 - 1).toInt64) r12 k12) (va_cwS 3 hts gX6_noSearcher_X6_in rfl rfl rfl (by decide +kernel) ⟨Nat.le_of_ble_eq_true rfl, Nat.le_of_ble_eq_true rfl⟩) (dk_preS hK (hP.sub (ws' := []) [] rfl)) rfl rfl hl.1 rfl (lv_room (Nat.le_of_ble_eq_true rfl)) dX6_noSearcher_12 ⟨Nat.zero_le _, Nat.zero_le _⟩) ?_
  refine dk_ine (tgt := 22) hx hb dX6_noSearcher_15 (by decide) hf (fun hf => ?_) (fun hf => ?_)
  · refine lv_iconst (v := 0) hx hb dX6_noSearcher_22 (by decide) ?_
    exact W.zret (v := 0) hx hb hr rfl (fun t ht hW => ⟨0, rfl, Option.some.inj hf, ht⟩) t_nil dX6_noSearcher_23
  · refine lv_iconst (v := 1) hx hb dX6_noSearcher_18 (by decide) ?_
    refine lv_goto (tgt := 23) hx hb dX6_noSearcher_19 (by decide) ?_
    exact W.zret (v := 1) hx hb hr rfl (fun t ht hW => ⟨1, rfl, Option.some.inj hf, ht⟩) t_nil dX6_noSearcher_23
theorem iX6_steps_X6 : ∀ w ∈ wsX60, w ∈ wsX6_steps := fun _ h => List.mem_cons_of_mem _ (List.mem_append_right _ h)
set_option maxHeartbeats 4000000 in
set_option maxRecDepth 100000 in
theorem kX6_steps (l : Launch) (D : va_G) (cy : Nat → ClassId) (hM : Nat) (aM : Nat → Nat) (sdM : Int64) (M : dk_O) (v1 : Int32) (r : Int32) (hf : fX6_steps M v1 = some r) : dk_RdI l yX6_steps wsX6_steps ({ frames := 3, cells := 0, slots := 0, locals := 69 }) D cy [.ref hM, .int v1] (wMd cy hM aM sdM M) r := by
  refine Met.ofW (cc := cX6_steps) (maxL := 4) (ret := (some .int)) (by decide) rfl ?_
  intro p e s m args below meth c s₁ B hml hv
  obtain ⟨rfl, hP, hK⟩ := hv
  have hx := B.exec
  have hb := B.bytes
  have hr := B.returns
  have hts := atoms_spec (ws := wsX6_steps) B.pre
  have hown : s.vm.findClass RX6 = some m.cls := findClass_of_methodNamed B.named
  have hlocks := B.notSynchronized
  have hl := lv_entry ([.ref hM, .int v1]) (n := 4) (Nat.le_of_ble_eq_true rfl)
  rw [lg_entry_eq]
  generalize (lg_sl ([.ref hM, .int v1]) ++ List.replicate (4 - (lg_sl ([.ref hM, .int v1])).length) Slot.unset).toArray = ls at hl ⊢
  have hl : lv_has ls 4 [(0, .ref hM), (1, .int v1)] := hl
  have L4 : ∀ (fu4 : Nat) (x1 : Int32) (x2 : Int32) (x3 : Int32) (ls : Array Slot), lv_has ls 4 [(0, .ref hM), (1, .int x1), (2, .int x2), (3, .int x3)] → fX6_steps_L4 M fu4 x1 x2 x3 = some r → W p l e (headSpec wsX6_steps ({ frames := 3, cells := 0, slots := 0, locals := 69 })).room s m ([.ref hM, .int v1]).toArray below meth c s.heap [] 0 0 (MQ below (vp_Si (fun x => x = r)) ([.ref hM, .int v1]).toArray s 0 0 (fun _ => False)) (F0 m 4 ls []) := by
    intro fu4
    induction fu4 with
    | zero =>
      intro x1 x2 x3 ls hl hf
      rw [fX6_steps_L4] at hf
      cases hf
    | succ fu4 ih4 =>
      intro x1 x2 x3 ls hl hf
      rw [fX6_steps_L4] at hf
      refine lv_iload_n hx hb dX6_steps_4 rfl (lv_at hl 3 rfl) ?_
      refine lv_aload_n hx hb dX6_steps_5 rfl (lv_at hl 0 rfl) ?_
      refine va_get (D := D) (ci := 6) (v := .int (M.1 6)) (C := RX6) (T := TX6) (N := 28) hx hb hts iX6_steps_X6 hown hK.1 hP 0 rfl rfl 6 (by decide) (hts (.fieldLink RX6 71 "DarkPlaceModel" "edges" "I") (List.mem_of_getElem? (i := 1) rfl)) (fun _ h9 => h9) rfl dX6_steps_6 ?_
      refine dk_cge (tgt := 41) hx hb dX6_steps_9 (by decide) hf (fun hf => ?_) (fun hf => ?_)
      · refine lv_iload_n hx hb dX6_steps_41 rfl (lv_at hl 2 rfl) ?_
        exact W.iret (v := x2) hx hb hr (fun t ht hW => ⟨x2, rfl, Option.some.inj hf, ht⟩) t_nil dX6_steps_42
      · refine lv_iload_n hx hb dX6_steps_12 rfl (lv_at hl 2 rfl) ?_
        refine lv_aload_n hx hb dX6_steps_13 rfl (lv_at hl 0 rfl) ?_
        refine lv_aload_n hx hb dX6_steps_14 rfl (lv_at hl 0 rfl) ?_
        refine va_get (D := D) (ci := 6) (v := .ref (aM 16)) (C := RX6) (T := TX6) (N := 28) hx hb hts iX6_steps_X6 hown hK.1 hP 0 rfl rfl 16 (by decide) (hts (.fieldLink RX6 29 "DarkPlaceModel" "page" "[I") (List.mem_of_getElem? (i := 2) rfl)) (fun _ h9 => h9) rfl dX6_steps_15 ?_
        refine lv_iload_n hx hb dX6_steps_18 rfl (lv_at hl 1 rfl) ?_
        refine lv_iload_n hx hb dX6_steps_19 rfl (lv_at hl 3 rfl) ?_
        obtain ⟨r20, k20, hf⟩ := dk_bind hf
        refine dk_ri (va_runV (As := [.ref (aM 16), .int x1, .int x3]) (rest := [.int x2]) ⟨hx, hb, hml, hown, hts⟩ (kX6_canStep l D cy hM aM sdM (aM 16) M (M.2 16) x1 x3 r20 k20) (cwV 3 hts gX6_steps_X6_canStep rfl rfl rfl (by decide +kernel) ⟨Nat.le_of_ble_eq_true rfl, Nat.le_of_ble_eq_true rfl⟩) (dk_preV hK (hP.sub (ws' := wMs cy hM aM sdM M ++ wRw cy (aM 16) 21 (M.2 16)) [0, 1, 2, 3, 4] rfl) (ci := 6) (q0 := 0) rfl rfl) rfl rfl hl.1 rfl (lv_room (Nat.le_of_ble_eq_true rfl)) dX6_steps_20 ⟨Nat.zero_le _, Nat.zero_le _⟩) ?_
        refine dk_ieq (tgt := 32) hx hb dX6_steps_23 (by decide) hf (fun hf => ?_) (fun hf => ?_)
        · refine lv_iconst (v := 0) hx hb dX6_steps_32 (by decide) ?_
          refine lv_ior hx hb dX6_steps_33 ?_
          refine lv_istore_n (lv' := [(2, .int (x2 ||| 0)), (0, .ref hM), (1, .int x1), (3, .int x3)]) hx hb dX6_steps_34 rfl hl (by decide) rfl (fun ls hl => ?_)
          refine lv_iinc (v := x3 + 1) (lv' := [(3, .int (x3 + 1)), (2, .int (x2 ||| 0)), (0, .ref hM), (1, .int x1)]) hx hb dX6_steps_35 hl (k := 3) rfl rfl (by decide) rfl (fun ls hl => ?_)
          refine lv_goto (tgt := 4) hx hb dX6_steps_38 (by decide) ?_
          exact ih4 x1 (x2 ||| 0) (x3 + 1) _ (lv_sub hl [2, 3, 1, 0] rfl) hf
        · refine lv_iconst (v := 1) hx hb dX6_steps_26 (by decide) ?_
          refine lv_iload_n hx hb dX6_steps_27 rfl (lv_at hl 3 rfl) ?_
          refine lv_ishl hx hb dX6_steps_28 ?_
          refine lv_goto (tgt := 33) hx hb dX6_steps_29 (by decide) ?_
          refine lv_ior hx hb dX6_steps_33 ?_
          refine lv_istore_n (lv' := [(2, .int (x2 ||| ((1 : Int32) <<< (x3 &&& 31)))), (0, .ref hM), (1, .int x1), (3, .int x3)]) hx hb dX6_steps_34 rfl hl (by decide) rfl (fun ls hl => ?_)
          refine lv_iinc (v := x3 + 1) (lv' := [(3, .int (x3 + 1)), (2, .int (x2 ||| ((1 : Int32) <<< (x3 &&& 31)))), (0, .ref hM), (1, .int x1)]) hx hb dX6_steps_35 hl (k := 3) rfl rfl (by decide) rfl (fun ls hl => ?_)
          refine lv_goto (tgt := 4) hx hb dX6_steps_38 (by decide) ?_
          exact ih4 x1 (x2 ||| ((1 : Int32) <<< (x3 &&& 31))) (x3 + 1) _ (lv_sub hl [2, 3, 1, 0] rfl) hf
  unfold fX6_steps at hf
  refine lv_iconst (v := 0) hx hb dX6_steps_0 (by decide) ?_
  refine lv_istore_n (lv' := [(2, .int 0), (0, .ref hM), (1, .int v1)]) hx hb dX6_steps_1 rfl hl (by decide) rfl (fun ls hl => ?_)
  refine lv_iconst (v := 0) hx hb dX6_steps_2 (by decide) ?_
  refine lv_istore_n (lv' := [(3, .int 0), (2, .int 0), (0, .ref hM), (1, .int v1)]) hx hb dX6_steps_3 rfl hl (by decide) rfl (fun ls hl => ?_)
  exact L4 1000 v1 0 0 _ (lv_sub hl [2, 3, 1, 0] rfl) hf
theorem iX6_searcher_X6 : ∀ w ∈ wsX60, w ∈ wsX6_searcher := fun _ h => List.mem_cons_of_mem _ (List.mem_append_right _ h)
set_option maxHeartbeats 4000000 in
set_option maxRecDepth 100000 in
theorem kX6_searcher (l : Launch) (D : va_G) (cy : Nat → ClassId) (hM : Nat) (aM : Nat → Nat) (sdM : Int64) (sz : Nat) (M : dk_O) (v1 : Int32) (v2 : Int32) (r : Int32) (oM_I : (Nat → Int32)) (oM_26 : (Nat → Int32)) (hf : fX6_searcher M v1 v2 = some (r, oM_I, oM_26)) : dk_MuI l yX6_searcher wsX6_searcher ({ frames := 4, cells := 0, slots := 0, locals := 93 }) D cy [.ref hM, .int v1, .int v2] (wMd cy hM aM sdM M) (wMd cy hM aM sdM (oM_I, dk_upA M.2 26 oM_26)) sz r := by
  refine Met.ofW (cc := cX6_searcher) (maxL := 3) (ret := (some .int)) (by decide) rfl ?_
  intro p e s m args below meth c s₁ B hml hv
  obtain ⟨rfl, hsz, hP, hK, hD0⟩ := hv
  have hx := B.exec
  have hb := B.bytes
  have hr := B.returns
  have hts := atoms_spec (ws := wsX6_searcher) B.pre
  have hown : s.vm.findClass RX6 = some m.cls := findClass_of_methodNamed B.named
  have hlocks := B.notSynchronized
  subst hsz
  have hD := hD0.self (sz := s.heap.size)
  generalize hAe : va_A (wMd cy hM aM sdM M) s.heap.size = A at hD ⊢
  have hA : ∀ q : Nat, s.heap.size ≤ q → A q := fun q h => by rw [← hAe]; exact Or.inr h
  have hS : va_S A s.heap s.heap [] := va_S.rf
  have hl := lv_entry ([.ref hM, .int v1, .int v2]) (n := 3) (Nat.le_of_ble_eq_true rfl)
  rw [lg_entry_eq]
  generalize (lg_sl ([.ref hM, .int v1, .int v2]) ++ List.replicate (3 - (lg_sl ([.ref hM, .int v1, .int v2])).length) Slot.unset).toArray = ls at hl ⊢
  have hl : lv_has ls 3 [(0, .ref hM), (1, .int v1), (2, .int v2)] := hl
  unfold fX6_searcher at hf
  refine lv_aload_n hx hb dX6_searcher_0 rfl (lv_at hl 0 rfl) ?_
  refine lv_iconst (v := 0) hx hb dX6_searcher_1 (by decide) ?_
  refine va_put (D := D) (ci := 6) (v := .int 0) (ty := .int) (C := RX6) (T := TX6) (N := 28) hx hb hts iX6_searcher_X6 tyX6 tyX6_ok nmX6 hown hK.1 hP hD hS 0 rfl rfl 0 (by decide) (hts (.fieldLink RX6 61 "DarkPlaceModel" "thrown" "I") (List.mem_of_getElem? (i := 1) rfl)) (fun _ h9 => h9) rfl (by decide +kernel) rfl rfl (Nat.le_of_ble_eq_true rfl) dX6_searcher_2 (fun H locs hP hD hS => ?_)
  have hP : va_P D vwCl (wMd cy hM aM sdM (upd M.1 0 0, M.2)) H := hP
  have hD : va_D A (wMd cy hM aM sdM (upd M.1 0 0, M.2)) := hD
  refine lv_aload_n hx hb dX6_searcher_5 rfl (lv_at hl 0 rfl) ?_
  refine lv_iload_n hx hb dX6_searcher_6 rfl (lv_at hl 1 rfl) ?_
  obtain ⟨r7, k7, hf⟩ := dk_bind hf
  refine dk_ri (va_runV (As := [.int v1]) (rest := []) ⟨hx, hb, hml, hown, hts⟩ (kX6_noSearcher l D cy hM aM sdM (upd M.1 0 0, M.2) v1 r7 k7) (cwV 1 hts gX6_searcher_X6_noSearcher rfl rfl rfl (by decide +kernel) ⟨Nat.le_of_ble_eq_true rfl, Nat.le_of_ble_eq_true rfl⟩) (dk_preV hK (hP.sub (ws' := wMd cy hM aM sdM (upd M.1 0 0, M.2)) [0, 1, 2, 3, 4, 5, 6, 7, 8, 9, 10, 11, 12, 13] rfl) (ci := 6) (q0 := 0) rfl rfl) rfl rfl hl.1 rfl (lv_room (Nat.le_of_ble_eq_true rfl)) dX6_searcher_7 ⟨Nat.zero_le _, Nat.zero_le _⟩) ?_
  refine dk_ieq (tgt := 15) hx hb dX6_searcher_10 (by decide) hf (fun hf => ?_) (fun hf => ?_)
  · refine lv_iload_n hx hb dX6_searcher_15 rfl (lv_at hl 2 rfl) ?_
    by_cases q16_0 : v2 = 0
    · have hf := dk_pos hf q16_0
      refine lv_tableIn (tgt := 48) hx hb dX6_searcher_16 (by rw [q16_0]; decide) (by rw [q16_0]; decide) (by rw [q16_0]; rfl) (by decide) ?_
      refine lv_aload_n hx hb dX6_searcher_48 rfl (lv_at hl 0 rfl) ?_
      refine va_get (D := D) (ci := 6) (v := .ref (aM 16)) (C := RX6) (T := TX6) (N := 28) hx hb hts iX6_searcher_X6 hown hK.1 hP 0 rfl rfl 16 (by decide) (hts (.fieldLink RX6 29 "DarkPlaceModel" "page" "[I") (List.mem_of_getElem? (i := 2) rfl)) (fun _ h9 => h9) rfl dX6_searcher_49 ?_
      refine lv_iload_n hx hb dX6_searcher_52 rfl (lv_at hl 1 rfl) ?_
      obtain ⟨r53, k53, hf⟩ := dk_bind hf
      refine dk_ri (va_runS (As := [.ref (aM 16), .int v1]) (rest := []) ⟨hx, hb, hml, hown, hts⟩ (kX6_lives l D cy (aM 16) (M.2 16) v1 r53 k53) (va_cwS 2 hts gX6_searcher_X6_lives rfl rfl rfl (by decide +kernel) ⟨Nat.le_of_ble_eq_true rfl, Nat.le_of_ble_eq_true rfl⟩) (dk_preS hK (hP.sub (ws' := wRw cy (aM 16) 21 (M.2 16)) [4] rfl)) rfl rfl hl.1 rfl (lv_room (Nat.le_of_ble_eq_true rfl)) dX6_searcher_53 ⟨Nat.zero_le _, Nat.zero_le _⟩) ?_
      refine dk_ieq (tgt := 70) hx hb dX6_searcher_56 (by decide) hf (fun hf => ?_) (fun hf => ?_)
      · refine lv_bipush (v := (-9)) hx hb dX6_searcher_70 (by decide) ?_
        have e := Option.some.inj hf
        simp only [Prod.mk.injEq] at e
        obtain ⟨e0, e1, e2⟩ := e
        subst e1
        subst e2
        exact W.iret (v := (-9)) hx hb hr (fun t ht hW => ⟨⟨(-9), (), rfl, e0, by rw [ht]; exact hP, hD⟩, hS.F ht⟩) hS.2.2 dX6_searcher_72
      · refine lv_aload_n hx hb dX6_searcher_59 rfl (lv_at hl 0 rfl) ?_
        refine va_get (D := D) (ci := 6) (v := .ref (aM 16)) (C := RX6) (T := TX6) (N := 28) hx hb hts iX6_searcher_X6 hown hK.1 hP 0 rfl rfl 16 (by decide) (hts (.fieldLink RX6 29 "DarkPlaceModel" "page" "[I") (List.mem_of_getElem? (i := 2) rfl)) (fun _ h9 => h9) rfl dX6_searcher_60 ?_
        refine lv_iconst (v := 3) hx hb dX6_searcher_63 (by decide) ?_
        refine lv_iload_n hx hb dX6_searcher_64 rfl (lv_at hl 1 rfl) ?_
        refine lv_iadd hx hb dX6_searcher_65 ?_
        refine dk_iald hx hb hK.1 hP 4 0 rfl rfl hf dX6_searcher_66 (fun d66 hf => ?_)
        refine lv_goto (tgt := 72) hx hb dX6_searcher_67 (by decide) ?_
        have e := Option.some.inj hf
        simp only [Prod.mk.injEq] at e
        obtain ⟨e0, e1, e2⟩ := e
        subst e1
        subst e2
        exact W.iret (v := d66) hx hb hr (fun t ht hW => ⟨⟨d66, (), rfl, e0, by rw [ht]; exact hP, hD⟩, hS.F ht⟩) hS.2.2 dX6_searcher_72
    have hf := dk_neg hf q16_0
    by_cases q16_1 : v2 = 1
    · have hf := dk_pos hf q16_1
      refine lv_tableIn (tgt := 73) hx hb dX6_searcher_16 (by rw [q16_1]; decide) (by rw [q16_1]; decide) (by rw [q16_1]; rfl) (by decide) ?_
      refine lv_aload_n hx hb dX6_searcher_73 rfl (lv_at hl 0 rfl) ?_
      refine va_get (D := D) (ci := 6) (v := .ref (aM 16)) (C := RX6) (T := TX6) (N := 28) hx hb hts iX6_searcher_X6 hown hK.1 hP 0 rfl rfl 16 (by decide) (hts (.fieldLink RX6 29 "DarkPlaceModel" "page" "[I") (List.mem_of_getElem? (i := 2) rfl)) (fun _ h9 => h9) rfl dX6_searcher_74 ?_
      refine lv_bipush (v := 7) hx hb dX6_searcher_77 (by decide) ?_
      refine lv_iload_n hx hb dX6_searcher_79 rfl (lv_at hl 1 rfl) ?_
      refine lv_iadd hx hb dX6_searcher_80 ?_
      refine dk_iald hx hb hK.1 hP 4 0 rfl rfl hf dX6_searcher_81 (fun d81 hf => ?_)
      refine dk_ile (tgt := 99) hx hb dX6_searcher_82 (by decide) hf (fun hf => ?_) (fun hf => ?_)
      · refine lv_bipush (v := (-9)) hx hb dX6_searcher_99 (by decide) ?_
        have e := Option.some.inj hf
        simp only [Prod.mk.injEq] at e
        obtain ⟨e0, e1, e2⟩ := e
        subst e1
        subst e2
        exact W.iret (v := (-9)) hx hb hr (fun t ht hW => ⟨⟨(-9), (), rfl, e0, by rw [ht]; exact hP, hD⟩, hS.F ht⟩) hS.2.2 dX6_searcher_101
      · refine lv_aload_n hx hb dX6_searcher_85 rfl (lv_at hl 0 rfl) ?_
        refine va_get (D := D) (ci := 6) (v := .ref (aM 16)) (C := RX6) (T := TX6) (N := 28) hx hb hts iX6_searcher_X6 hown hK.1 hP 0 rfl rfl 16 (by decide) (hts (.fieldLink RX6 29 "DarkPlaceModel" "page" "[I") (List.mem_of_getElem? (i := 2) rfl)) (fun _ h9 => h9) rfl dX6_searcher_86 ?_
        refine lv_bipush (v := 7) hx hb dX6_searcher_89 (by decide) ?_
        refine lv_iload_n hx hb dX6_searcher_91 rfl (lv_at hl 1 rfl) ?_
        refine lv_iadd hx hb dX6_searcher_92 ?_
        refine dk_iald hx hb hK.1 hP 4 0 rfl rfl hf dX6_searcher_93 (fun d93 hf => ?_)
        refine lv_iconst (v := 1) hx hb dX6_searcher_94 (by decide) ?_
        refine lv_isub hx hb dX6_searcher_95 ?_
        refine lv_goto (tgt := 101) hx hb dX6_searcher_96 (by decide) ?_
        have e := Option.some.inj hf
        simp only [Prod.mk.injEq] at e
        obtain ⟨e0, e1, e2⟩ := e
        subst e1
        subst e2
        exact W.iret (v := d93 - 1) hx hb hr (fun t ht hW => ⟨⟨d93 - 1, (), rfl, e0, by rw [ht]; exact hP, hD⟩, hS.F ht⟩) hS.2.2 dX6_searcher_101
    have hf := dk_neg hf q16_1
    by_cases q16_2 : v2 = 2
    · have hf := dk_pos hf q16_2
      refine lv_tableIn (tgt := 102) hx hb dX6_searcher_16 (by rw [q16_2]; decide) (by rw [q16_2]; decide) (by rw [q16_2]; rfl) (by decide) ?_
      refine lv_aload_n hx hb dX6_searcher_102 rfl (lv_at hl 0 rfl) ?_
      refine lv_iload_n hx hb dX6_searcher_103 rfl (lv_at hl 1 rfl) ?_
      obtain ⟨r104, k104, hf⟩ := dk_bind hf
      refine dk_ri (va_runV (As := [.int v1]) (rest := []) ⟨hx, hb, hml, hown, hts⟩ (kX6_steps l D cy hM aM sdM (upd M.1 0 0, M.2) v1 r104 k104) (cwV 1 hts gX6_searcher_X6_steps rfl rfl rfl (by decide +kernel) ⟨Nat.le_of_ble_eq_true rfl, Nat.le_of_ble_eq_true rfl⟩) (dk_preV hK (hP.sub (ws' := wMd cy hM aM sdM (upd M.1 0 0, M.2)) [0, 1, 2, 3, 4, 5, 6, 7, 8, 9, 10, 11, 12, 13] rfl) (ci := 6) (q0 := 0) rfl rfl) rfl rfl hl.1 rfl (lv_room (Nat.le_of_ble_eq_true rfl)) dX6_searcher_104 ⟨Nat.zero_le _, Nat.zero_le _⟩) ?_
      have e := Option.some.inj hf
      simp only [Prod.mk.injEq] at e
      obtain ⟨e0, e1, e2⟩ := e
      subst e1
      subst e2
      exact W.iret (v := r104) hx hb hr (fun t ht hW => ⟨⟨r104, (), rfl, e0, by rw [ht]; exact hP, hD⟩, hS.F ht⟩) hS.2.2 dX6_searcher_107
    have hf := dk_neg hf q16_2
    by_cases q16_3 : v2 = 3
    · have hf := dk_pos hf q16_3
      refine lv_tableIn (tgt := 108) hx hb dX6_searcher_16 (by rw [q16_3]; decide) (by rw [q16_3]; decide) (by rw [q16_3]; rfl) (by decide) ?_
      refine lv_aload_n hx hb dX6_searcher_108 rfl (lv_at hl 0 rfl) ?_
      refine lv_aload_n hx hb dX6_searcher_109 rfl (lv_at hl 0 rfl) ?_
      refine va_get (D := D) (ci := 6) (v := .ref (aM 16)) (C := RX6) (T := TX6) (N := 28) hx hb hts iX6_searcher_X6 hown hK.1 hP 0 rfl rfl 16 (by decide) (hts (.fieldLink RX6 29 "DarkPlaceModel" "page" "[I") (List.mem_of_getElem? (i := 2) rfl)) (fun _ h9 => h9) rfl dX6_searcher_110 ?_
      refine lv_iload_n hx hb dX6_searcher_113 rfl (lv_at hl 1 rfl) ?_
      obtain ⟨⟨r114, g114_0⟩, k114, hf⟩ := dk_bind hf
      dsimp only at hf
      have hPc := hP.sub (ws' := wMs cy hM aM sdM (upd M.1 0 0, M.2) ++ wRw cy (aM 16) 21 (M.2 16)) [0, 1, 2, 3, 4] rfl
      have hDc := hD.sub (ws' := wMs cy hM aM sdM (upd M.1 0 0, M.2) ++ wRw cy (aM 16) 21 (M.2 16)) [0, 1, 2, 3, 4] (by decide) rfl
      have hFc := va_free (wc := wMs cy hM aM sdM (upd M.1 0 0, M.2) ++ wRw cy (aM 16) 21 (M.2 16)) hD hS hA [0, 1, 2, 3, 4] rfl
      refine va_calli (va_runV (As := [.ref (aM 16), .int v1]) (rest := []) ⟨hx, hb, hml, hown, hts⟩ (kX6_chosen l D cy hM aM sdM (aM 16) H.size (upd M.1 0 0, M.2) (M.2 16) v1 r114 g114_0 k114) (cwV 2 hts gX6_searcher_X6_chosen rfl rfl rfl (by decide +kernel) ⟨Nat.le_of_ble_eq_true rfl, Nat.le_of_ble_eq_true rfl⟩) (dk_premV hK hPc hDc (ci := 6) (q0 := 0) rfl rfl) rfl rfl hl.1 rfl (lv_room (Nat.le_of_ble_eq_true rfl)) dX6_searcher_114 ⟨Nat.zero_le _, Nat.zero_le _⟩) hS (fun q _ h => hFc q h) hFc (fun xr114 u t H1 locs ht hvm hw hB hz1 hk1 hS => ?_)
      obtain ⟨hP1, hD1⟩ := hB
      rw [ht] at hP1
      rw [hw]
      obtain ⟨hP, hD⟩ := va_join (wr := ([5, 6, 7, 8, 9, 10, 11, 12, 13] : List Nat).filterMap (fun i => (wMd cy hM aM sdM (upd M.1 0 0, M.2))[i]?)) (w1 := wMs cy hM aM sdM (upd M.1 0 0, dk_upA M.2 26 g114_0) ++ wRw cy (aM 16) 21 (M.2 16)) hP hD [0, 1, 2, 3, 4] [5, 6, 7, 8, 9, 10, 11, 12, 13] rfl rfl (by decide) (by decide) hk1 hFc hP1 hD1
      generalize H1 = H at hP hS ⊢
      have hP : va_P D vwCl (wMd cy hM aM sdM (upd M.1 0 0, dk_upA M.2 26 g114_0)) H := hP.sub [9, 10, 11, 12, 13, 0, 1, 2, 3, 4, 5, 6, 7, 8] rfl
      have hD : va_D A (wMd cy hM aM sdM (upd M.1 0 0, dk_upA M.2 26 g114_0)) := hD.sub [9, 10, 11, 12, 13, 0, 1, 2, 3, 4, 5, 6, 7, 8] (by decide) rfl
      have e := Option.some.inj hf
      simp only [Prod.mk.injEq] at e
      obtain ⟨e0, e1, e2⟩ := e
      subst e1
      subst e2
      exact W.iret (v := r114) hx hb hr (fun t ht hW => ⟨⟨r114, (), rfl, e0, by rw [ht]; exact hP, hD⟩, hS.F ht⟩) hS.2.2 dX6_searcher_117
    have hf := dk_neg hf q16_3
    refine lv_tableOut (tgt := 118) hx hb dX6_searcher_16 (dk_tabOut 0 4 (by decide) (fun k h1 h2 => by
      rcases (show k = 0 ∨ k = 1 ∨ k = 2 ∨ k = 3 by omega) with rfl | rfl | rfl | rfl
      · exact q16_0
      · exact q16_1
      · exact q16_2
      · exact q16_3)) (by decide) ?_
    refine lv_bipush (v := (-2)) hx hb dX6_searcher_118 (by decide) ?_
    have e := Option.some.inj hf
    simp only [Prod.mk.injEq] at e
    obtain ⟨e0, e1, e2⟩ := e
    subst e1
    subst e2
    exact W.iret (v := (-2)) hx hb hr (fun t ht hW => ⟨⟨(-2), (), rfl, e0, by rw [ht]; exact hP, hD⟩, hS.F ht⟩) hS.2.2 dX6_searcher_120
  · refine lv_iconst (v := (-1)) hx hb dX6_searcher_13 (by decide) ?_
    have e := Option.some.inj hf
    simp only [Prod.mk.injEq] at e
    obtain ⟨e0, e1, e2⟩ := e
    subst e1
    subst e2
    exact W.iret (v := (-1)) hx hb hr (fun t ht hW => ⟨⟨(-1), (), rfl, e0, by rw [ht]; exact hP, hD⟩, hS.F ht⟩) hS.2.2 dX6_searcher_14
theorem iX6_note_X6 : ∀ w ∈ wsX60, w ∈ wsX6_note := fun _ h => List.mem_cons_of_mem _ (List.mem_append_right _ h)
set_option maxHeartbeats 4000000 in
set_option maxRecDepth 100000 in
theorem kX6_note (l : Launch) (D : va_G) (cy : Nat → ClassId) (hM : Nat) (aM : Nat → Nat) (sdM : Int64) (sz : Nat) (M : dk_O)  (oM_I : (Nat → Int32)) (oM_18 : (Nat → Int32)) (hf : fX6_note M = some (oM_I, oM_18)) : dk_MuV l yX6_note wsX6_note ({ frames := 0, cells := 0, slots := 0, locals := 0 }) D cy [.ref hM] (wMd cy hM aM sdM M) (wMd cy hM aM sdM (oM_I, dk_upA M.2 18 oM_18)) sz := by
  refine Met.ofW (cc := cX6_note) (maxL := 2) (ret := none) (by decide) rfl ?_
  intro p e s m args below meth c s₁ B hml hv
  obtain ⟨rfl, hsz, hP, hK, hD0⟩ := hv
  have hx := B.exec
  have hb := B.bytes
  have hr := B.returns
  have hts := atoms_spec (ws := wsX6_note) B.pre
  have hown : s.vm.findClass RX6 = some m.cls := findClass_of_methodNamed B.named
  have hlocks := B.notSynchronized
  subst hsz
  have hD := hD0.self (sz := s.heap.size)
  generalize hAe : va_A (wMd cy hM aM sdM M) s.heap.size = A at hD ⊢
  have hA : ∀ q : Nat, s.heap.size ≤ q → A q := fun q h => by rw [← hAe]; exact Or.inr h
  have hS : va_S A s.heap s.heap [] := va_S.rf
  have hl := lv_entry ([.ref hM]) (n := 2) (Nat.le_of_ble_eq_true rfl)
  rw [lg_entry_eq]
  generalize (lg_sl ([.ref hM]) ++ List.replicate (2 - (lg_sl ([.ref hM])).length) Slot.unset).toArray = ls at hl ⊢
  have hl : lv_has ls 2 [(0, .ref hM)] := hl
  have L51 : ∀ (fu51 : Nat) (x1 : Int32) (M_I : (Nat → Int32)) (M_18 : (Nat → Int32)) (H : Heap) (locs : List Loc) (ls : Array Slot), va_P D vwCl (wMd cy hM aM sdM (M_I, dk_upA M.2 18 M_18)) H → va_D A (wMd cy hM aM sdM (M_I, dk_upA M.2 18 M_18)) → va_S A s.heap H locs → lv_has ls 2 [(0, .ref hM), (1, .int x1)] → fX6_note_L51 M fu51 x1 M_I M_18 = some (oM_I, oM_18) → W p l e (headSpec wsX6_note ({ frames := 0, cells := 0, slots := 0, locals := 0 })).room s m ([.ref hM]).toArray below meth c H locs 0 0 (MQ below (va_Qv (fun (_ : Unit) => True) (dk_B D (wMd cy hM aM sdM (oM_I, dk_upA M.2 18 oM_18)) A) A) ([.ref hM]).toArray s 0 0 A) (F0 m 51 ls []) := by
    intro fu51
    induction fu51 with
    | zero =>
      intro x1 M_I M_18 H locs ls hP hD hS hl hf
      rw [fX6_note_L51] at hf
      cases hf
    | succ fu51 ih51 =>
      intro x1 M_I M_18 H locs ls hP hD hS hl hf
      rw [fX6_note_L51] at hf
      refine lv_iload_n hx hb dX6_note_51 rfl (lv_at hl 1 rfl) ?_
      refine lv_bipush (v := 21) hx hb dX6_note_52 (by decide) ?_
      refine dk_cge (tgt := 83) hx hb dX6_note_54 (by decide) hf (fun hf => ?_) (fun hf => ?_)
      · refine lv_aload_n hx hb dX6_note_83 rfl (lv_at hl 0 rfl) ?_
        refine lv_dup hx hb dX6_note_84 rfl ?_
        refine va_get (D := D) (ci := 6) (v := .int (M_I 19)) (C := RX6) (T := TX6) (N := 28) hx hb hts iX6_note_X6 hown hK.1 hP 0 rfl rfl 19 (by decide) (hts (.fieldLink RX6 163 "DarkPlaceModel" "doings" "I") (List.mem_of_getElem? (i := 1) rfl)) (fun _ h9 => h9) rfl dX6_note_85 ?_
        refine lv_iconst (v := 1) hx hb dX6_note_88 (by decide) ?_
        refine lv_iadd hx hb dX6_note_89 ?_
        refine va_put (D := D) (ci := 6) (v := .int ((M_I 19) + 1)) (ty := .int) (C := RX6) (T := TX6) (N := 28) hx hb hts iX6_note_X6 tyX6 tyX6_ok nmX6 hown hK.1 hP hD hS 0 rfl rfl 19 (by decide) (hts (.fieldLink RX6 163 "DarkPlaceModel" "doings" "I") (List.mem_of_getElem? (i := 1) rfl)) (fun _ h9 => h9) rfl (by decide +kernel) rfl rfl (Nat.le_of_ble_eq_true rfl) dX6_note_90 (fun H locs hP hD hS => ?_)
        have hP : va_P D vwCl (wMd cy hM aM sdM (upd M_I 19 ((M_I 19) + 1), dk_upA M.2 18 M_18)) H := hP
        have hD : va_D A (wMd cy hM aM sdM (upd M_I 19 ((M_I 19) + 1), dk_upA M.2 18 M_18)) := hD
        have e := Option.some.inj hf
        simp only [Prod.mk.injEq] at e
        obtain ⟨e0, e1⟩ := e
        subst e0
        subst e1
        exact W.vret hx hb hr (fun t ht hW => ⟨⟨(), rfl, trivial, by rw [ht]; exact hP, hD⟩, hS.F ht⟩) hS.2.2 dX6_note_93
      · refine lv_aload_n hx hb dX6_note_57 rfl (lv_at hl 0 rfl) ?_
        refine va_get (D := D) (ci := 6) (v := .ref (aM 18)) (C := RX6) (T := TX6) (N := 28) hx hb hts iX6_note_X6 hown hK.1 hP 0 rfl rfl 18 (by decide) (hts (.fieldLink RX6 35 "DarkPlaceModel" "book" "[I") (List.mem_of_getElem? (i := 2) rfl)) (fun _ h9 => h9) rfl dX6_note_58 ?_
        refine lv_bipush (v := 21) hx hb dX6_note_61 (by decide) ?_
        refine lv_aload_n hx hb dX6_note_63 rfl (lv_at hl 0 rfl) ?_
        refine va_get (D := D) (ci := 6) (v := .int (M_I 19)) (C := RX6) (T := TX6) (N := 28) hx hb hts iX6_note_X6 hown hK.1 hP 0 rfl rfl 19 (by decide) (hts (.fieldLink RX6 163 "DarkPlaceModel" "doings" "I") (List.mem_of_getElem? (i := 1) rfl)) (fun _ h9 => h9) rfl dX6_note_64 ?_
        refine lv_imul hx hb dX6_note_67 ?_
        refine lv_iload_n hx hb dX6_note_68 rfl (lv_at hl 1 rfl) ?_
        refine lv_iadd hx hb dX6_note_69 ?_
        refine lv_aload_n hx hb dX6_note_70 rfl (lv_at hl 0 rfl) ?_
        refine va_get (D := D) (ci := 6) (v := .ref (aM 16)) (C := RX6) (T := TX6) (N := 28) hx hb hts iX6_note_X6 hown hK.1 hP 0 rfl rfl 16 (by decide) (hts (.fieldLink RX6 29 "DarkPlaceModel" "page" "[I") (List.mem_of_getElem? (i := 3) rfl)) (fun _ h9 => h9) rfl dX6_note_71 ?_
        refine lv_iload_n hx hb dX6_note_74 rfl (lv_at hl 1 rfl) ?_
        refine dk_iald hx hb hK.1 hP 4 0 rfl rfl hf dX6_note_75 (fun d75 hf => ?_)
        refine dk_iast hx hb hK.1 hP hD hS 9 0 rfl rfl hf dX6_note_76 (fun f76 H locs hP hD hS hf => ?_)
        have hP : va_P D vwCl (wMd cy hM aM sdM (M_I, dk_upA M.2 18 f76)) H := hP
        have hD : va_D A (wMd cy hM aM sdM (M_I, dk_upA M.2 18 f76)) := hD
        refine lv_iinc (v := x1 + 1) (lv' := [(1, .int (x1 + 1)), (0, .ref hM)]) hx hb dX6_note_77 hl (k := 1) rfl rfl (by decide) rfl (fun ls hl => ?_)
        refine lv_goto (tgt := 51) hx hb dX6_note_80 (by decide) ?_
        exact ih51 (x1 + 1) M_I f76 _ _ _ hP hD hS (lv_sub hl [1, 0] rfl) hf
  have L11 : ∀ (fu11 : Nat) (x1 : Int32) (M_I : (Nat → Int32)) (M_18 : (Nat → Int32)) (H : Heap) (locs : List Loc) (ls : Array Slot), va_P D vwCl (wMd cy hM aM sdM (M_I, dk_upA M.2 18 M_18)) H → va_D A (wMd cy hM aM sdM (M_I, dk_upA M.2 18 M_18)) → va_S A s.heap H locs → lv_has ls 2 [(0, .ref hM), (1, .int x1)] → fX6_note_L11 M fu11 x1 M_I M_18 = some (oM_I, oM_18) → W p l e (headSpec wsX6_note ({ frames := 0, cells := 0, slots := 0, locals := 0 })).room s m ([.ref hM]).toArray below meth c H locs 0 0 (MQ below (va_Qv (fun (_ : Unit) => True) (dk_B D (wMd cy hM aM sdM (oM_I, dk_upA M.2 18 oM_18)) A) A) ([.ref hM]).toArray s 0 0 A) (F0 m 11 ls []) := by
    intro fu11
    induction fu11 with
    | zero =>
      intro x1 M_I M_18 H locs ls hP hD hS hl hf
      rw [fX6_note_L11] at hf
      cases hf
    | succ fu11 ih11 =>
      intro x1 M_I M_18 H locs ls hP hD hS hl hf
      rw [fX6_note_L11] at hf
      refine lv_iload_n hx hb dX6_note_11 rfl (lv_at hl 1 rfl) ?_
      refine lv_sipush (v := 273) hx hb dX6_note_12 (by decide) ?_
      refine dk_cge (tgt := 39) hx hb dX6_note_15 (by decide) hf (fun hf => ?_) (fun hf => ?_)
      · refine lv_aload_n hx hb dX6_note_39 rfl (lv_at hl 0 rfl) ?_
        refine lv_dup hx hb dX6_note_40 rfl ?_
        refine va_get (D := D) (ci := 6) (v := .int (M_I 19)) (C := RX6) (T := TX6) (N := 28) hx hb hts iX6_note_X6 hown hK.1 hP 0 rfl rfl 19 (by decide) (hts (.fieldLink RX6 163 "DarkPlaceModel" "doings" "I") (List.mem_of_getElem? (i := 1) rfl)) (fun _ h9 => h9) rfl dX6_note_41 ?_
        refine lv_iconst (v := 1) hx hb dX6_note_44 (by decide) ?_
        refine lv_isub hx hb dX6_note_45 ?_
        refine va_put (D := D) (ci := 6) (v := .int ((M_I 19) - 1)) (ty := .int) (C := RX6) (T := TX6) (N := 28) hx hb hts iX6_note_X6 tyX6 tyX6_ok nmX6 hown hK.1 hP hD hS 0 rfl rfl 19 (by decide) (hts (.fieldLink RX6 163 "DarkPlaceModel" "doings" "I") (List.mem_of_getElem? (i := 1) rfl)) (fun _ h9 => h9) rfl (by decide +kernel) rfl rfl (Nat.le_of_ble_eq_true rfl) dX6_note_46 (fun H locs hP hD hS => ?_)
        have hP : va_P D vwCl (wMd cy hM aM sdM (upd M_I 19 ((M_I 19) - 1), dk_upA M.2 18 M_18)) H := hP
        have hD : va_D A (wMd cy hM aM sdM (upd M_I 19 ((M_I 19) - 1), dk_upA M.2 18 M_18)) := hD
        refine lv_iconst (v := 0) hx hb dX6_note_49 (by decide) ?_
        refine lv_istore_n (lv' := [(1, .int 0), (0, .ref hM)]) hx hb dX6_note_50 rfl hl (by decide) rfl (fun ls hl => ?_)
        exact L51 1000 0 (upd M_I 19 ((M_I 19) - 1)) M_18 _ _ _ hP hD hS (lv_sub hl [1, 0] rfl) hf
      · refine lv_aload_n hx hb dX6_note_18 rfl (lv_at hl 0 rfl) ?_
        refine va_get (D := D) (ci := 6) (v := .ref (aM 18)) (C := RX6) (T := TX6) (N := 28) hx hb hts iX6_note_X6 hown hK.1 hP 0 rfl rfl 18 (by decide) (hts (.fieldLink RX6 35 "DarkPlaceModel" "book" "[I") (List.mem_of_getElem? (i := 2) rfl)) (fun _ h9 => h9) rfl dX6_note_19 ?_
        refine lv_iload_n hx hb dX6_note_22 rfl (lv_at hl 1 rfl) ?_
        refine lv_aload_n hx hb dX6_note_23 rfl (lv_at hl 0 rfl) ?_
        refine va_get (D := D) (ci := 6) (v := .ref (aM 18)) (C := RX6) (T := TX6) (N := 28) hx hb hts iX6_note_X6 hown hK.1 hP 0 rfl rfl 18 (by decide) (hts (.fieldLink RX6 35 "DarkPlaceModel" "book" "[I") (List.mem_of_getElem? (i := 2) rfl)) (fun _ h9 => h9) rfl dX6_note_24 ?_
        refine lv_iload_n hx hb dX6_note_27 rfl (lv_at hl 1 rfl) ?_
        refine lv_bipush (v := 21) hx hb dX6_note_28 (by decide) ?_
        refine lv_iadd hx hb dX6_note_30 ?_
        refine dk_iald hx hb hK.1 hP 9 0 rfl rfl hf dX6_note_31 (fun d31 hf => ?_)
        refine dk_iast hx hb hK.1 hP hD hS 9 0 rfl rfl hf dX6_note_32 (fun f32 H locs hP hD hS hf => ?_)
        have hP : va_P D vwCl (wMd cy hM aM sdM (M_I, dk_upA M.2 18 f32)) H := hP
        have hD : va_D A (wMd cy hM aM sdM (M_I, dk_upA M.2 18 f32)) := hD
        refine lv_iinc (v := x1 + 1) (lv' := [(1, .int (x1 + 1)), (0, .ref hM)]) hx hb dX6_note_33 hl (k := 1) rfl rfl (by decide) rfl (fun ls hl => ?_)
        refine lv_goto (tgt := 11) hx hb dX6_note_36 (by decide) ?_
        exact ih11 (x1 + 1) M_I f32 _ _ _ hP hD hS (lv_sub hl [1, 0] rfl) hf
  unfold fX6_note at hf
  refine lv_aload_n hx hb dX6_note_0 rfl (lv_at hl 0 rfl) ?_
  refine va_get (D := D) (ci := 6) (v := .int (M.1 19)) (C := RX6) (T := TX6) (N := 28) hx hb hts iX6_note_X6 hown hK.1 hP 0 rfl rfl 19 (by decide) (hts (.fieldLink RX6 163 "DarkPlaceModel" "doings" "I") (List.mem_of_getElem? (i := 1) rfl)) (fun _ h9 => h9) rfl dX6_note_1 ?_
  refine lv_bipush (v := 14) hx hb dX6_note_4 (by decide) ?_
  refine dk_cne (tgt := 49) hx hb dX6_note_6 (by decide) hf (fun hf => ?_) (fun hf => ?_)
  · refine lv_iconst (v := 0) hx hb dX6_note_49 (by decide) ?_
    refine lv_istore_n (lv' := [(1, .int 0), (0, .ref hM)]) hx hb dX6_note_50 rfl hl (by decide) rfl (fun ls hl => ?_)
    exact L51 1000 0 M.1 (M.2 18) _ _ _ hP hD hS (lv_sub hl [1, 0] rfl) hf
  · refine lv_iconst (v := 0) hx hb dX6_note_9 (by decide) ?_
    refine lv_istore_n (lv' := [(1, .int 0), (0, .ref hM)]) hx hb dX6_note_10 rfl hl (by decide) rfl (fun ls hl => ?_)
    exact L11 1000 0 M.1 (M.2 18) _ _ _ hP hD hS (lv_sub hl [1, 0] rfl) hf
