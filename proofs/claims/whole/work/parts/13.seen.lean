-- printed by wip/gen (walks of the bytecode)
theorem iX2_add_X2 : ∀ w ∈ wsX20, w ∈ wsX2_add := fun _ h => List.mem_cons_of_mem _ (List.mem_append_right _ h)
set_option maxHeartbeats 4000000 in
set_option maxRecDepth 100000 in
theorem kX2_add (l : Launch) (D : va_G) (cy : Nat → ClassId) (hE : Nat) (aE : Nat → Nat) (sz : Nat) (E : dk_O) (v1 : Int32) (v2 : Int32) (r : Int32) (oE_I : (Nat → Int32)) (oE_0 : (Nat → Int32)) (oE_1 : (Nat → Int32)) (hf : fX2_add E v1 v2 = some (r, oE_I, oE_0, oE_1)) : dk_MuI l yX2_add wsX2_add ({ frames := 0, cells := 0, slots := 0, locals := 0 }) D cy [.ref hE, .int v1, .int v2] (wSe cy hE aE E) (wSe cy hE aE (oE_I, dk_upA (dk_upA E.2 0 oE_0) 1 oE_1)) sz r := by
  refine Met.ofW (cc := cX2_add) (maxL := 3) (ret := (some .int)) (by decide) rfl ?_
  intro p e s m args below meth c s₁ B hml hv
  obtain ⟨rfl, hsz, hP, hK, hD0⟩ := hv
  have hx := B.exec
  have hb := B.bytes
  have hr := B.returns
  have hts := atoms_spec (ws := wsX2_add) B.pre
  have hown : s.vm.findClass RX2 = some m.cls := findClass_of_methodNamed B.named
  have hlocks := B.notSynchronized
  subst hsz
  have hD := hD0.self (sz := s.heap.size)
  generalize hAe : va_A (wSe cy hE aE E) s.heap.size = A at hD ⊢
  have hA : ∀ q : Nat, s.heap.size ≤ q → A q := fun q h => by rw [← hAe]; exact Or.inr h
  have hS : va_S A s.heap s.heap [] := va_S.rf
  have hl := lv_entry ([.ref hE, .int v1, .int v2]) (n := 3) (Nat.le_of_ble_eq_true rfl)
  rw [lg_entry_eq]
  generalize (lg_sl ([.ref hE, .int v1, .int v2]) ++ List.replicate (3 - (lg_sl ([.ref hE, .int v1, .int v2])).length) Slot.unset).toArray = ls at hl ⊢
  have hl : lv_has ls 3 [(0, .ref hE), (1, .int v1), (2, .int v2)] := hl
  unfold fX2_add at hf
  refine lv_aload_n hx hb dX2_add_0 rfl (lv_at hl 0 rfl) ?_
  refine va_get (D := D) (ci := 2) (v := .int (E.1 2)) (C := RX2) (T := TX2) (N := 3) hx hb hts iX2_add_X2 hown hK.1 hP 0 rfl rfl 2 (by decide) (hts (.fieldLink RX2 18 "DarkPlace$Seen" "size" "I") (List.mem_of_getElem? (i := 1) rfl)) (fun _ h9 => h9) rfl dX2_add_1 ?_
  refine lv_bipush (v := 6) hx hb dX2_add_4 (by decide) ?_
  refine dk_cge (tgt := 39) hx hb dX2_add_6 (by decide) hf (fun hf => ?_) (fun hf => ?_)
  · refine lv_aload_n hx hb dX2_add_39 rfl (lv_at hl 0 rfl) ?_
    refine va_get (D := D) (ci := 2) (v := .int (E.1 2)) (C := RX2) (T := TX2) (N := 3) hx hb hts iX2_add_X2 hown hK.1 hP 0 rfl rfl 2 (by decide) (hts (.fieldLink RX2 18 "DarkPlace$Seen" "size" "I") (List.mem_of_getElem? (i := 1) rfl)) (fun _ h9 => h9) rfl dX2_add_40 ?_
    have e := Option.some.inj hf
    simp only [Prod.mk.injEq] at e
    obtain ⟨e0, e1, e2, e3⟩ := e
    subst e1
    subst e2
    subst e3
    exact W.iret (v := E.1 2) hx hb hr (fun t ht hW => ⟨⟨E.1 2, (), rfl, e0, by rw [ht]; exact hP, hD⟩, hS.F ht⟩) hS.2.2 dX2_add_43
  · refine lv_aload_n hx hb dX2_add_9 rfl (lv_at hl 0 rfl) ?_
    refine va_get (D := D) (ci := 2) (v := .ref (aE 0)) (C := RX2) (T := TX2) (N := 3) hx hb hts iX2_add_X2 hown hK.1 hP 0 rfl rfl 0 (by decide) (hts (.fieldLink RX2 9 "DarkPlace$Seen" "rounds" "[I") (List.mem_of_getElem? (i := 2) rfl)) (fun _ h9 => h9) rfl dX2_add_10 ?_
    refine lv_aload_n hx hb dX2_add_13 rfl (lv_at hl 0 rfl) ?_
    refine va_get (D := D) (ci := 2) (v := .int (E.1 2)) (C := RX2) (T := TX2) (N := 3) hx hb hts iX2_add_X2 hown hK.1 hP 0 rfl rfl 2 (by decide) (hts (.fieldLink RX2 18 "DarkPlace$Seen" "size" "I") (List.mem_of_getElem? (i := 1) rfl)) (fun _ h9 => h9) rfl dX2_add_14 ?_
    refine lv_iload_n hx hb dX2_add_17 rfl (lv_at hl 1 rfl) ?_
    refine dk_iast hx hb hK.1 hP hD hS 1 0 rfl rfl hf dX2_add_18 (fun f18 H locs hP hD hS hf => ?_)
    have hP : va_P D vwCl (wSe cy hE aE (E.1, dk_upA E.2 0 f18)) H := hP
    have hD : va_D A (wSe cy hE aE (E.1, dk_upA E.2 0 f18)) := hD
    refine lv_aload_n hx hb dX2_add_19 rfl (lv_at hl 0 rfl) ?_
    refine va_get (D := D) (ci := 2) (v := .ref (aE 1)) (C := RX2) (T := TX2) (N := 3) hx hb hts iX2_add_X2 hown hK.1 hP 0 rfl rfl 1 (by decide) (hts (.fieldLink RX2 15 "DarkPlace$Seen" "living" "[I") (List.mem_of_getElem? (i := 3) rfl)) (fun _ h9 => h9) rfl dX2_add_20 ?_
    refine lv_aload_n hx hb dX2_add_23 rfl (lv_at hl 0 rfl) ?_
    refine va_get (D := D) (ci := 2) (v := .int (E.1 2)) (C := RX2) (T := TX2) (N := 3) hx hb hts iX2_add_X2 hown hK.1 hP 0 rfl rfl 2 (by decide) (hts (.fieldLink RX2 18 "DarkPlace$Seen" "size" "I") (List.mem_of_getElem? (i := 1) rfl)) (fun _ h9 => h9) rfl dX2_add_24 ?_
    refine lv_iload_n hx hb dX2_add_27 rfl (lv_at hl 2 rfl) ?_
    refine dk_iast hx hb hK.1 hP hD hS 2 0 rfl rfl hf dX2_add_28 (fun f28 H locs hP hD hS hf => ?_)
    have hP : va_P D vwCl (wSe cy hE aE (E.1, dk_upA (dk_upA E.2 0 f18) 1 f28)) H := hP
    have hD : va_D A (wSe cy hE aE (E.1, dk_upA (dk_upA E.2 0 f18) 1 f28)) := hD
    refine lv_aload_n hx hb dX2_add_29 rfl (lv_at hl 0 rfl) ?_
    refine lv_dup hx hb dX2_add_30 rfl ?_
    refine va_get (D := D) (ci := 2) (v := .int (E.1 2)) (C := RX2) (T := TX2) (N := 3) hx hb hts iX2_add_X2 hown hK.1 hP 0 rfl rfl 2 (by decide) (hts (.fieldLink RX2 18 "DarkPlace$Seen" "size" "I") (List.mem_of_getElem? (i := 1) rfl)) (fun _ h9 => h9) rfl dX2_add_31 ?_
    refine lv_iconst (v := 1) hx hb dX2_add_34 (by decide) ?_
    refine lv_iadd hx hb dX2_add_35 ?_
    refine va_put (D := D) (ci := 2) (v := .int ((E.1 2) + 1)) (ty := .int) (C := RX2) (T := TX2) (N := 3) hx hb hts iX2_add_X2 tyX2 tyX2_ok nmX2 hown hK.1 hP hD hS 0 rfl rfl 2 (by decide) (hts (.fieldLink RX2 18 "DarkPlace$Seen" "size" "I") (List.mem_of_getElem? (i := 1) rfl)) (fun _ h9 => h9) rfl (by decide +kernel) rfl rfl (Nat.le_of_ble_eq_true rfl) dX2_add_36 (fun H locs hP hD hS => ?_)
    have hP : va_P D vwCl (wSe cy hE aE (upd E.1 2 ((E.1 2) + 1), dk_upA (dk_upA E.2 0 f18) 1 f28)) H := hP
    have hD : va_D A (wSe cy hE aE (upd E.1 2 ((E.1 2) + 1), dk_upA (dk_upA E.2 0 f18) 1 f28)) := hD
    refine lv_aload_n hx hb dX2_add_39 rfl (lv_at hl 0 rfl) ?_
    refine va_get (D := D) (ci := 2) (v := .int ((E.1 2) + 1)) (C := RX2) (T := TX2) (N := 3) hx hb hts iX2_add_X2 hown hK.1 hP 0 rfl rfl 2 (by decide) (hts (.fieldLink RX2 18 "DarkPlace$Seen" "size" "I") (List.mem_of_getElem? (i := 1) rfl)) (fun _ h9 => h9) rfl dX2_add_40 ?_
    have e := Option.some.inj hf
    simp only [Prod.mk.injEq] at e
    obtain ⟨e0, e1, e2, e3⟩ := e
    subst e1
    subst e2
    subst e3
    exact W.iret (v := (E.1 2) + 1) hx hb hr (fun t ht hW => ⟨⟨(E.1 2) + 1, (), rfl, e0, by rw [ht]; exact hP, hD⟩, hS.F ht⟩) hS.2.2 dX2_add_43
theorem iX2_clear_X2 : ∀ w ∈ wsX20, w ∈ wsX2_clear := fun _ h => List.mem_cons_of_mem _ (List.mem_append_right _ h)
set_option maxHeartbeats 4000000 in
set_option maxRecDepth 100000 in
theorem kX2_clear (l : Launch) (D : va_G) (cy : Nat → ClassId) (hE : Nat) (aE : Nat → Nat) (sz : Nat) (E : dk_O)  (r : Int32) (oE_I : (Nat → Int32)) (hf : fX2_clear E = some (r, oE_I)) : dk_MuI l yX2_clear wsX2_clear ({ frames := 0, cells := 0, slots := 0, locals := 0 }) D cy [.ref hE] (wSe cy hE aE E) (wSe cy hE aE (oE_I, E.2)) sz r := by
  refine Met.ofW (cc := cX2_clear) (maxL := 2) (ret := (some .int)) (by decide) rfl ?_
  intro p e s m args below meth c s₁ B hml hv
  obtain ⟨rfl, hsz, hP, hK, hD0⟩ := hv
  have hx := B.exec
  have hb := B.bytes
  have hr := B.returns
  have hts := atoms_spec (ws := wsX2_clear) B.pre
  have hown : s.vm.findClass RX2 = some m.cls := findClass_of_methodNamed B.named
  have hlocks := B.notSynchronized
  subst hsz
  have hD := hD0.self (sz := s.heap.size)
  generalize hAe : va_A (wSe cy hE aE E) s.heap.size = A at hD ⊢
  have hA : ∀ q : Nat, s.heap.size ≤ q → A q := fun q h => by rw [← hAe]; exact Or.inr h
  have hS : va_S A s.heap s.heap [] := va_S.rf
  have hl := lv_entry ([.ref hE]) (n := 2) (Nat.le_of_ble_eq_true rfl)
  rw [lg_entry_eq]
  generalize (lg_sl ([.ref hE]) ++ List.replicate (2 - (lg_sl ([.ref hE])).length) Slot.unset).toArray = ls at hl ⊢
  have hl : lv_has ls 2 [(0, .ref hE)] := hl
  unfold fX2_clear at hf
  refine lv_aload_n hx hb dX2_clear_0 rfl (lv_at hl 0 rfl) ?_
  refine va_get (D := D) (ci := 2) (v := .int (E.1 2)) (C := RX2) (T := TX2) (N := 3) hx hb hts iX2_clear_X2 hown hK.1 hP 0 rfl rfl 2 (by decide) (hts (.fieldLink RX2 18 "DarkPlace$Seen" "size" "I") (List.mem_of_getElem? (i := 1) rfl)) (fun _ h9 => h9) rfl dX2_clear_1 ?_
  refine lv_istore_n (lv' := [(1, .int (E.1 2)), (0, .ref hE)]) hx hb dX2_clear_4 rfl hl (by decide) rfl (fun ls hl => ?_)
  refine lv_aload_n hx hb dX2_clear_5 rfl (lv_at hl 1 rfl) ?_
  refine lv_iconst (v := 0) hx hb dX2_clear_6 (by decide) ?_
  refine va_put (D := D) (ci := 2) (v := .int 0) (ty := .int) (C := RX2) (T := TX2) (N := 3) hx hb hts iX2_clear_X2 tyX2 tyX2_ok nmX2 hown hK.1 hP hD hS 0 rfl rfl 2 (by decide) (hts (.fieldLink RX2 18 "DarkPlace$Seen" "size" "I") (List.mem_of_getElem? (i := 1) rfl)) (fun _ h9 => h9) rfl (by decide +kernel) rfl rfl (Nat.le_of_ble_eq_true rfl) dX2_clear_7 (fun H locs hP hD hS => ?_)
  have hP : va_P D vwCl (wSe cy hE aE (upd E.1 2 0, E.2)) H := hP
  have hD : va_D A (wSe cy hE aE (upd E.1 2 0, E.2)) := hD
  refine lv_iload_n hx hb dX2_clear_10 rfl (lv_at hl 0 rfl) ?_
  have e := Option.some.inj hf
  simp only [Prod.mk.injEq] at e
  obtain ⟨e0, e1⟩ := e
  subst e1
  exact W.iret (v := E.1 2) hx hb hr (fun t ht hW => ⟨⟨E.1 2, (), rfl, e0, by rw [ht]; exact hP, hD⟩, hS.F ht⟩) hS.2.2 dX2_clear_11
theorem iX2_mostRounds_X2 : ∀ w ∈ wsX20, w ∈ wsX2_mostRounds := fun _ h => List.mem_cons_of_mem _ (List.mem_append_right _ h)
set_option maxHeartbeats 4000000 in
set_option maxRecDepth 100000 in
theorem kX2_mostRounds (l : Launch) (D : va_G) (cy : Nat → ClassId) (hE : Nat) (aE : Nat → Nat) (E : dk_O)  (r : Int32) (hf : fX2_mostRounds E = some r) : dk_RdI l yX2_mostRounds wsX2_mostRounds ({ frames := 1, cells := 0, slots := 0, locals := 21 }) D cy [.ref hE] (wSe cy hE aE E) r := by
  refine Met.ofW (cc := cX2_mostRounds) (maxL := 3) (ret := (some .int)) (by decide) rfl ?_
  intro p e s m args below meth c s₁ B hml hv
  obtain ⟨rfl, hP, hK⟩ := hv
  have hx := B.exec
  have hb := B.bytes
  have hr := B.returns
  have hts := atoms_spec (ws := wsX2_mostRounds) B.pre
  have hown : s.vm.findClass RX2 = some m.cls := findClass_of_methodNamed B.named
  have hlocks := B.notSynchronized
  have hl := lv_entry ([.ref hE]) (n := 3) (Nat.le_of_ble_eq_true rfl)
  rw [lg_entry_eq]
  generalize (lg_sl ([.ref hE]) ++ List.replicate (3 - (lg_sl ([.ref hE])).length) Slot.unset).toArray = ls at hl ⊢
  have hl : lv_has ls 3 [(0, .ref hE)] := hl
  have L4 : ∀ (fu4 : Nat) (x1 : Int32) (x2 : Int32) (ls : Array Slot), lv_has ls 3 [(0, .ref hE), (1, .int x1), (2, .int x2)] → fX2_mostRounds_L4 E fu4 x1 x2 = some r → W p l e (headSpec wsX2_mostRounds ({ frames := 1, cells := 0, slots := 0, locals := 21 })).room s m ([.ref hE]).toArray below meth c s.heap [] 0 0 (MQ below (vp_Si (fun x => x = r)) ([.ref hE]).toArray s 0 0 (fun _ => False)) (F0 m 4 ls []) := by
    intro fu4
    induction fu4 with
    | zero =>
      intro x1 x2 ls hl hf
      rw [fX2_mostRounds_L4] at hf
      cases hf
    | succ fu4 ih4 =>
      intro x1 x2 ls hl hf
      rw [fX2_mostRounds_L4] at hf
      refine lv_iload_n hx hb dX2_mostRounds_4 rfl (lv_at hl 2 rfl) ?_
      refine lv_aload_n hx hb dX2_mostRounds_5 rfl (lv_at hl 0 rfl) ?_
      refine va_get (D := D) (ci := 2) (v := .int (E.1 2)) (C := RX2) (T := TX2) (N := 3) hx hb hts iX2_mostRounds_X2 hown hK.1 hP 0 rfl rfl 2 (by decide) (hts (.fieldLink RX2 18 "DarkPlace$Seen" "size" "I") (List.mem_of_getElem? (i := 1) rfl)) (fun _ h9 => h9) rfl dX2_mostRounds_6 ?_
      refine dk_cge (tgt := 29) hx hb dX2_mostRounds_9 (by decide) hf (fun hf => ?_) (fun hf => ?_)
      · refine lv_iload_n hx hb dX2_mostRounds_29 rfl (lv_at hl 1 rfl) ?_
        exact W.iret (v := x1) hx hb hr (fun t ht hW => ⟨x1, rfl, Option.some.inj hf, ht⟩) t_nil dX2_mostRounds_30
      · refine lv_iload_n hx hb dX2_mostRounds_12 rfl (lv_at hl 1 rfl) ?_
        refine lv_aload_n hx hb dX2_mostRounds_13 rfl (lv_at hl 0 rfl) ?_
        refine va_get (D := D) (ci := 2) (v := .ref (aE 0)) (C := RX2) (T := TX2) (N := 3) hx hb hts iX2_mostRounds_X2 hown hK.1 hP 0 rfl rfl 0 (by decide) (hts (.fieldLink RX2 9 "DarkPlace$Seen" "rounds" "[I") (List.mem_of_getElem? (i := 2) rfl)) (fun _ h9 => h9) rfl dX2_mostRounds_14 ?_
        refine lv_iload_n hx hb dX2_mostRounds_17 rfl (lv_at hl 2 rfl) ?_
        refine dk_iald hx hb hK.1 hP 1 0 rfl rfl hf dX2_mostRounds_18 (fun d18 hf => ?_)
        refine va_mmax hx hb (hml.trans hl.1.symm) hown (hts (.methodLink RX2 22 Lib.Math.max.name) (List.mem_of_getElem? (i := 3) rfl)) (hts (.static Lib.Math.max.name) (List.mem_of_getElem? (i := 4) rfl)) (hts (.initialized "java/lang/Math") (List.mem_of_getElem? (i := 5) rfl)) (hts (.code Lib.Math.max.name Lib.Math.max.code 2 (some .int)) (List.mem_of_getElem? (i := 6) rfl)) (Nat.le_of_ble_eq_true rfl) (Nat.le_of_ble_eq_true rfl) (Nat.zero_le _) (Nat.zero_le _) dX2_mostRounds_19 ?_
        refine lv_istore_n (lv' := [(1, .int (if x1 < d18 then d18 else x1)), (0, .ref hE), (2, .int x2)]) hx hb dX2_mostRounds_22 rfl hl (by decide) rfl (fun ls hl => ?_)
        refine lv_iinc (v := x2 + 1) (lv' := [(2, .int (x2 + 1)), (1, .int (if x1 < d18 then d18 else x1)), (0, .ref hE)]) hx hb dX2_mostRounds_23 hl (k := 2) rfl rfl (by decide) rfl (fun ls hl => ?_)
        refine lv_goto (tgt := 4) hx hb dX2_mostRounds_26 (by decide) ?_
        exact ih4 (if x1 < d18 then d18 else x1) (x2 + 1) _ (lv_sub hl [2, 1, 0] rfl) hf
  unfold fX2_mostRounds at hf
  refine lv_iconst (v := 0) hx hb dX2_mostRounds_0 (by decide) ?_
  refine lv_istore_n (lv' := [(1, .int 0), (0, .ref hE)]) hx hb dX2_mostRounds_1 rfl hl (by decide) rfl (fun ls hl => ?_)
  refine lv_iconst (v := 0) hx hb dX2_mostRounds_2 (by decide) ?_
  refine lv_istore_n (lv' := [(2, .int 0), (1, .int 0), (0, .ref hE)]) hx hb dX2_mostRounds_3 rfl hl (by decide) rfl (fun ls hl => ?_)
  exact L4 1000 0 0 _ (lv_sub hl [2, 1, 0] rfl) hf
theorem iX2_speaksAgainst_X2 : ∀ w ∈ wsX20, w ∈ wsX2_speaksAgainst := fun _ h => List.mem_cons_of_mem _ (List.mem_append_right _ h)
set_option maxHeartbeats 4000000 in
set_option maxRecDepth 100000 in
theorem kX2_speaksAgainst (l : Launch) (D : va_G) (cy : Nat → ClassId) (hE : Nat) (aE : Nat → Nat) (E : dk_O) (v1 : Int32) (v2 : Int32) (r : Int32) (hf : fX2_speaksAgainst E v1 v2 = some r) : dk_RdI l yX2_speaksAgainst wsX2_speaksAgainst ({ frames := 0, cells := 0, slots := 0, locals := 0 }) D cy [.ref hE, .int v1, .int v2] (wSe cy hE aE E) r := by
  refine Met.ofW (cc := cX2_speaksAgainst) (maxL := 4) (ret := (some .boolean)) (by decide) rfl ?_
  intro p e s m args below meth c s₁ B hml hv
  obtain ⟨rfl, hP, hK⟩ := hv
  have hx := B.exec
  have hb := B.bytes
  have hr := B.returns
  have hts := atoms_spec (ws := wsX2_speaksAgainst) B.pre
  have hown : s.vm.findClass RX2 = some m.cls := findClass_of_methodNamed B.named
  have hlocks := B.notSynchronized
  have hl := lv_entry ([.ref hE, .int v1, .int v2]) (n := 4) (Nat.le_of_ble_eq_true rfl)
  rw [lg_entry_eq]
  generalize (lg_sl ([.ref hE, .int v1, .int v2]) ++ List.replicate (4 - (lg_sl ([.ref hE, .int v1, .int v2])).length) Slot.unset).toArray = ls at hl ⊢
  have hl : lv_has ls 4 [(0, .ref hE), (1, .int v1), (2, .int v2)] := hl
  have L2 : ∀ (fu2 : Nat) (x1 : Int32) (x2 : Int32) (x3 : Int32) (ls : Array Slot), lv_has ls 4 [(0, .ref hE), (1, .int x1), (2, .int x2), (3, .int x3)] → fX2_speaksAgainst_L2 E fu2 x1 x2 x3 = some r → W p l e (headSpec wsX2_speaksAgainst ({ frames := 0, cells := 0, slots := 0, locals := 0 })).room s m ([.ref hE, .int v1, .int v2]).toArray below meth c s.heap [] 0 0 (MQ below (vp_Si (fun x => x = r)) ([.ref hE, .int v1, .int v2]).toArray s 0 0 (fun _ => False)) (F0 m 2 ls []) := by
    intro fu2
    induction fu2 with
    | zero =>
      intro x1 x2 x3 ls hl hf
      rw [fX2_speaksAgainst_L2] at hf
      cases hf
    | succ fu2 ih2 =>
      intro x1 x2 x3 ls hl hf
      rw [fX2_speaksAgainst_L2] at hf
      refine lv_iload_n hx hb dX2_speaksAgainst_2 rfl (lv_at hl 3 rfl) ?_
      refine lv_aload_n hx hb dX2_speaksAgainst_3 rfl (lv_at hl 0 rfl) ?_
      refine va_get (D := D) (ci := 2) (v := .int (E.1 2)) (C := RX2) (T := TX2) (N := 3) hx hb hts iX2_speaksAgainst_X2 hown hK.1 hP 0 rfl rfl 2 (by decide) (hts (.fieldLink RX2 18 "DarkPlace$Seen" "size" "I") (List.mem_of_getElem? (i := 1) rfl)) (fun _ h9 => h9) rfl dX2_speaksAgainst_4 ?_
      refine dk_cge (tgt := 38) hx hb dX2_speaksAgainst_7 (by decide) hf (fun hf => ?_) (fun hf => ?_)
      · refine lv_iconst (v := 0) hx hb dX2_speaksAgainst_38 (by decide) ?_
        exact W.zret (v := 0) hx hb hr rfl (fun t ht hW => ⟨0, rfl, Option.some.inj hf, ht⟩) t_nil dX2_speaksAgainst_39
      · refine lv_aload_n hx hb dX2_speaksAgainst_10 rfl (lv_at hl 0 rfl) ?_
        refine va_get (D := D) (ci := 2) (v := .ref (aE 0)) (C := RX2) (T := TX2) (N := 3) hx hb hts iX2_speaksAgainst_X2 hown hK.1 hP 0 rfl rfl 0 (by decide) (hts (.fieldLink RX2 9 "DarkPlace$Seen" "rounds" "[I") (List.mem_of_getElem? (i := 2) rfl)) (fun _ h9 => h9) rfl dX2_speaksAgainst_11 ?_
        refine lv_iload_n hx hb dX2_speaksAgainst_14 rfl (lv_at hl 3 rfl) ?_
        refine dk_iald hx hb hK.1 hP 1 0 rfl rfl hf dX2_speaksAgainst_15 (fun d15 hf => ?_)
        refine lv_iload_n hx hb dX2_speaksAgainst_16 rfl (lv_at hl 1 rfl) ?_
        refine dk_cne (tgt := 32) hx hb dX2_speaksAgainst_17 (by decide) hf (fun hf => ?_) (fun hf => ?_)
        · refine lv_iinc (v := x3 + 1) (lv' := [(3, .int (x3 + 1)), (0, .ref hE), (1, .int x1), (2, .int x2)]) hx hb dX2_speaksAgainst_32 hl (k := 3) rfl rfl (by decide) rfl (fun ls hl => ?_)
          refine lv_goto (tgt := 2) hx hb dX2_speaksAgainst_35 (by decide) ?_
          exact ih2 x1 x2 (x3 + 1) _ (lv_sub hl [1, 2, 3, 0] rfl) hf
        · refine lv_aload_n hx hb dX2_speaksAgainst_20 rfl (lv_at hl 0 rfl) ?_
          refine va_get (D := D) (ci := 2) (v := .ref (aE 1)) (C := RX2) (T := TX2) (N := 3) hx hb hts iX2_speaksAgainst_X2 hown hK.1 hP 0 rfl rfl 1 (by decide) (hts (.fieldLink RX2 15 "DarkPlace$Seen" "living" "[I") (List.mem_of_getElem? (i := 3) rfl)) (fun _ h9 => h9) rfl dX2_speaksAgainst_21 ?_
          refine lv_iload_n hx hb dX2_speaksAgainst_24 rfl (lv_at hl 3 rfl) ?_
          refine dk_iald hx hb hK.1 hP 2 0 rfl rfl hf dX2_speaksAgainst_25 (fun d25 hf => ?_)
          refine lv_iload_n hx hb dX2_speaksAgainst_26 rfl (lv_at hl 2 rfl) ?_
          refine dk_ceq (tgt := 32) hx hb dX2_speaksAgainst_27 (by decide) hf (fun hf => ?_) (fun hf => ?_)
          · refine lv_iinc (v := x3 + 1) (lv' := [(3, .int (x3 + 1)), (0, .ref hE), (1, .int x1), (2, .int x2)]) hx hb dX2_speaksAgainst_32 hl (k := 3) rfl rfl (by decide) rfl (fun ls hl => ?_)
            refine lv_goto (tgt := 2) hx hb dX2_speaksAgainst_35 (by decide) ?_
            exact ih2 x1 x2 (x3 + 1) _ (lv_sub hl [1, 2, 3, 0] rfl) hf
          · refine lv_iconst (v := 1) hx hb dX2_speaksAgainst_30 (by decide) ?_
            exact W.zret (v := 1) hx hb hr rfl (fun t ht hW => ⟨1, rfl, Option.some.inj hf, ht⟩) t_nil dX2_speaksAgainst_31
  unfold fX2_speaksAgainst at hf
  refine lv_iconst (v := 0) hx hb dX2_speaksAgainst_0 (by decide) ?_
  refine lv_istore_n (lv' := [(3, .int 0), (0, .ref hE), (1, .int v1), (2, .int v2)]) hx hb dX2_speaksAgainst_1 rfl hl (by decide) rfl (fun ls hl => ?_)
  exact L2 1000 v1 v2 0 _ (lv_sub hl [1, 2, 3, 0] rfl) hf
theorem iX4_isFull_X4 : ∀ w ∈ wsX40, w ∈ wsX4_isFull := fun _ h => List.mem_cons_of_mem _ (List.mem_append_right _ h)
set_option maxHeartbeats 4000000 in
set_option maxRecDepth 100000 in
theorem kX4_isFull (l : Launch) (D : va_G) (cy : Nat → ClassId) (hX : Nat) (aX : Nat → Nat) (X : dk_O)  (r : Int32) (hf : fX4_isFull X = some r) : dk_RdI l yX4_isFull wsX4_isFull ({ frames := 0, cells := 0, slots := 0, locals := 0 }) D cy [.ref hX] (wTx cy hX aX X) r := by
  refine Met.ofW (cc := cX4_isFull) (maxL := 1) (ret := (some .boolean)) (by decide) rfl ?_
  intro p e s m args below meth c s₁ B hml hv
  obtain ⟨rfl, hP, hK⟩ := hv
  have hx := B.exec
  have hb := B.bytes
  have hr := B.returns
  have hts := atoms_spec (ws := wsX4_isFull) B.pre
  have hown : s.vm.findClass RX4 = some m.cls := findClass_of_methodNamed B.named
  have hlocks := B.notSynchronized
  have hl := lv_entry ([.ref hX]) (n := 1) (Nat.le_of_ble_eq_true rfl)
  rw [lg_entry_eq]
  generalize (lg_sl ([.ref hX]) ++ List.replicate (1 - (lg_sl ([.ref hX])).length) Slot.unset).toArray = ls at hl ⊢
  have hl : lv_has ls 1 [(0, .ref hX)] := hl
  unfold fX4_isFull at hf
  refine lv_aload_n hx hb dX4_isFull_0 rfl (lv_at hl 0 rfl) ?_
  refine va_get (D := D) (ci := 4) (v := .int (X.1 1)) (C := RX4) (T := TX4) (N := 2) hx hb hts iX4_isFull_X4 hown hK.1 hP 0 rfl rfl 1 (by decide) (hts (.fieldLink RX4 15 "DarkPlace$Text" "length" "I") (List.mem_of_getElem? (i := 1) rfl)) (fun _ h9 => h9) rfl dX4_isFull_1 ?_
  refine lv_bipush (v := 40) hx hb dX4_isFull_4 (by decide) ?_
  refine dk_clt (tgt := 13) hx hb dX4_isFull_6 (by decide) hf (fun hf => ?_) (fun hf => ?_)
  · refine lv_iconst (v := 0) hx hb dX4_isFull_13 (by decide) ?_
    exact W.zret (v := 0) hx hb hr rfl (fun t ht hW => ⟨0, rfl, Option.some.inj hf, ht⟩) t_nil dX4_isFull_14
  · refine lv_iconst (v := 1) hx hb dX4_isFull_9 (by decide) ?_
    refine lv_goto (tgt := 14) hx hb dX4_isFull_10 (by decide) ?_
    exact W.zret (v := 1) hx hb hr rfl (fun t ht hW => ⟨1, rfl, Option.some.inj hf, ht⟩) t_nil dX4_isFull_14
theorem iX4_add_X4 : ∀ w ∈ wsX40, w ∈ wsX4_add := fun _ h => List.mem_cons_of_mem _ (List.mem_append_right _ h)
set_option maxHeartbeats 4000000 in
set_option maxRecDepth 100000 in
theorem kX4_add (l : Launch) (D : va_G) (cy : Nat → ClassId) (hX : Nat) (aX : Nat → Nat) (sz : Nat) (X : dk_O) (v1 : Int32) (r : Int32) (oX_I : (Nat → Int32)) (oX_0 : (Nat → Int32)) (hf : fX4_add X v1 = some (r, oX_I, oX_0)) : dk_MuI l yX4_add wsX4_add ({ frames := 1, cells := 0, slots := 0, locals := 20 }) D cy [.ref hX, .int v1] (wTx cy hX aX X) (wTx cy hX aX (oX_I, dk_upA X.2 0 oX_0)) sz r := by
  refine Met.ofW (cc := cX4_add) (maxL := 2) (ret := (some .int)) (by decide) rfl ?_
  intro p e s m args below meth c s₁ B hml hv
  obtain ⟨rfl, hsz, hP, hK, hD0⟩ := hv
  have hx := B.exec
  have hb := B.bytes
  have hr := B.returns
  have hts := atoms_spec (ws := wsX4_add) B.pre
  have hown : s.vm.findClass RX4 = some m.cls := findClass_of_methodNamed B.named
  have hlocks := B.notSynchronized
  subst hsz
  have hD := hD0.self (sz := s.heap.size)
  generalize hAe : va_A (wTx cy hX aX X) s.heap.size = A at hD ⊢
  have hA : ∀ q : Nat, s.heap.size ≤ q → A q := fun q h => by rw [← hAe]; exact Or.inr h
  have hS : va_S A s.heap s.heap [] := va_S.rf
  have hl := lv_entry ([.ref hX, .int v1]) (n := 2) (Nat.le_of_ble_eq_true rfl)
  rw [lg_entry_eq]
  generalize (lg_sl ([.ref hX, .int v1]) ++ List.replicate (2 - (lg_sl ([.ref hX, .int v1])).length) Slot.unset).toArray = ls at hl ⊢
  have hl : lv_has ls 2 [(0, .ref hX), (1, .int v1)] := hl
  unfold fX4_add at hf
  refine lv_aload_n hx hb dX4_add_0 rfl (lv_at hl 0 rfl) ?_
  obtain ⟨r1, k1, hf⟩ := dk_bind hf
  refine dk_ri (va_runV (As := []) (rest := []) ⟨hx, hb, hml, hown, hts⟩ (kX4_isFull l D cy hX aX X r1 k1) (cwV 0 hts gX4_add_X4_isFull rfl rfl rfl (by decide +kernel) ⟨Nat.le_of_ble_eq_true rfl, Nat.le_of_ble_eq_true rfl⟩) (dk_preV hK (hP.sub (ws' := wTx cy hX aX X) [0, 1] rfl) (ci := 4) (q0 := 0) rfl rfl) rfl rfl hl.1 rfl (lv_room (Nat.le_of_ble_eq_true rfl)) dX4_add_1 ⟨Nat.zero_le _, Nat.zero_le _⟩) ?_
  refine dk_ine (tgt := 27) hx hb dX4_add_4 (by decide) hf (fun hf => ?_) (fun hf => ?_)
  · refine lv_aload_n hx hb dX4_add_27 rfl (lv_at hl 0 rfl) ?_
    refine va_get (D := D) (ci := 4) (v := .int (X.1 1)) (C := RX4) (T := TX4) (N := 2) hx hb hts iX4_add_X4 hown hK.1 hP 0 rfl rfl 1 (by decide) (hts (.fieldLink RX4 15 "DarkPlace$Text" "length" "I") (List.mem_of_getElem? (i := 2) rfl)) (fun _ h9 => h9) rfl dX4_add_28 ?_
    have e := Option.some.inj hf
    simp only [Prod.mk.injEq] at e
    obtain ⟨e0, e1, e2⟩ := e
    subst e1
    subst e2
    exact W.iret (v := X.1 1) hx hb hr (fun t ht hW => ⟨⟨X.1 1, (), rfl, e0, by rw [ht]; exact hP, hD⟩, hS.F ht⟩) hS.2.2 dX4_add_31
  · refine lv_aload_n hx hb dX4_add_7 rfl (lv_at hl 0 rfl) ?_
    refine va_get (D := D) (ci := 4) (v := .ref (aX 0)) (C := RX4) (T := TX4) (N := 2) hx hb hts iX4_add_X4 hown hK.1 hP 0 rfl rfl 0 (by decide) (hts (.fieldLink RX4 9 "DarkPlace$Text" "letters" "[I") (List.mem_of_getElem? (i := 1) rfl)) (fun _ h9 => h9) rfl dX4_add_8 ?_
    refine lv_aload_n hx hb dX4_add_11 rfl (lv_at hl 0 rfl) ?_
    refine va_get (D := D) (ci := 4) (v := .int (X.1 1)) (C := RX4) (T := TX4) (N := 2) hx hb hts iX4_add_X4 hown hK.1 hP 0 rfl rfl 1 (by decide) (hts (.fieldLink RX4 15 "DarkPlace$Text" "length" "I") (List.mem_of_getElem? (i := 2) rfl)) (fun _ h9 => h9) rfl dX4_add_12 ?_
    refine lv_iload_n hx hb dX4_add_15 rfl (lv_at hl 1 rfl) ?_
    refine dk_iast hx hb hK.1 hP hD hS 1 0 rfl rfl hf dX4_add_16 (fun f16 H locs hP hD hS hf => ?_)
    have hP : va_P D vwCl (wTx cy hX aX (X.1, dk_upA X.2 0 f16)) H := hP
    have hD : va_D A (wTx cy hX aX (X.1, dk_upA X.2 0 f16)) := hD
    refine lv_aload_n hx hb dX4_add_17 rfl (lv_at hl 0 rfl) ?_
    refine lv_dup hx hb dX4_add_18 rfl ?_
    refine va_get (D := D) (ci := 4) (v := .int (X.1 1)) (C := RX4) (T := TX4) (N := 2) hx hb hts iX4_add_X4 hown hK.1 hP 0 rfl rfl 1 (by decide) (hts (.fieldLink RX4 15 "DarkPlace$Text" "length" "I") (List.mem_of_getElem? (i := 2) rfl)) (fun _ h9 => h9) rfl dX4_add_19 ?_
    refine lv_iconst (v := 1) hx hb dX4_add_22 (by decide) ?_
    refine lv_iadd hx hb dX4_add_23 ?_
    refine va_put (D := D) (ci := 4) (v := .int ((X.1 1) + 1)) (ty := .int) (C := RX4) (T := TX4) (N := 2) hx hb hts iX4_add_X4 tyX4 tyX4_ok nmX4 hown hK.1 hP hD hS 0 rfl rfl 1 (by decide) (hts (.fieldLink RX4 15 "DarkPlace$Text" "length" "I") (List.mem_of_getElem? (i := 2) rfl)) (fun _ h9 => h9) rfl (by decide +kernel) rfl rfl (Nat.le_of_ble_eq_true rfl) dX4_add_24 (fun H locs hP hD hS => ?_)
    have hP : va_P D vwCl (wTx cy hX aX (upd X.1 1 ((X.1 1) + 1), dk_upA X.2 0 f16)) H := hP
    have hD : va_D A (wTx cy hX aX (upd X.1 1 ((X.1 1) + 1), dk_upA X.2 0 f16)) := hD
    refine lv_aload_n hx hb dX4_add_27 rfl (lv_at hl 0 rfl) ?_
    refine va_get (D := D) (ci := 4) (v := .int ((X.1 1) + 1)) (C := RX4) (T := TX4) (N := 2) hx hb hts iX4_add_X4 hown hK.1 hP 0 rfl rfl 1 (by decide) (hts (.fieldLink RX4 15 "DarkPlace$Text" "length" "I") (List.mem_of_getElem? (i := 2) rfl)) (fun _ h9 => h9) rfl dX4_add_28 ?_
    have e := Option.some.inj hf
    simp only [Prod.mk.injEq] at e
    obtain ⟨e0, e1, e2⟩ := e
    subst e1
    subst e2
    exact W.iret (v := (X.1 1) + 1) hx hb hr (fun t ht hW => ⟨⟨(X.1 1) + 1, (), rfl, e0, by rw [ht]; exact hP, hD⟩, hS.F ht⟩) hS.2.2 dX4_add_31
theorem iX4_clear_X4 : ∀ w ∈ wsX40, w ∈ wsX4_clear := fun _ h => List.mem_cons_of_mem _ (List.mem_append_right _ h)
set_option maxHeartbeats 4000000 in
set_option maxRecDepth 100000 in
theorem kX4_clear (l : Launch) (D : va_G) (cy : Nat → ClassId) (hX : Nat) (aX : Nat → Nat) (sz : Nat) (X : dk_O)  (r : Int32) (oX_I : (Nat → Int32)) (hf : fX4_clear X = some (r, oX_I)) : dk_MuI l yX4_clear wsX4_clear ({ frames := 0, cells := 0, slots := 0, locals := 0 }) D cy [.ref hX] (wTx cy hX aX X) (wTx cy hX aX (oX_I, X.2)) sz r := by
  refine Met.ofW (cc := cX4_clear) (maxL := 2) (ret := (some .int)) (by decide) rfl ?_
  intro p e s m args below meth c s₁ B hml hv
  obtain ⟨rfl, hsz, hP, hK, hD0⟩ := hv
  have hx := B.exec
  have hb := B.bytes
  have hr := B.returns
  have hts := atoms_spec (ws := wsX4_clear) B.pre
  have hown : s.vm.findClass RX4 = some m.cls := findClass_of_methodNamed B.named
  have hlocks := B.notSynchronized
  subst hsz
  have hD := hD0.self (sz := s.heap.size)
  generalize hAe : va_A (wTx cy hX aX X) s.heap.size = A at hD ⊢
  have hA : ∀ q : Nat, s.heap.size ≤ q → A q := fun q h => by rw [← hAe]; exact Or.inr h
  have hS : va_S A s.heap s.heap [] := va_S.rf
  have hl := lv_entry ([.ref hX]) (n := 2) (Nat.le_of_ble_eq_true rfl)
  rw [lg_entry_eq]
  generalize (lg_sl ([.ref hX]) ++ List.replicate (2 - (lg_sl ([.ref hX])).length) Slot.unset).toArray = ls at hl ⊢
  have hl : lv_has ls 2 [(0, .ref hX)] := hl
  unfold fX4_clear at hf
  refine lv_aload_n hx hb dX4_clear_0 rfl (lv_at hl 0 rfl) ?_
  refine va_get (D := D) (ci := 4) (v := .int (X.1 1)) (C := RX4) (T := TX4) (N := 2) hx hb hts iX4_clear_X4 hown hK.1 hP 0 rfl rfl 1 (by decide) (hts (.fieldLink RX4 15 "DarkPlace$Text" "length" "I") (List.mem_of_getElem? (i := 1) rfl)) (fun _ h9 => h9) rfl dX4_clear_1 ?_
  refine lv_istore_n (lv' := [(1, .int (X.1 1)), (0, .ref hX)]) hx hb dX4_clear_4 rfl hl (by decide) rfl (fun ls hl => ?_)
  refine lv_aload_n hx hb dX4_clear_5 rfl (lv_at hl 1 rfl) ?_
  refine lv_iconst (v := 0) hx hb dX4_clear_6 (by decide) ?_
  refine va_put (D := D) (ci := 4) (v := .int 0) (ty := .int) (C := RX4) (T := TX4) (N := 2) hx hb hts iX4_clear_X4 tyX4 tyX4_ok nmX4 hown hK.1 hP hD hS 0 rfl rfl 1 (by decide) (hts (.fieldLink RX4 15 "DarkPlace$Text" "length" "I") (List.mem_of_getElem? (i := 1) rfl)) (fun _ h9 => h9) rfl (by decide +kernel) rfl rfl (Nat.le_of_ble_eq_true rfl) dX4_clear_7 (fun H locs hP hD hS => ?_)
  have hP : va_P D vwCl (wTx cy hX aX (upd X.1 1 0, X.2)) H := hP
  have hD : va_D A (wTx cy hX aX (upd X.1 1 0, X.2)) := hD
  refine lv_iload_n hx hb dX4_clear_10 rfl (lv_at hl 0 rfl) ?_
  have e := Option.some.inj hf
  simp only [Prod.mk.injEq] at e
  obtain ⟨e0, e1⟩ := e
  subst e1
  exact W.iret (v := X.1 1) hx hb hr (fun t ht hW => ⟨⟨X.1 1, (), rfl, e0, by rw [ht]; exact hP, hD⟩, hS.F ht⟩) hS.2.2 dX4_clear_11
theorem iX4_readInto_X4 : ∀ w ∈ wsX40, w ∈ wsX4_readInto := fun _ h => List.mem_cons_of_mem _ (List.mem_append_left _ (List.mem_append_right _ h))
set_option maxHeartbeats 4000000 in
set_option maxRecDepth 100000 in
theorem kX4_readInto (l : Launch) (D : va_G) (cy : Nat → ClassId) (hX : Nat) (aX : Nat → Nat) (hG : Nat) (aG : Nat → Nat) (sz : Nat) (X : dk_O) (G : dk_O)  (r : Int32) (oG_I : (Nat → Int32)) (oG_5 : (Nat → Int32)) (oG_6 : (Nat → Int32)) (oG_8 : (Nat → Int32)) (hf : fX4_readInto X G = some (r, oG_I, oG_5, oG_6, oG_8)) : dk_MuI l yX4_readInto wsX4_readInto ({ frames := 4, cells := 0, slots := 0, locals := 89 }) D cy [.ref hX, .ref hG] (wTx cy hX aX X ++ wNt cy hG aG G) (wTx cy hX aX X ++ wNt cy hG aG (oG_I, dk_upA (dk_upA (dk_upA G.2 5 oG_5) 6 oG_6) 8 oG_8)) sz r := by
  refine Met.ofW (cc := cX4_readInto) (maxL := 3) (ret := (some .int)) (by decide) rfl ?_
  intro p e s m args below meth c s₁ B hml hv
  obtain ⟨rfl, hsz, hP, hK, hD0⟩ := hv
  have hx := B.exec
  have hb := B.bytes
  have hr := B.returns
  have hts := atoms_spec (ws := wsX4_readInto) B.pre
  have hown : s.vm.findClass RX4 = some m.cls := findClass_of_methodNamed B.named
  have hlocks := B.notSynchronized
  subst hsz
  have hD := hD0.self (sz := s.heap.size)
  generalize hAe : va_A (wTx cy hX aX X ++ wNt cy hG aG G) s.heap.size = A at hD ⊢
  have hA : ∀ q : Nat, s.heap.size ≤ q → A q := fun q h => by rw [← hAe]; exact Or.inr h
  have hS : va_S A s.heap s.heap [] := va_S.rf
  have hl := lv_entry ([.ref hX, .ref hG]) (n := 3) (Nat.le_of_ble_eq_true rfl)
  rw [lg_entry_eq]
  generalize (lg_sl ([.ref hX, .ref hG]) ++ List.replicate (3 - (lg_sl ([.ref hX, .ref hG])).length) Slot.unset).toArray = ls at hl ⊢
  have hl : lv_has ls 3 [(0, .ref hX), (1, .ref hG)] := hl
  have L6 : ∀ (fu6 : Nat) (x2 : Int32) (G_I : (Nat → Int32)) (G_5 : (Nat → Int32)) (G_6 : (Nat → Int32)) (G_8 : (Nat → Int32)) (H : Heap) (locs : List Loc) (ls : Array Slot), va_P D vwCl (wTx cy hX aX X ++ wNt cy hG aG (G_I, dk_upA (dk_upA (dk_upA G.2 5 G_5) 6 G_6) 8 G_8)) H → va_D A (wTx cy hX aX X ++ wNt cy hG aG (G_I, dk_upA (dk_upA (dk_upA G.2 5 G_5) 6 G_6) 8 G_8)) → va_S A s.heap H locs → lv_has ls 3 [(0, .ref hX), (1, .ref hG), (2, .int x2)] → fX4_readInto_L6 X G fu6 x2 G_I G_5 G_6 G_8 = some (r, oG_I, oG_5, oG_6, oG_8) → W p l e (headSpec wsX4_readInto ({ frames := 4, cells := 0, slots := 0, locals := 89 })).room s m ([.ref hX, .ref hG]).toArray below meth c H locs 0 0 (MQ below (va_Qi (fun (x : Int32) (_ : Unit) => x = r) (dk_B D (wTx cy hX aX X ++ wNt cy hG aG (oG_I, dk_upA (dk_upA (dk_upA G.2 5 oG_5) 6 oG_6) 8 oG_8)) A) A) ([.ref hX, .ref hG]).toArray s 0 0 A) (F0 m 6 ls []) := by
    intro fu6
    induction fu6 with
    | zero =>
      intro x2 G_I G_5 G_6 G_8 H locs ls hP hD hS hl hf
      rw [fX4_readInto_L6] at hf
      cases hf
    | succ fu6 ih6 =>
      intro x2 G_I G_5 G_6 G_8 H locs ls hP hD hS hl hf
      rw [fX4_readInto_L6] at hf
      refine lv_iload_n hx hb dX4_readInto_6 rfl (lv_at hl 2 rfl) ?_
      refine lv_aload_n hx hb dX4_readInto_7 rfl (lv_at hl 0 rfl) ?_
      refine va_get (D := D) (ci := 4) (v := .int (X.1 1)) (C := RX4) (T := TX4) (N := 2) hx hb hts iX4_readInto_X4 hown hK.1 hP 0 rfl rfl 1 (by decide) (hts (.fieldLink RX4 15 "DarkPlace$Text" "length" "I") (List.mem_of_getElem? (i := 1) rfl)) (fun _ h9 => h9) rfl dX4_readInto_8 ?_
      refine dk_cge (tgt := 36) hx hb dX4_readInto_11 (by decide) hf (fun hf => ?_) (fun hf => ?_)
      · refine lv_aload_n hx hb dX4_readInto_36 rfl (lv_at hl 0 rfl) ?_
        refine va_get (D := D) (ci := 4) (v := .int (X.1 1)) (C := RX4) (T := TX4) (N := 2) hx hb hts iX4_readInto_X4 hown hK.1 hP 0 rfl rfl 1 (by decide) (hts (.fieldLink RX4 15 "DarkPlace$Text" "length" "I") (List.mem_of_getElem? (i := 1) rfl)) (fun _ h9 => h9) rfl dX4_readInto_37 ?_
        obtain ⟨r40, k40, hf⟩ := dk_bind hf
        refine dk_ri (va_runS (As := [.int (X.1 1)]) (rest := []) ⟨hx, hb, hml, hown, hts⟩ (kX1_mayEndAt l D cy (X.1 1) r40 k40) (va_cwS 1 hts gX4_readInto_X1_mayEndAt rfl rfl rfl (by decide +kernel) ⟨Nat.le_of_ble_eq_true rfl, Nat.le_of_ble_eq_true rfl⟩) (dk_preS hK (hP.sub (ws' := []) [] rfl)) rfl rfl hl.1 rfl (lv_room (Nat.le_of_ble_eq_true rfl)) dX4_readInto_40 ⟨Nat.zero_le _, Nat.zero_le _⟩) ?_
        refine dk_ieq (tgt := 51) hx hb dX4_readInto_43 (by decide) hf (fun hf => ?_) (fun hf => ?_)
        · refine lv_aload_n hx hb dX4_readInto_51 rfl (lv_at hl 0 rfl) ?_
          refine va_get (D := D) (ci := 4) (v := .int (X.1 1)) (C := RX4) (T := TX4) (N := 2) hx hb hts iX4_readInto_X4 hown hK.1 hP 0 rfl rfl 1 (by decide) (hts (.fieldLink RX4 15 "DarkPlace$Text" "length" "I") (List.mem_of_getElem? (i := 1) rfl)) (fun _ h9 => h9) rfl dX4_readInto_52 ?_
          have e := Option.some.inj hf
          simp only [Prod.mk.injEq] at e
          obtain ⟨e0, e1, e2, e3, e4⟩ := e
          subst e1
          subst e2
          subst e3
          subst e4
          exact W.iret (v := X.1 1) hx hb hr (fun t ht hW => ⟨⟨X.1 1, (), rfl, e0, by rw [ht]; exact hP, hD⟩, hS.F ht⟩) hS.2.2 dX4_readInto_55
        · refine lv_bipush (v := (-9)) hx hb dX4_readInto_46 (by decide) ?_
          refine lv_goto (tgt := 55) hx hb dX4_readInto_48 (by decide) ?_
          have e := Option.some.inj hf
          simp only [Prod.mk.injEq] at e
          obtain ⟨e0, e1, e2, e3, e4⟩ := e
          subst e1
          subst e2
          subst e3
          subst e4
          exact W.iret (v := (-9)) hx hb hr (fun t ht hW => ⟨⟨(-9), (), rfl, e0, by rw [ht]; exact hP, hD⟩, hS.F ht⟩) hS.2.2 dX4_readInto_55
      · refine lv_aload_n hx hb dX4_readInto_14 rfl (lv_at hl 1 rfl) ?_
        refine lv_iload_n hx hb dX4_readInto_15 rfl (lv_at hl 2 rfl) ?_
        refine lv_aload_n hx hb dX4_readInto_16 rfl (lv_at hl 0 rfl) ?_
        refine va_get (D := D) (ci := 4) (v := .ref (aX 0)) (C := RX4) (T := TX4) (N := 2) hx hb hts iX4_readInto_X4 hown hK.1 hP 0 rfl rfl 0 (by decide) (hts (.fieldLink RX4 9 "DarkPlace$Text" "letters" "[I") (List.mem_of_getElem? (i := 2) rfl)) (fun _ h9 => h9) rfl dX4_readInto_17 ?_
        refine lv_iload_n hx hb dX4_readInto_20 rfl (lv_at hl 2 rfl) ?_
        refine dk_iald hx hb hK.1 hP 1 0 rfl rfl hf dX4_readInto_21 (fun d21 hf => ?_)
        obtain ⟨⟨r22, i22_0, g22_1, g22_2, g22_3⟩, k22, hf⟩ := dk_bind hf
        dsimp only at hf
        have hPc := hP.sub (ws' := wNt cy hG aG (G_I, dk_upA (dk_upA (dk_upA G.2 5 G_5) 6 G_6) 8 G_8)) [2, 3, 4, 5] rfl
        have hDc := hD.sub (ws' := wNt cy hG aG (G_I, dk_upA (dk_upA (dk_upA G.2 5 G_5) 6 G_6) 8 G_8)) [2, 3, 4, 5] (by decide) rfl
        have hFc := va_free (wc := wNt cy hG aG (G_I, dk_upA (dk_upA (dk_upA G.2 5 G_5) 6 G_6) 8 G_8)) hD hS hA [2, 3, 4, 5] rfl
        refine va_calli (va_runV (As := [.int x2, .int d21]) (rest := []) ⟨hx, hb, hml, hown, hts⟩ (kX1_takes l D cy hG aG H.size (G_I, dk_upA (dk_upA (dk_upA G.2 5 G_5) 6 G_6) 8 G_8) x2 d21 r22 i22_0 g22_1 g22_2 g22_3 k22) (cwV 2 hts gX4_readInto_X1_takes rfl rfl rfl (by decide +kernel) ⟨Nat.le_of_ble_eq_true rfl, Nat.le_of_ble_eq_true rfl⟩) (dk_premV hK hPc hDc (ci := 1) (q0 := 0) rfl rfl) rfl rfl hl.1 rfl (lv_room (Nat.le_of_ble_eq_true rfl)) dX4_readInto_22 ⟨Nat.zero_le _, Nat.zero_le _⟩) hS (fun q _ h => hFc q h) hFc (fun xr22 u t H1 locs ht hvm hw hB hz1 hk1 hS => ?_)
        obtain ⟨hP1, hD1⟩ := hB
        rw [ht] at hP1
        rw [hw]
        obtain ⟨hP, hD⟩ := va_join (wr := ([0, 1] : List Nat).filterMap (fun i => (wTx cy hX aX X ++ wNt cy hG aG (G_I, dk_upA (dk_upA (dk_upA G.2 5 G_5) 6 G_6) 8 G_8))[i]?)) (w1 := wNt cy hG aG (i22_0, dk_upA (dk_upA (dk_upA G.2 5 g22_1) 6 g22_2) 8 g22_3)) hP hD [2, 3, 4, 5] [0, 1] rfl rfl (by decide) (by decide) hk1 hFc hP1 hD1
        generalize H1 = H at hP hS ⊢
        have hP : va_P D vwCl (wTx cy hX aX X ++ wNt cy hG aG (i22_0, dk_upA (dk_upA (dk_upA G.2 5 g22_1) 6 g22_2) 8 g22_3)) H := hP.sub [0, 1, 2, 3, 4, 5] rfl
        have hD : va_D A (wTx cy hX aX X ++ wNt cy hG aG (i22_0, dk_upA (dk_upA (dk_upA G.2 5 g22_1) 6 g22_2) 8 g22_3)) := hD.sub [0, 1, 2, 3, 4, 5] (by decide) rfl
        refine dk_ine (tgt := 30) hx hb dX4_readInto_25 (by decide) hf (fun hf => ?_) (fun hf => ?_)
        · refine lv_iinc (v := x2 + 1) (lv' := [(2, .int (x2 + 1)), (0, .ref hX), (1, .ref hG)]) hx hb dX4_readInto_30 hl (k := 2) rfl rfl (by decide) rfl (fun ls hl => ?_)
          refine lv_goto (tgt := 6) hx hb dX4_readInto_33 (by decide) ?_
          exact ih6 (x2 + 1) i22_0 g22_1 g22_2 g22_3 _ _ _ hP hD hS (lv_sub hl [1, 2, 0] rfl) hf
        · refine lv_iload_n hx hb dX4_readInto_28 rfl (lv_at hl 2 rfl) ?_
          have e := Option.some.inj hf
          simp only [Prod.mk.injEq] at e
          obtain ⟨e0, e1, e2, e3, e4⟩ := e
          subst e1
          subst e2
          subst e3
          subst e4
          exact W.iret (v := x2) hx hb hr (fun t ht hW => ⟨⟨x2, (), rfl, e0, by rw [ht]; exact hP, hD⟩, hS.F ht⟩) hS.2.2 dX4_readInto_29
  unfold fX4_readInto at hf
  refine lv_aload_n hx hb dX4_readInto_0 rfl (lv_at hl 1 rfl) ?_
  obtain ⟨⟨i1_0, g1_1, g1_2⟩, k1, hf⟩ := dk_bind hf
  dsimp only at hf
  have hPc := hP.sub (ws' := wNt cy hG aG G) [2, 3, 4, 5] rfl
  have hDc := hD.sub (ws' := wNt cy hG aG G) [2, 3, 4, 5] (by decide) rfl
  have hFc := va_free (wc := wNt cy hG aG G) hD hS hA [2, 3, 4, 5] rfl
  refine va_callv (va_runV (As := []) (rest := []) ⟨hx, hb, hml, hown, hts⟩ (kX1_clear l D cy hG aG s.heap.size G i1_0 g1_1 g1_2 k1) (cwV 0 hts gX4_readInto_X1_clear rfl rfl rfl (by decide +kernel) ⟨Nat.le_of_ble_eq_true rfl, Nat.le_of_ble_eq_true rfl⟩) (dk_premV hK hPc hDc (ci := 1) (q0 := 0) rfl rfl) rfl rfl hl.1 rfl (lv_room (Nat.le_of_ble_eq_true rfl)) dX4_readInto_1 ⟨Nat.zero_le _, Nat.zero_le _⟩) hS (fun q _ h => hFc q h) hFc (fun u t H1 locs ht hvm hw hB hz1 hk1 hS => ?_)
  obtain ⟨hP1, hD1⟩ := hB
  rw [ht] at hP1
  obtain ⟨hP, hD⟩ := va_join (wr := ([0, 1] : List Nat).filterMap (fun i => (wTx cy hX aX X ++ wNt cy hG aG G)[i]?)) (w1 := wNt cy hG aG (i1_0, dk_upA (dk_upA G.2 6 g1_1) 8 g1_2)) hP hD [2, 3, 4, 5] [0, 1] rfl rfl (by decide) (by decide) hk1 hFc hP1 hD1
  generalize H1 = H at hP hS ⊢
  have hP : va_P D vwCl (wTx cy hX aX X ++ wNt cy hG aG (i1_0, dk_upA (dk_upA G.2 6 g1_1) 8 g1_2)) H := hP.sub [0, 1, 2, 3, 4, 5] rfl
  have hD : va_D A (wTx cy hX aX X ++ wNt cy hG aG (i1_0, dk_upA (dk_upA G.2 6 g1_1) 8 g1_2)) := hD.sub [0, 1, 2, 3, 4, 5] (by decide) rfl
  refine lv_iconst (v := 0) hx hb dX4_readInto_4 (by decide) ?_
  refine lv_istore_n (lv' := [(2, .int 0), (0, .ref hX), (1, .ref hG)]) hx hb dX4_readInto_5 rfl hl (by decide) rfl (fun ls hl => ?_)
  exact L6 1000 0 i1_0 (G.2 5) g1_1 g1_2 _ _ _ hP hD hS (lv_sub hl [1, 2, 0] rfl) hf
