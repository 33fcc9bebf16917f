-- printed by wip/gen (walks of the bytecode)
theorem iX6_ends_X6 : ∀ w ∈ wsX60, w ∈ wsX6_ends := fun _ h => List.mem_cons_of_mem _ (List.mem_append_right _ h)
set_option maxHeartbeats 4000000 in
set_option maxRecDepth 100000 in
theorem kX6_ends (l : Launch) (D : va_G) (cy : Nat → ClassId) (hM : Nat) (aM : Nat → Nat) (sdM : Int64) (M : dk_O) (v1 : Int32) (v2 : Int32) (r : Int32) (hf : fX6_ends M v1 v2 = some r) : dk_RdI l yX6_ends wsX6_ends ({ frames := 0, cells := 0, slots := 0, locals := 0 }) D cy [.ref hM, .int v1, .int v2] (wMs cy hM aM sdM M) r := by
  refine Met.ofW (cc := cX6_ends) (maxL := 3) (ret := (some .boolean)) (by decide) rfl ?_
  intro p e s m args below meth c s₁ B hml hv
  obtain ⟨rfl, hP, hK⟩ := hv
  have hx := B.exec
  have hb := B.bytes
  have hr := B.returns
  have hts := atoms_spec (ws := wsX6_ends) B.pre
  have hown : s.vm.findClass RX6 = some m.cls := findClass_of_methodNamed B.named
  have hlocks := B.notSynchronized
  have hl := lv_entry ([.ref hM, .int v1, .int v2]) (n := 3) (Nat.le_of_ble_eq_true rfl)
  rw [lg_entry_eq]
  generalize (lg_sl ([.ref hM, .int v1, .int v2]) ++ List.replicate (3 - (lg_sl ([.ref hM, .int v1, .int v2])).length) Slot.unset).toArray = ls at hl ⊢
  have hl : lv_has ls 3 [(0, .ref hM), (1, .int v1), (2, .int v2)] := hl
  unfold fX6_ends at hf
  refine lv_aload_n hx hb dX6_ends_0 rfl (lv_at hl 0 rfl) ?_
  refine va_get (D := D) (ci := 6) (v := .ref (aM 7)) (C := RX6) (T := TX6) (N := 28) hx hb hts iX6_ends_X6 hown hK.1 hP 0 rfl rfl 7 (by decide) (hts (.fieldLink RX6 17 "DarkPlaceModel" "one" "[I") (List.mem_of_getElem? (i := 1) rfl)) (fun _ h9 => h9) rfl dX6_ends_1 ?_
  refine lv_iload_n hx hb dX6_ends_4 rfl (lv_at hl 1 rfl) ?_
  refine dk_iald hx hb hK.1 hP 1 0 rfl rfl hf dX6_ends_5 (fun d5 hf => ?_)
  refine lv_iload_n hx hb dX6_ends_6 rfl (lv_at hl 2 rfl) ?_
  refine dk_ceq (tgt := 20) hx hb dX6_ends_7 (by decide) hf (fun hf => ?_) (fun hf => ?_)
  · refine lv_iconst (v := 1) hx hb dX6_ends_20 (by decide) ?_
    refine lv_goto (tgt := 25) hx hb dX6_ends_21 (by decide) ?_
    exact W.zret (v := 1) hx hb hr rfl (fun t ht hW => ⟨1, rfl, Option.some.inj hf, ht⟩) t_nil dX6_ends_25
  · refine lv_aload_n hx hb dX6_ends_10 rfl (lv_at hl 0 rfl) ?_
    refine va_get (D := D) (ci := 6) (v := .ref (aM 8)) (C := RX6) (T := TX6) (N := 28) hx hb hts iX6_ends_X6 hown hK.1 hP 0 rfl rfl 8 (by decide) (hts (.fieldLink RX6 20 "DarkPlaceModel" "other" "[I") (List.mem_of_getElem? (i := 2) rfl)) (fun _ h9 => h9) rfl dX6_ends_11 ?_
    refine lv_iload_n hx hb dX6_ends_14 rfl (lv_at hl 1 rfl) ?_
    refine dk_iald hx hb hK.1 hP 2 0 rfl rfl hf dX6_ends_15 (fun d15 hf => ?_)
    refine lv_iload_n hx hb dX6_ends_16 rfl (lv_at hl 2 rfl) ?_
    refine dk_cne (tgt := 24) hx hb dX6_ends_17 (by decide) hf (fun hf => ?_) (fun hf => ?_)
    · refine lv_iconst (v := 0) hx hb dX6_ends_24 (by decide) ?_
      exact W.zret (v := 0) hx hb hr rfl (fun t ht hW => ⟨0, rfl, Option.some.inj hf, ht⟩) t_nil dX6_ends_25
    · refine lv_iconst (v := 1) hx hb dX6_ends_20 (by decide) ?_
      refine lv_goto (tgt := 25) hx hb dX6_ends_21 (by decide) ?_
      exact W.zret (v := 1) hx hb hr rfl (fun t ht hW => ⟨1, rfl, Option.some.inj hf, ht⟩) t_nil dX6_ends_25
theorem iX6_beyond_X6 : ∀ w ∈ wsX60, w ∈ wsX6_beyond := fun _ h => List.mem_cons_of_mem _ (List.mem_append_right _ h)
set_option maxHeartbeats 4000000 in
set_option maxRecDepth 100000 in
theorem kX6_beyond (l : Launch) (D : va_G) (cy : Nat → ClassId) (hM : Nat) (aM : Nat → Nat) (sdM : Int64) (M : dk_O) (v1 : Int32) (v2 : Int32) (r : Int32) (hf : fX6_beyond M v1 v2 = some r) : dk_RdI l yX6_beyond wsX6_beyond ({ frames := 0, cells := 0, slots := 0, locals := 0 }) D cy [.ref hM, .int v1, .int v2] (wMs cy hM aM sdM M) r := by
  refine Met.ofW (cc := cX6_beyond) (maxL := 3) (ret := (some .int)) (by decide) rfl ?_
  intro p e s m args below meth c s₁ B hml hv
  obtain ⟨rfl, hP, hK⟩ := hv
  have hx := B.exec
  have hb := B.bytes
  have hr := B.returns
  have hts := atoms_spec (ws := wsX6_beyond) B.pre
  have hown : s.vm.findClass RX6 = some m.cls := findClass_of_methodNamed B.named
  have hlocks := B.notSynchronized
  have hl := lv_entry ([.ref hM, .int v1, .int v2]) (n := 3) (Nat.le_of_ble_eq_true rfl)
  rw [lg_entry_eq]
  generalize (lg_sl ([.ref hM, .int v1, .int v2]) ++ List.replicate (3 - (lg_sl ([.ref hM, .int v1, .int v2])).length) Slot.unset).toArray = ls at hl ⊢
  have hl : lv_has ls 3 [(0, .ref hM), (1, .int v1), (2, .int v2)] := hl
  unfold fX6_beyond at hf
  refine lv_aload_n hx hb dX6_beyond_0 rfl (lv_at hl 0 rfl) ?_
  refine va_get (D := D) (ci := 6) (v := .ref (aM 7)) (C := RX6) (T := TX6) (N := 28) hx hb hts iX6_beyond_X6 hown hK.1 hP 0 rfl rfl 7 (by decide) (hts (.fieldLink RX6 17 "DarkPlaceModel" "one" "[I") (List.mem_of_getElem? (i := 1) rfl)) (fun _ h9 => h9) rfl dX6_beyond_1 ?_
  refine lv_iload_n hx hb dX6_beyond_4 rfl (lv_at hl 1 rfl) ?_
  refine dk_iald hx hb hK.1 hP 1 0 rfl rfl hf dX6_beyond_5 (fun d5 hf => ?_)
  refine lv_iload_n hx hb dX6_beyond_6 rfl (lv_at hl 2 rfl) ?_
  refine dk_cne (tgt := 19) hx hb dX6_beyond_7 (by decide) hf (fun hf => ?_) (fun hf => ?_)
  · refine lv_aload_n hx hb dX6_beyond_19 rfl (lv_at hl 0 rfl) ?_
    refine va_get (D := D) (ci := 6) (v := .ref (aM 7)) (C := RX6) (T := TX6) (N := 28) hx hb hts iX6_beyond_X6 hown hK.1 hP 0 rfl rfl 7 (by decide) (hts (.fieldLink RX6 17 "DarkPlaceModel" "one" "[I") (List.mem_of_getElem? (i := 1) rfl)) (fun _ h9 => h9) rfl dX6_beyond_20 ?_
    refine lv_iload_n hx hb dX6_beyond_23 rfl (lv_at hl 1 rfl) ?_
    refine dk_iald hx hb hK.1 hP 1 0 rfl rfl hf dX6_beyond_24 (fun d24 hf => ?_)
    exact W.iret (v := d24) hx hb hr (fun t ht hW => ⟨d24, rfl, Option.some.inj hf, ht⟩) t_nil dX6_beyond_25
  · refine lv_aload_n hx hb dX6_beyond_10 rfl (lv_at hl 0 rfl) ?_
    refine va_get (D := D) (ci := 6) (v := .ref (aM 8)) (C := RX6) (T := TX6) (N := 28) hx hb hts iX6_beyond_X6 hown hK.1 hP 0 rfl rfl 8 (by decide) (hts (.fieldLink RX6 20 "DarkPlaceModel" "other" "[I") (List.mem_of_getElem? (i := 2) rfl)) (fun _ h9 => h9) rfl dX6_beyond_11 ?_
    refine lv_iload_n hx hb dX6_beyond_14 rfl (lv_at hl 1 rfl) ?_
    refine dk_iald hx hb hK.1 hP 2 0 rfl rfl hf dX6_beyond_15 (fun d15 hf => ?_)
    refine lv_goto (tgt := 25) hx hb dX6_beyond_16 (by decide) ?_
    exact W.iret (v := d15) hx hb hr (fun t ht hW => ⟨d15, rfl, Option.some.inj hf, ht⟩) t_nil dX6_beyond_25
theorem iX6_canStep_X6 : ∀ w ∈ wsX60, w ∈ wsX6_canStep := fun _ h => List.mem_cons_of_mem _ (List.mem_append_right _ h)
set_option maxHeartbeats 4000000 in
set_option maxRecDepth 100000 in
theorem kX6_canStep (l : Launch) (D : va_G) (cy : Nat → ClassId) (hM : Nat) (aM : Nat → Nat) (sdM : Int64) (pw : Nat) (M : dk_O) (w : Nat → Int32) (v2 : Int32) (v3 : Int32) (r : Int32) (hf : fX6_canStep M w v2 v3 = some r) : dk_RdI l yX6_canStep wsX6_canStep ({ frames := 2, cells := 0, slots := 0, locals := 44 }) D cy [.ref hM, .ref pw, .int v2, .int v3] (wMs cy hM aM sdM M ++ wRw cy pw 21 w) r := by
  refine Met.ofW (cc := cX6_canStep) (maxL := 6) (ret := (some .boolean)) (by decide) rfl ?_
  intro p e s m args below meth c s₁ B hml hv
  obtain ⟨rfl, hP, hK⟩ := hv
  have hx := B.exec
  have hb := B.bytes
  have hr := B.returns
  have hts := atoms_spec (ws := wsX6_canStep) B.pre
  have hown : s.vm.findClass RX6 = some m.cls := findClass_of_methodNamed B.named
  have hlocks := B.notSynchronized
  have hl := lv_entry ([.ref hM, .ref pw, .int v2, .int v3]) (n := 6) (Nat.le_of_ble_eq_true rfl)
  rw [lg_entry_eq]
  generalize (lg_sl ([.ref hM, .ref pw, .int v2, .int v3]) ++ List.replicate (6 - (lg_sl ([.ref hM, .ref pw, .int v2, .int v3])).length) Slot.unset).toArray = ls at hl ⊢
  have hl : lv_has ls 6 [(0, .ref hM), (1, .ref pw), (2, .int v2), (3, .int v3)] := hl
  have L114 : ∀ (x3 : Int32) (s0 : Int32) (ls : Array Slot), lv_has ls 6 [(1, .ref pw), (3, .int x3)] → fX6_canStep_L114 M w x3 s0 = some r → W p l e (headSpec wsX6_canStep ({ frames := 2, cells := 0, slots := 0, locals := 44 })).room s m ([.ref hM, .ref pw, .int v2, .int v3]).toArray below meth c s.heap [] 0 0 (MQ below (vp_Si (fun x => x = r)) ([.ref hM, .ref pw, .int v2, .int v3]).toArray s 0 0 (fun _ => False)) (F0 m 114 ls [.int s0]) := by
    intro x3 s0 ls hl hf
    unfold fX6_canStep_L114 at hf
    refine lv_istore (lv' := [(5, .int s0), (1, .ref pw), (3, .int x3)]) hx hb dX6_canStep_114 hl (by decide) rfl (fun ls hl => ?_)
    refine lv_aload_n hx hb dX6_canStep_116 rfl (lv_at hl 1 rfl) ?_
    refine lv_bipush (v := 11) hx hb dX6_canStep_117 (by decide) ?_
    refine lv_iload_n hx hb dX6_canStep_119 rfl (lv_at hl 2 rfl) ?_
    refine lv_iadd hx hb dX6_canStep_120 ?_
    refine dk_iald hx hb hK.1 hP 4 0 rfl rfl hf dX6_canStep_121 (fun d121 hf => ?_)
    refine lv_iconst (v := 2) hx hb dX6_canStep_122 (by decide) ?_
    refine dk_ceq (tgt := 140) hx hb dX6_canStep_123 (by decide) hf (fun hf => ?_) (fun hf => ?_)
    · refine lv_iconst (v := 1) hx hb dX6_canStep_140 (by decide) ?_
      refine lv_goto (tgt := 145) hx hb dX6_canStep_141 (by decide) ?_
      exact W.zret (v := 1) hx hb hr rfl (fun t ht hW => ⟨1, rfl, Option.some.inj hf, ht⟩) t_nil dX6_canStep_145
    · refine lv_aload_n hx hb dX6_canStep_126 rfl (lv_at hl 1 rfl) ?_
      refine lv_bipush (v := 11) hx hb dX6_canStep_127 (by decide) ?_
      refine lv_iload_n hx hb dX6_canStep_129 rfl (lv_at hl 2 rfl) ?_
      refine lv_iadd hx hb dX6_canStep_130 ?_
      refine dk_iald hx hb hK.1 hP 4 0 rfl rfl hf dX6_canStep_131 (fun d131 hf => ?_)
      refine dk_ine (tgt := 144) hx hb dX6_canStep_132 (by decide) hf (fun hf => ?_) (fun hf => ?_)
      · refine lv_iconst (v := 0) hx hb dX6_canStep_144 (by decide) ?_
        exact W.zret (v := 0) hx hb hr rfl (fun t ht hW => ⟨0, rfl, Option.some.inj hf, ht⟩) t_nil dX6_canStep_145
      · refine lv_iload hx hb dX6_canStep_135 (lv_at hl 0 rfl) ?_
        refine dk_ine (tgt := 144) hx hb dX6_canStep_137 (by decide) hf (fun hf => ?_) (fun hf => ?_)
        · refine lv_iconst (v := 0) hx hb dX6_canStep_144 (by decide) ?_
          exact W.zret (v := 0) hx hb hr rfl (fun t ht hW => ⟨0, rfl, Option.some.inj hf, ht⟩) t_nil dX6_canStep_145
        · refine lv_iconst (v := 1) hx hb dX6_canStep_140 (by decide) ?_
          refine lv_goto (tgt := 145) hx hb dX6_canStep_141 (by decide) ?_
          exact W.zret (v := 1) hx hb hr rfl (fun t ht hW => ⟨1, rfl, Option.some.inj hf, ht⟩) t_nil dX6_canStep_145
  unfold fX6_canStep at hf
  refine lv_iload_n hx hb dX6_canStep_0 rfl (lv_at hl 2 rfl) ?_
  refine lv_aload_n hx hb dX6_canStep_1 rfl (lv_at hl 1 rfl) ?_
  refine lv_iconst (v := 1) hx hb dX6_canStep_2 (by decide) ?_
  refine dk_iald hx hb hK.1 hP 4 0 rfl rfl hf dX6_canStep_3 (fun d3 hf => ?_)
  refine dk_cge (tgt := 36) hx hb dX6_canStep_4 (by decide) hf (fun hf => ?_) (fun hf => ?_)
  · refine lv_iconst (v := 0) hx hb dX6_canStep_36 (by decide) ?_
    exact W.zret (v := 0) hx hb hr rfl (fun t ht hW => ⟨0, rfl, Option.some.inj hf, ht⟩) t_nil dX6_canStep_37
  · refine lv_iload_n hx hb dX6_canStep_7 rfl (lv_at hl 3 rfl) ?_
    refine lv_aload_n hx hb dX6_canStep_8 rfl (lv_at hl 0 rfl) ?_
    refine va_get (D := D) (ci := 6) (v := .int (M.1 6)) (C := RX6) (T := TX6) (N := 28) hx hb hts iX6_canStep_X6 hown hK.1 hP 0 rfl rfl 6 (by decide) (hts (.fieldLink RX6 71 "DarkPlaceModel" "edges" "I") (List.mem_of_getElem? (i := 1) rfl)) (fun _ h9 => h9) rfl dX6_canStep_9 ?_
    refine dk_cge (tgt := 36) hx hb dX6_canStep_12 (by decide) hf (fun hf => ?_) (fun hf => ?_)
    · refine lv_iconst (v := 0) hx hb dX6_canStep_36 (by decide) ?_
      exact W.zret (v := 0) hx hb hr rfl (fun t ht hW => ⟨0, rfl, Option.some.inj hf, ht⟩) t_nil dX6_canStep_37
    · refine lv_aload_n hx hb dX6_canStep_15 rfl (lv_at hl 1 rfl) ?_
      refine lv_iload_n hx hb dX6_canStep_16 rfl (lv_at hl 2 rfl) ?_
      obtain ⟨r17, k17, hf⟩ := dk_bind hf
      refine dk_ri (va_runS (As := [.ref pw, .int v2]) (rest := []) ⟨hx, hb, hml, hown, hts⟩ (kX6_lives l D cy pw w v2 r17 k17) (va_cwS 2 hts gX6_canStep_X6_lives rfl rfl rfl (by decide +kernel) ⟨Nat.le_of_ble_eq_true rfl, Nat.le_of_ble_eq_true rfl⟩) (dk_preS hK (hP.sub (ws' := wRw cy pw 21 w) [4] rfl)) rfl rfl hl.1 rfl (lv_room (Nat.le_of_ble_eq_true rfl)) dX6_canStep_17 ⟨Nat.zero_le _, Nat.zero_le _⟩) ?_
      refine dk_ieq (tgt := 36) hx hb dX6_canStep_20 (by decide) hf (fun hf => ?_) (fun hf => ?_)
      · refine lv_iconst (v := 0) hx hb dX6_canStep_36 (by decide) ?_
        exact W.zret (v := 0) hx hb hr rfl (fun t ht hW => ⟨0, rfl, Option.some.inj hf, ht⟩) t_nil dX6_canStep_37
      · refine lv_aload_n hx hb dX6_canStep_23 rfl (lv_at hl 0 rfl) ?_
        refine lv_iload_n hx hb dX6_canStep_24 rfl (lv_at hl 3 rfl) ?_
        refine lv_aload_n hx hb dX6_canStep_25 rfl (lv_at hl 1 rfl) ?_
        refine lv_iconst (v := 3) hx hb dX6_canStep_26 (by decide) ?_
        refine lv_iload_n hx hb dX6_canStep_27 rfl (lv_at hl 2 rfl) ?_
        refine lv_iadd hx hb dX6_canStep_28 ?_
        refine dk_iald hx hb hK.1 hP 4 0 rfl rfl hf dX6_canStep_29 (fun d29 hf => ?_)
        obtain ⟨r30, k30, hf⟩ := dk_bind hf
        refine dk_ri (va_runV (As := [.int v3, .int d29]) (rest := []) ⟨hx, hb, hml, hown, hts⟩ (kX6_ends l D cy hM aM sdM M v3 d29 r30 k30) (cwV 2 hts gX6_canStep_X6_ends rfl rfl rfl (by decide +kernel) ⟨Nat.le_of_ble_eq_true rfl, Nat.le_of_ble_eq_true rfl⟩) (dk_preV hK (hP.sub (ws' := wMs cy hM aM sdM M) [0, 1, 2, 3] rfl) (ci := 6) (q0 := 0) rfl rfl) rfl rfl hl.1 rfl (lv_room (Nat.le_of_ble_eq_true rfl)) dX6_canStep_30 ⟨Nat.zero_le _, Nat.zero_le _⟩) ?_
        refine dk_ine (tgt := 38) hx hb dX6_canStep_33 (by decide) hf (fun hf => ?_) (fun hf => ?_)
        · refine lv_aload_n hx hb dX6_canStep_38 rfl (lv_at hl 1 rfl) ?_
          refine lv_bipush (v := 7) hx hb dX6_canStep_39 (by decide) ?_
          refine lv_iload_n hx hb dX6_canStep_41 rfl (lv_at hl 2 rfl) ?_
          refine lv_iadd hx hb dX6_canStep_42 ?_
          refine dk_iald hx hb hK.1 hP 4 0 rfl rfl hf dX6_canStep_43 (fun d43 hf => ?_)
          refine dk_ile (tgt := 65) hx hb dX6_canStep_44 (by decide) hf (fun hf => ?_) (fun hf => ?_)
          · refine lv_aload_n hx hb dX6_canStep_65 rfl (lv_at hl 0 rfl) ?_
            refine lv_aload_n hx hb dX6_canStep_66 rfl (lv_at hl 1 rfl) ?_
            obtain ⟨r67, k67, hf⟩ := dk_bind hf
            refine dk_ri (va_runV (As := [.ref pw]) (rest := []) ⟨hx, hb, hml, hown, hts⟩ (kX6_mayBe l D cy hM aM sdM pw M w r67 k67) (cwV 1 hts gX6_canStep_X6_mayBe rfl rfl rfl (by decide +kernel) ⟨Nat.le_of_ble_eq_true rfl, Nat.le_of_ble_eq_true rfl⟩) (dk_preV hK (hP.sub (ws' := wMs cy hM aM sdM M ++ wRw cy pw 21 w) [0, 1, 2, 3, 4] rfl) (ci := 6) (q0 := 0) rfl rfl) rfl rfl hl.1 rfl (lv_room (Nat.le_of_ble_eq_true rfl)) dX6_canStep_67 ⟨Nat.zero_le _, Nat.zero_le _⟩) ?_
            refine lv_istore (lv' := [(4, .int r67), (0, .ref hM), (1, .ref pw), (2, .int v2), (3, .int v3)]) hx hb dX6_canStep_70 hl (by decide) rfl (fun ls hl => ?_)
            refine lv_iload hx hb dX6_canStep_72 (lv_at hl 0 rfl) ?_
            obtain ⟨r74, k74, hf⟩ := dk_bind hf
            refine dk_ri (va_runS (As := [.int r67]) (rest := []) ⟨hx, hb, hml, hown, hts⟩ (kX6_ones l D cy r67 r74 k74) (va_cwS 1 hts gX6_canStep_X6_ones rfl rfl rfl (by decide +kernel) ⟨Nat.le_of_ble_eq_true rfl, Nat.le_of_ble_eq_true rfl⟩) (dk_preS hK (hP.sub (ws' := []) [] rfl)) rfl rfl hl.1 rfl (lv_room (Nat.le_of_ble_eq_true rfl)) dX6_canStep_74 ⟨Nat.zero_le _, Nat.zero_le _⟩) ?_
            refine lv_iconst (v := 1) hx hb dX6_canStep_77 (by decide) ?_
            refine dk_cne (tgt := 113) hx hb dX6_canStep_78 (by decide) hf (fun hf => ?_) (fun hf => ?_)
            · refine lv_iconst (v := 0) hx hb dX6_canStep_113 (by decide) ?_
              exact L114 v3 0 _ (lv_sub hl [2, 4] rfl) hf
            · refine lv_iload hx hb dX6_canStep_81 (lv_at hl 0 rfl) ?_
              refine lv_aload_n hx hb dX6_canStep_83 rfl (lv_at hl 1 rfl) ?_
              refine va_get (D := D) (ci := 6) (v := .ref (aM 7)) (C := RX6) (T := TX6) (N := 28) hx hb hts iX6_canStep_X6 hown hK.1 hP 0 rfl rfl 7 (by decide) (hts (.fieldLink RX6 17 "DarkPlaceModel" "one" "[I") (List.mem_of_getElem? (i := 2) rfl)) (fun _ h9 => h9) rfl dX6_canStep_84 ?_
              refine lv_iload_n hx hb dX6_canStep_87 rfl (lv_at hl 4 rfl) ?_
              refine dk_iald hx hb hK.1 hP 1 0 rfl rfl hf dX6_canStep_88 (fun d88 hf => ?_)
              obtain ⟨r89, k89, hf⟩ := dk_bind hf
              refine dk_ri (va_runS (As := [.int r67, .int d88]) (rest := []) ⟨hx, hb, hml, hown, hts⟩ (kX6_has l D cy r67 d88 r89 k89) (va_cwS 2 hts gX6_canStep_X6_has rfl rfl rfl (by decide +kernel) ⟨Nat.le_of_ble_eq_true rfl, Nat.le_of_ble_eq_true rfl⟩) (dk_preS hK (hP.sub (ws' := []) [] rfl)) rfl rfl hl.1 rfl (lv_room (Nat.le_of_ble_eq_true rfl)) dX6_canStep_89 ⟨Nat.zero_le _, Nat.zero_le _⟩) ?_
              refine dk_ine (tgt := 109) hx hb dX6_canStep_92 (by decide) hf (fun hf => ?_) (fun hf => ?_)
              · refine lv_iconst (v := 1) hx hb dX6_canStep_109 (by decide) ?_
                refine lv_goto (tgt := 114) hx hb dX6_canStep_110 (by decide) ?_
                exact L114 v3 1 _ (lv_sub hl [2, 4] rfl) hf
              · refine lv_iload hx hb dX6_canStep_95 (lv_at hl 0 rfl) ?_
                refine lv_aload_n hx hb dX6_canStep_97 rfl (lv_at hl 1 rfl) ?_
                refine va_get (D := D) (ci := 6) (v := .ref (aM 8)) (C := RX6) (T := TX6) (N := 28) hx hb hts iX6_canStep_X6 hown hK.1 hP 0 rfl rfl 8 (by decide) (hts (.fieldLink RX6 20 "DarkPlaceModel" "other" "[I") (List.mem_of_getElem? (i := 3) rfl)) (fun _ h9 => h9) rfl dX6_canStep_98 ?_
                refine lv_iload_n hx hb dX6_canStep_101 rfl (lv_at hl 4 rfl) ?_
                refine dk_iald hx hb hK.1 hP 2 0 rfl rfl hf dX6_canStep_102 (fun d102 hf => ?_)
                obtain ⟨r103, k103, hf⟩ := dk_bind hf
                refine dk_ri (va_runS (As := [.int r67, .int d102]) (rest := []) ⟨hx, hb, hml, hown, hts⟩ (kX6_has l D cy r67 d102 r103 k103) (va_cwS 2 hts gX6_canStep_X6_has rfl rfl rfl (by decide +kernel) ⟨Nat.le_of_ble_eq_true rfl, Nat.le_of_ble_eq_true rfl⟩) (dk_preS hK (hP.sub (ws' := []) [] rfl)) rfl rfl hl.1 rfl (lv_room (Nat.le_of_ble_eq_true rfl)) dX6_canStep_103 ⟨Nat.zero_le _, Nat.zero_le _⟩) ?_
                refine dk_ieq (tgt := 113) hx hb dX6_canStep_106 (by decide) hf (fun hf => ?_) (fun hf => ?_)
                · refine lv_iconst (v := 0) hx hb dX6_canStep_113 (by decide) ?_
                  exact L114 v3 0 _ (lv_sub hl [2, 4] rfl) hf
                · refine lv_iconst (v := 1) hx hb dX6_canStep_109 (by decide) ?_
                  refine lv_goto (tgt := 114) hx hb dX6_canStep_110 (by decide) ?_
                  exact L114 v3 1 _ (lv_sub hl [2, 4] rfl) hf
          · refine lv_aload_n hx hb dX6_canStep_47 rfl (lv_at hl 1 rfl) ?_
            refine lv_bipush (v := 7) hx hb dX6_canStep_48 (by decide) ?_
            refine lv_iload_n hx hb dX6_canStep_50 rfl (lv_at hl 2 rfl) ?_
            refine lv_iadd hx hb dX6_canStep_51 ?_
            refine dk_iald hx hb hK.1 hP 4 0 rfl rfl hf dX6_canStep_52 (fun d52 hf => ?_)
            refine lv_iload_n hx hb dX6_canStep_53 rfl (lv_at hl 3 rfl) ?_
            refine lv_iconst (v := 1) hx hb dX6_canStep_54 (by decide) ?_
            refine lv_iadd hx hb dX6_canStep_55 ?_
            refine dk_cne (tgt := 63) hx hb dX6_canStep_56 (by decide) hf (fun hf => ?_) (fun hf => ?_)
            · refine lv_iconst (v := 0) hx hb dX6_canStep_63 (by decide) ?_
              exact W.zret (v := 0) hx hb hr rfl (fun t ht hW => ⟨0, rfl, Option.some.inj hf, ht⟩) t_nil dX6_canStep_64
            · refine lv_iconst (v := 1) hx hb dX6_canStep_59 (by decide) ?_
              refine lv_goto (tgt := 64) hx hb dX6_canStep_60 (by decide) ?_
              exact W.zret (v := 1) hx hb hr rfl (fun t ht hW => ⟨1, rfl, Option.some.inj hf, ht⟩) t_nil dX6_canStep_64
        · refine lv_iconst (v := 0) hx hb dX6_canStep_36 (by decide) ?_
          exact W.zret (v := 0) hx hb hr rfl (fun t ht hW => ⟨0, rfl, Option.some.inj hf, ht⟩) t_nil dX6_canStep_37
set_option maxHeartbeats 4000000 in
set_option maxRecDepth 100000 in
theorem kX6_stepOn (l : Launch) (D : va_G) (cy : Nat → ClassId) (hM : Nat) (aM : Nat → Nat) (sdM : Int64) (pw : Nat) (sz : Nat) (M : dk_O) (w : Nat → Int32) (v2 : Int32) (v3 : Int32) (ow_row : (Nat → Int32)) (hf : fX6_stepOn M w v2 v3 = some ow_row) : dk_MuV l yX6_stepOn wsX6_stepOn ({ frames := 1, cells := 0, slots := 0, locals := 22 }) D cy [.ref hM, .ref pw, .int v2, .int v3] (wMs cy hM aM sdM M ++ wRw cy pw 21 w) (wMs cy hM aM sdM M ++ wRw cy pw 21 ow_row) sz := by
  refine Met.ofW (cc := cX6_stepOn) (maxL := 5) (ret := none) (by decide) rfl ?_
  intro p e s m args below meth c s₁ B hml hv
  obtain ⟨rfl, hsz, hP, hK, hD0⟩ := hv
  have hx := B.exec
  have hb := B.bytes
  have hr := B.returns
  have hts := atoms_spec (ws := wsX6_stepOn) B.pre
  have hown : s.vm.findClass RX6 = some m.cls := findClass_of_methodNamed B.named
  have hlocks := B.notSynchronized
  subst hsz
  have hD := hD0.self (sz := s.heap.size)
  generalize hAe : va_A (wMs cy hM aM sdM M ++ wRw cy pw 21 w) s.heap.size = A at hD ⊢
  have hA : ∀ q : Nat, s.heap.size ≤ q → A q := fun q h => by rw [← hAe]; exact Or.inr h
  have hS : va_S A s.heap s.heap [] := va_S.rf
  have hl := lv_entry ([.ref hM, .ref pw, .int v2, .int v3]) (n := 5) (Nat.le_of_ble_eq_true rfl)
  rw [lg_entry_eq]
  generalize (lg_sl ([.ref hM, .ref pw, .int v2, .int v3]) ++ List.replicate (5 - (lg_sl ([.ref hM, .ref pw, .int v2, .int v3])).length) Slot.unset).toArray = ls at hl ⊢
  have hl : lv_has ls 5 [(0, .ref hM), (1, .ref pw), (2, .int v2), (3, .int v3)] := hl
  have L113 : ∀ (w_row : (Nat → Int32)) (H : Heap) (locs : List Loc) (ls : Array Slot), va_P D vwCl (wMs cy hM aM sdM M ++ wRw cy pw 21 w_row) H → va_D A (wMs cy hM aM sdM M ++ wRw cy pw 21 w_row) → va_S A s.heap H locs → lv_has ls 5 [(1, .ref pw)] → fX6_stepOn_L113 M w w_row = some ow_row → W p l e (headSpec wsX6_stepOn ({ frames := 1, cells := 0, slots := 0, locals := 22 })).room s m ([.ref hM, .ref pw, .int v2, .int v3]).toArray below meth c H locs 0 0 (MQ below (va_Qv (fun (_ : Unit) => True) (dk_B D (wMs cy hM aM sdM M ++ wRw cy pw 21 ow_row) A) A) ([.ref hM, .ref pw, .int v2, .int v3]).toArray s 0 0 A) (F0 m 113 ls []) := by
    intro w_row H locs ls hP hD hS hl hf
    unfold fX6_stepOn_L113 at hf
    refine lv_aload_n hx hb dX6_stepOn_113 rfl (lv_at hl 0 rfl) ?_
    refine lv_iconst (v := 2) hx hb dX6_stepOn_114 (by decide) ?_
    refine lv_dup2_11 hx hb dX6_stepOn_115 rfl rfl ?_
    refine dk_iald hx hb hK.1 hP 4 0 rfl rfl hf dX6_stepOn_116 (fun d116 hf => ?_)
    refine lv_iconst (v := 1) hx hb dX6_stepOn_117 (by decide) ?_
    refine lv_iadd hx hb dX6_stepOn_118 ?_
    refine dk_iast hx hb hK.1 hP hD hS 4 0 rfl rfl hf dX6_stepOn_119 (fun f119 H locs hP hD hS hf => ?_)
    have hP : va_P D vwCl (wMs cy hM aM sdM M ++ wRw cy pw 21 f119) H := hP
    have hD : va_D A (wMs cy hM aM sdM M ++ wRw cy pw 21 f119) := hD
    have e0 := Option.some.inj hf
    subst e0
    exact W.vret hx hb hr (fun t ht hW => ⟨⟨(), rfl, trivial, by rw [ht]; exact hP, hD⟩, hS.F ht⟩) hS.2.2 dX6_stepOn_120
  have L112 : ∀ (s1 : Int32) (s2 : Int32) (w_row : (Nat → Int32)) (H : Heap) (locs : List Loc) (ls : Array Slot), va_P D vwCl (wMs cy hM aM sdM M ++ wRw cy pw 21 w_row) H → va_D A (wMs cy hM aM sdM M ++ wRw cy pw 21 w_row) → va_S A s.heap H locs → lv_has ls 5 [(1, .ref pw)] → fX6_stepOn_L112 M w s1 s2 w_row = some ow_row → W p l e (headSpec wsX6_stepOn ({ frames := 1, cells := 0, slots := 0, locals := 22 })).room s m ([.ref hM, .ref pw, .int v2, .int v3]).toArray below meth c H locs 0 0 (MQ below (va_Qv (fun (_ : Unit) => True) (dk_B D (wMs cy hM aM sdM M ++ wRw cy pw 21 ow_row) A) A) ([.ref hM, .ref pw, .int v2, .int v3]).toArray s 0 0 A) (F0 m 112 ls [.int s2, .int s1, .ref pw]) := by
    intro s1 s2 w_row H locs ls hP hD hS hl hf
    unfold fX6_stepOn_L112 at hf
    refine dk_iast hx hb hK.1 hP hD hS 4 0 rfl rfl hf dX6_stepOn_112 (fun f112 H locs hP hD hS hf => ?_)
    have hP : va_P D vwCl (wMs cy hM aM sdM M ++ wRw cy pw 21 f112) H := hP
    have hD : va_D A (wMs cy hM aM sdM M ++ wRw cy pw 21 f112) := hD
    exact L113 f112 _ _ _ hP hD hS (lv_sub hl [0] rfl) hf
  have L91 : ∀ (x2 : Int32) (x3 : Int32) (x4 : Int32) (s1 : Int32) (s2 : Int32) (w_row : (Nat → Int32)) (H : Heap) (locs : List Loc) (ls : Array Slot), va_P D vwCl (wMs cy hM aM sdM M ++ wRw cy pw 21 w_row) H → va_D A (wMs cy hM aM sdM M ++ wRw cy pw 21 w_row) → va_S A s.heap H locs → lv_has ls 5 [(1, .ref pw), (2, .int x2), (3, .int x3), (4, .int x4)] → fX6_stepOn_L91 M w x2 x3 x4 s1 s2 w_row = some ow_row → W p l e (headSpec wsX6_stepOn ({ frames := 1, cells := 0, slots := 0, locals := 22 })).room s m ([.ref hM, .ref pw, .int v2, .int v3]).toArray below meth c H locs 0 0 (MQ below (va_Qv (fun (_ : Unit) => True) (dk_B D (wMs cy hM aM sdM M ++ wRw cy pw 21 ow_row) A) A) ([.ref hM, .ref pw, .int v2, .int v3]).toArray s 0 0 A) (F0 m 91 ls [.int s2, .int s1, .ref pw]) := by
    intro x2 x3 x4 s1 s2 w_row H locs ls hP hD hS hl hf
    unfold fX6_stepOn_L91 at hf
    refine dk_iast hx hb hK.1 hP hD hS 4 0 rfl rfl hf dX6_stepOn_91 (fun f91 H locs hP hD hS hf => ?_)
    have hP : va_P D vwCl (wMs cy hM aM sdM M ++ wRw cy pw 21 f91) H := hP
    have hD : va_D A (wMs cy hM aM sdM M ++ wRw cy pw 21 f91) := hD
    refine lv_aload_n hx hb dX6_stepOn_92 rfl (lv_at hl 0 rfl) ?_
    refine lv_bipush (v := 7) hx hb dX6_stepOn_93 (by decide) ?_
    refine lv_iload_n hx hb dX6_stepOn_95 rfl (lv_at hl 1 rfl) ?_
    refine lv_iadd hx hb dX6_stepOn_96 ?_
    refine lv_iload hx hb dX6_stepOn_97 (lv_at hl 3 rfl) ?_
    refine lv_aload_n hx hb dX6_stepOn_99 rfl (lv_at hl 0 rfl) ?_
    refine lv_iconst (v := 0) hx hb dX6_stepOn_100 (by decide) ?_
    refine dk_iald hx hb hK.1 hP 4 0 rfl rfl hf dX6_stepOn_101 (fun d101 hf => ?_)
    refine dk_cne (tgt := 109) hx hb dX6_stepOn_102 (by decide) hf (fun hf => ?_) (fun hf => ?_)
    · refine lv_iload_n hx hb dX6_stepOn_109 rfl (lv_at hl 2 rfl) ?_
      refine lv_iconst (v := 1) hx hb dX6_stepOn_110 (by decide) ?_
      refine lv_iadd hx hb dX6_stepOn_111 ?_
      exact L112 (7 + x2) (x3 + 1) f91 _ _ _ hP hD hS (lv_sub hl [0] rfl) hf
    · refine lv_iconst (v := 0) hx hb dX6_stepOn_105 (by decide) ?_
      refine lv_goto (tgt := 112) hx hb dX6_stepOn_106 (by decide) ?_
      exact L112 (7 + x2) 0 f91 _ _ _ hP hD hS (lv_sub hl [0] rfl) hf
  unfold fX6_stepOn at hf
  refine lv_aload_n hx hb dX6_stepOn_0 rfl (lv_at hl 0 rfl) ?_
  refine lv_iload_n hx hb dX6_stepOn_1 rfl (lv_at hl 3 rfl) ?_
  refine lv_aload_n hx hb dX6_stepOn_2 rfl (lv_at hl 1 rfl) ?_
  refine lv_iconst (v := 3) hx hb dX6_stepOn_3 (by decide) ?_
  refine lv_iload_n hx hb dX6_stepOn_4 rfl (lv_at hl 2 rfl) ?_
  refine lv_iadd hx hb dX6_stepOn_5 ?_
  refine dk_iald hx hb hK.1 hP 4 0 rfl rfl hf dX6_stepOn_6 (fun d6 hf => ?_)
  obtain ⟨r7, k7, hf⟩ := dk_bind hf
  refine dk_ri (va_runV (As := [.int v3, .int d6]) (rest := []) ⟨hx, hb, hml, hown, hts⟩ (kX6_beyond l D cy hM aM sdM M v3 d6 r7 k7) (cwV 2 hts gX6_stepOn_X6_beyond rfl rfl rfl (by decide +kernel) ⟨Nat.le_of_ble_eq_true rfl, Nat.le_of_ble_eq_true rfl⟩) (dk_preV hK (hP.sub (ws' := wMs cy hM aM sdM M) [0, 1, 2, 3] rfl) (ci := 6) (q0 := 0) rfl rfl) rfl rfl hl.1 rfl (lv_room (Nat.le_of_ble_eq_true rfl)) dX6_stepOn_7 ⟨Nat.zero_le _, Nat.zero_le _⟩) ?_
  refine lv_istore (lv' := [(4, .int r7), (0, .ref hM), (1, .ref pw), (2, .int v2), (3, .int v3)]) hx hb dX6_stepOn_10 hl (by decide) rfl (fun ls hl => ?_)
  refine lv_aload_n hx hb dX6_stepOn_12 rfl (lv_at hl 2 rfl) ?_
  refine lv_bipush (v := 7) hx hb dX6_stepOn_13 (by decide) ?_
  refine lv_iload_n hx hb dX6_stepOn_15 rfl (lv_at hl 3 rfl) ?_
  refine lv_iadd hx hb dX6_stepOn_16 ?_
  refine dk_iald hx hb hK.1 hP 4 0 rfl rfl hf dX6_stepOn_17 (fun d17 hf => ?_)
  refine dk_ile (tgt := 45) hx hb dX6_stepOn_18 (by decide) hf (fun hf => ?_) (fun hf => ?_)
  · refine lv_aload_n hx hb dX6_stepOn_45 rfl (lv_at hl 2 rfl) ?_
    refine lv_bipush (v := 11) hx hb dX6_stepOn_46 (by decide) ?_
    refine lv_iload_n hx hb dX6_stepOn_48 rfl (lv_at hl 4 rfl) ?_
    refine lv_iadd hx hb dX6_stepOn_49 ?_
    refine dk_iald hx hb hK.1 hP 4 0 rfl rfl hf dX6_stepOn_50 (fun d50 hf => ?_)
    refine lv_iconst (v := 2) hx hb dX6_stepOn_51 (by decide) ?_
    refine dk_cne (tgt := 65) hx hb dX6_stepOn_52 (by decide) hf (fun hf => ?_) (fun hf => ?_)
    · refine lv_aload_n hx hb dX6_stepOn_65 rfl (lv_at hl 2 rfl) ?_
      refine lv_bipush (v := 11) hx hb dX6_stepOn_66 (by decide) ?_
      refine lv_iload_n hx hb dX6_stepOn_68 rfl (lv_at hl 4 rfl) ?_
      refine lv_iadd hx hb dX6_stepOn_69 ?_
      refine lv_iconst (v := 1) hx hb dX6_stepOn_70 (by decide) ?_
      refine dk_iast hx hb hK.1 hP hD hS 4 0 rfl rfl hf dX6_stepOn_71 (fun f71 H locs hP hD hS hf => ?_)
      have hP : va_P D vwCl (wMs cy hM aM sdM M ++ wRw cy pw 21 f71) H := hP
      have hD : va_D A (wMs cy hM aM sdM M ++ wRw cy pw 21 f71) := hD
      refine lv_aload_n hx hb dX6_stepOn_72 rfl (lv_at hl 2 rfl) ?_
      refine lv_iconst (v := 3) hx hb dX6_stepOn_73 (by decide) ?_
      refine lv_iload_n hx hb dX6_stepOn_74 rfl (lv_at hl 3 rfl) ?_
      refine lv_iadd hx hb dX6_stepOn_75 ?_
      refine lv_iload hx hb dX6_stepOn_76 (lv_at hl 0 rfl) ?_
      refine lv_aload_n hx hb dX6_stepOn_78 rfl (lv_at hl 2 rfl) ?_
      refine lv_iconst (v := 0) hx hb dX6_stepOn_79 (by decide) ?_
      refine dk_iald hx hb hK.1 hP 4 0 rfl rfl hf dX6_stepOn_80 (fun d80 hf => ?_)
      refine dk_cne (tgt := 89) hx hb dX6_stepOn_81 (by decide) hf (fun hf => ?_) (fun hf => ?_)
      · refine lv_iload hx hb dX6_stepOn_89 (lv_at hl 0 rfl) ?_
        exact L91 v2 v3 r7 (3 + v2) r7 f71 _ _ _ hP hD hS (lv_sub hl [2, 3, 4, 0] rfl) hf
      · refine lv_bipush (v := 9) hx hb dX6_stepOn_84 (by decide) ?_
        refine lv_goto (tgt := 91) hx hb dX6_stepOn_86 (by decide) ?_
        exact L91 v2 v3 r7 (3 + v2) 9 f71 _ _ _ hP hD hS (lv_sub hl [2, 3, 4, 0] rfl) hf
    · refine lv_aload_n hx hb dX6_stepOn_55 rfl (lv_at hl 2 rfl) ?_
      refine lv_iconst (v := 3) hx hb dX6_stepOn_56 (by decide) ?_
      refine lv_iload_n hx hb dX6_stepOn_57 rfl (lv_at hl 3 rfl) ?_
      refine lv_iadd hx hb dX6_stepOn_58 ?_
      refine lv_iload hx hb dX6_stepOn_59 (lv_at hl 0 rfl) ?_
      refine dk_iast hx hb hK.1 hP hD hS 4 0 rfl rfl hf dX6_stepOn_61 (fun f61 H locs hP hD hS hf => ?_)
      have hP : va_P D vwCl (wMs cy hM aM sdM M ++ wRw cy pw 21 f61) H := hP
      have hD : va_D A (wMs cy hM aM sdM M ++ wRw cy pw 21 f61) := hD
      refine lv_goto (tgt := 113) hx hb dX6_stepOn_62 (by decide) ?_
      exact L113 f61 _ _ _ hP hD hS (lv_sub hl [2] rfl) hf
  · refine lv_aload_n hx hb dX6_stepOn_21 rfl (lv_at hl 2 rfl) ?_
    refine lv_bipush (v := 7) hx hb dX6_stepOn_22 (by decide) ?_
    refine lv_iload_n hx hb dX6_stepOn_24 rfl (lv_at hl 3 rfl) ?_
    refine lv_iadd hx hb dX6_stepOn_25 ?_
    refine lv_iconst (v := 0) hx hb dX6_stepOn_26 (by decide) ?_
    refine dk_iast hx hb hK.1 hP hD hS 4 0 rfl rfl hf dX6_stepOn_27 (fun f27 H locs hP hD hS hf => ?_)
    have hP : va_P D vwCl (wMs cy hM aM sdM M ++ wRw cy pw 21 f27) H := hP
    have hD : va_D A (wMs cy hM aM sdM M ++ wRw cy pw 21 f27) := hD
    refine lv_aload_n hx hb dX6_stepOn_28 rfl (lv_at hl 2 rfl) ?_
    refine lv_bipush (v := 11) hx hb dX6_stepOn_29 (by decide) ?_
    refine lv_iload_n hx hb dX6_stepOn_31 rfl (lv_at hl 4 rfl) ?_
    refine lv_iadd hx hb dX6_stepOn_32 ?_
    refine lv_iconst (v := 2) hx hb dX6_stepOn_33 (by decide) ?_
    refine dk_iast hx hb hK.1 hP hD hS 4 0 rfl rfl hf dX6_stepOn_34 (fun f34 H locs hP hD hS hf => ?_)
    have hP : va_P D vwCl (wMs cy hM aM sdM M ++ wRw cy pw 21 f34) H := hP
    have hD : va_D A (wMs cy hM aM sdM M ++ wRw cy pw 21 f34) := hD
    refine lv_aload_n hx hb dX6_stepOn_35 rfl (lv_at hl 2 rfl) ?_
    refine lv_iconst (v := 3) hx hb dX6_stepOn_36 (by decide) ?_
    refine lv_iload_n hx hb dX6_stepOn_37 rfl (lv_at hl 3 rfl) ?_
    refine lv_iadd hx hb dX6_stepOn_38 ?_
    refine lv_iload hx hb dX6_stepOn_39 (lv_at hl 0 rfl) ?_
    refine dk_iast hx hb hK.1 hP hD hS 4 0 rfl rfl hf dX6_stepOn_41 (fun f41 H locs hP hD hS hf => ?_)
    have hP : va_P D vwCl (wMs cy hM aM sdM M ++ wRw cy pw 21 f41) H := hP
    have hD : va_D A (wMs cy hM aM sdM M ++ wRw cy pw 21 f41) := hD
    refine lv_goto (tgt := 113) hx hb dX6_stepOn_42 (by decide) ?_
    exact L113 f41 _ _ _ hP hD hS (lv_sub hl [2] rfl) hf
theorem iX6_unseenAt_X6 : ∀ w ∈ wsX60, w ∈ wsX6_unseenAt := fun _ h => List.mem_cons_of_mem _ (List.mem_append_right _ h)
set_option maxHeartbeats 4000000 in
set_option maxRecDepth 100000 in
theorem kX6_unseenAt (l : Launch) (D : va_G) (cy : Nat → ClassId) (hM : Nat) (aM : Nat → Nat) (sdM : Int64) (pw : Nat) (M : dk_O) (w : Nat → Int32) (v2 : Int32) (r : Int32) (hf : fX6_unseenAt M w v2 = some r) : dk_RdI l yX6_unseenAt wsX6_unseenAt ({ frames := 1, cells := 0, slots := 0, locals := 22 }) D cy [.ref hM, .ref pw, .int v2] (wMs cy hM aM sdM M ++ wRw cy pw 21 w) r := by
  refine Met.ofW (cc := cX6_unseenAt) (maxL := 4) (ret := (some .int)) (by decide) rfl ?_
  intro p e s m args below meth c s₁ B hml hv
  obtain ⟨rfl, hP, hK⟩ := hv
  have hx := B.exec
  have hb := B.bytes
  have hr := B.returns
  have hts := atoms_spec (ws := wsX6_unseenAt) B.pre
  have hown : s.vm.findClass RX6 = some m.cls := findClass_of_methodNamed B.named
  have hlocks := B.notSynchronized
  have hl := lv_entry ([.ref hM, .ref pw, .int v2]) (n := 4) (Nat.le_of_ble_eq_true rfl)
  rw [lg_entry_eq]
  generalize (lg_sl ([.ref hM, .ref pw, .int v2]) ++ List.replicate (4 - (lg_sl ([.ref hM, .ref pw, .int v2])).length) Slot.unset).toArray = ls at hl ⊢
  have hl : lv_has ls 4 [(0, .ref hM), (1, .ref pw), (2, .int v2)] := hl
  have L2 : ∀ (fu2 : Nat) (x2 : Int32) (x3 : Int32) (ls : Array Slot), lv_has ls 4 [(0, .ref hM), (1, .ref pw), (2, .int x2), (3, .int x3)] → fX6_unseenAt_L2 M w fu2 x2 x3 = some r → W p l e (headSpec wsX6_unseenAt ({ frames := 1, cells := 0, slots := 0, locals := 22 })).room s m ([.ref hM, .ref pw, .int v2]).toArray below meth c s.heap [] 0 0 (MQ below (vp_Si (fun x => x = r)) ([.ref hM, .ref pw, .int v2]).toArray s 0 0 (fun _ => False)) (F0 m 2 ls []) := by
    intro fu2
    induction fu2 with
    | zero =>
      intro x2 x3 ls hl hf
      rw [fX6_unseenAt_L2] at hf
      cases hf
    | succ fu2 ih2 =>
      intro x2 x3 ls hl hf
      rw [fX6_unseenAt_L2] at hf
      refine lv_iload_n hx hb dX6_unseenAt_2 rfl (lv_at hl 3 rfl) ?_
      refine lv_aload_n hx hb dX6_unseenAt_3 rfl (lv_at hl 0 rfl) ?_
      refine va_get (D := D) (ci := 6) (v := .int (M.1 6)) (C := RX6) (T := TX6) (N := 28) hx hb hts iX6_unseenAt_X6 hown hK.1 hP 0 rfl rfl 6 (by decide) (hts (.fieldLink RX6 71 "DarkPlaceModel" "edges" "I") (List.mem_of_getElem? (i := 1) rfl)) (fun _ h9 => h9) rfl dX6_unseenAt_4 ?_
      refine dk_cge (tgt := 36) hx hb dX6_unseenAt_7 (by decide) hf (fun hf => ?_) (fun hf => ?_)
      · refine lv_bipush (v := (-9)) hx hb dX6_unseenAt_36 (by decide) ?_
        exact W.iret (v := (-9)) hx hb hr (fun t ht hW => ⟨(-9), rfl, Option.some.inj hf, ht⟩) t_nil dX6_unseenAt_38
      · refine lv_aload_n hx hb dX6_unseenAt_10 rfl (lv_at hl 1 rfl) ?_
        refine lv_bipush (v := 11) hx hb dX6_unseenAt_11 (by decide) ?_
        refine lv_iload_n hx hb dX6_unseenAt_13 rfl (lv_at hl 3 rfl) ?_
        refine lv_iadd hx hb dX6_unseenAt_14 ?_
        refine dk_iald hx hb hK.1 hP 4 0 rfl rfl hf dX6_unseenAt_15 (fun d15 hf => ?_)
        refine dk_ine (tgt := 30) hx hb dX6_unseenAt_16 (by decide) hf (fun hf => ?_) (fun hf => ?_)
        · refine lv_iinc (v := x3 + 1) (lv' := [(3, .int (x3 + 1)), (0, .ref hM), (1, .ref pw), (2, .int x2)]) hx hb dX6_unseenAt_30 hl (k := 3) rfl rfl (by decide) rfl (fun ls hl => ?_)
          refine lv_goto (tgt := 2) hx hb dX6_unseenAt_33 (by decide) ?_
          exact ih2 x2 (x3 + 1) _ (lv_sub hl [1, 2, 3, 0] rfl) hf
        · refine lv_aload_n hx hb dX6_unseenAt_19 rfl (lv_at hl 0 rfl) ?_
          refine lv_iload_n hx hb dX6_unseenAt_20 rfl (lv_at hl 3 rfl) ?_
          refine lv_iload_n hx hb dX6_unseenAt_21 rfl (lv_at hl 2 rfl) ?_
          obtain ⟨r22, k22, hf⟩ := dk_bind hf
          refine dk_ri (va_runV (As := [.int x3, .int x2]) (rest := []) ⟨hx, hb, hml, hown, hts⟩ (kX6_ends l D cy hM aM sdM M x3 x2 r22 k22) (cwV 2 hts gX6_unseenAt_X6_ends rfl rfl rfl (by decide +kernel) ⟨Nat.le_of_ble_eq_true rfl, Nat.le_of_ble_eq_true rfl⟩) (dk_preV hK (hP.sub (ws' := wMs cy hM aM sdM M) [0, 1, 2, 3] rfl) (ci := 6) (q0 := 0) rfl rfl) rfl rfl hl.1 rfl (lv_room (Nat.le_of_ble_eq_true rfl)) dX6_unseenAt_22 ⟨Nat.zero_le _, Nat.zero_le _⟩) ?_
          refine dk_ieq (tgt := 30) hx hb dX6_unseenAt_25 (by decide) hf (fun hf => ?_) (fun hf => ?_)
          · refine lv_iinc (v := x3 + 1) (lv' := [(3, .int (x3 + 1)), (0, .ref hM), (1, .ref pw), (2, .int x2)]) hx hb dX6_unseenAt_30 hl (k := 3) rfl rfl (by decide) rfl (fun ls hl => ?_)
            refine lv_goto (tgt := 2) hx hb dX6_unseenAt_33 (by decide) ?_
            exact ih2 x2 (x3 + 1) _ (lv_sub hl [1, 2, 3, 0] rfl) hf
          · refine lv_iload_n hx hb dX6_unseenAt_28 rfl (lv_at hl 3 rfl) ?_
            exact W.iret (v := x3) hx hb hr (fun t ht hW => ⟨x3, rfl, Option.some.inj hf, ht⟩) t_nil dX6_unseenAt_29
  unfold fX6_unseenAt at hf
  refine lv_iconst (v := 0) hx hb dX6_unseenAt_0 (by decide) ?_
  refine lv_istore_n (lv' := [(3, .int 0), (0, .ref hM), (1, .ref pw), (2, .int v2)]) hx hb dX6_unseenAt_1 rfl hl (by decide) rfl (fun ls hl => ?_)
  exact L2 1000 v2 0 _ (lv_sub hl [1, 2, 3, 0] rfl) hf
theorem iX6_layFar_X6 : ∀ w ∈ wsX60, w ∈ wsX6_layFar := fun _ h => List.mem_cons_of_mem _ (List.mem_append_right _ h)
set_option maxHeartbeats 4000000 in
set_option maxRecDepth 100000 in
theorem kX6_layFar (l : Launch) (D : va_G) (cy : Nat → ClassId) (hM : Nat) (aM : Nat → Nat) (sdM : Int64) (pw : Nat) (sz : Nat) (M : dk_O) (w : Nat → Int32) (v2 : Int32) (oM_26 : (Nat → Int32)) (hf : fX6_layFar M w v2 = some oM_26) : dk_MuV l yX6_layFar wsX6_layFar ({ frames := 0, cells := 0, slots := 0, locals := 0 }) D cy [.ref hM, .ref pw, .int v2] (wMs cy hM aM sdM M ++ wRw cy pw 21 w) (wMs cy hM aM sdM (M.1, dk_upA M.2 26 oM_26) ++ wRw cy pw 21 w) sz := by
  refine Met.ofW (cc := cX6_layFar) (maxL := 5) (ret := none) (by decide) rfl ?_
  intro p e s m args below meth c s₁ B hml hv
  obtain ⟨rfl, hsz, hP, hK, hD0⟩ := hv
  have hx := B.exec
  have hb := B.bytes
  have hr := B.returns
  have hts := atoms_spec (ws := wsX6_layFar) B.pre
  have hown : s.vm.findClass RX6 = some m.cls := findClass_of_methodNamed B.named
  have hlocks := B.notSynchronized
  subst hsz
  have hD := hD0.self (sz := s.heap.size)
  generalize hAe : va_A (wMs cy hM aM sdM M ++ wRw cy pw 21 w) s.heap.size = A at hD ⊢
  have hA : ∀ q : Nat, s.heap.size ≤ q → A q := fun q h => by rw [← hAe]; exact Or.inr h
  have hS : va_S A s.heap s.heap [] := va_S.rf
  have hl := lv_entry ([.ref hM, .ref pw, .int v2]) (n := 5) (Nat.le_of_ble_eq_true rfl)
  rw [lg_entry_eq]
  generalize (lg_sl ([.ref hM, .ref pw, .int v2]) ++ List.replicate (5 - (lg_sl ([.ref hM, .ref pw, .int v2])).length) Slot.unset).toArray = ls at hl ⊢
  have hl : lv_has ls 5 [(0, .ref hM), (1, .ref pw), (2, .int v2)] := hl
  have L33 : ∀ (fu33 : Nat) (x3 : Int32) (M_26 : (Nat → Int32)) (H : Heap) (locs : List Loc) (ls : Array Slot), va_P D vwCl (wMs cy hM aM sdM (M.1, dk_upA M.2 26 M_26) ++ wRw cy pw 21 w) H → va_D A (wMs cy hM aM sdM (M.1, dk_upA M.2 26 M_26) ++ wRw cy pw 21 w) → va_S A s.heap H locs → lv_has ls 5 [(0, .ref hM), (1, .ref pw), (3, .int x3)] → fX6_layFar_L33 M w fu33 x3 M_26 = some oM_26 → W p l e (headSpec wsX6_layFar ({ frames := 0, cells := 0, slots := 0, locals := 0 })).room s m ([.ref hM, .ref pw, .int v2]).toArray below meth c H locs 0 0 (MQ below (va_Qv (fun (_ : Unit) => True) (dk_B D (wMs cy hM aM sdM (M.1, dk_upA M.2 26 oM_26) ++ wRw cy pw 21 w) A) A) ([.ref hM, .ref pw, .int v2]).toArray s 0 0 A) (F0 m 33 ls []) := by
    intro fu33
    induction fu33 with
    | zero =>
      intro x3 M_26 H locs ls hP hD hS hl hf
      rw [fX6_layFar_L33] at hf
      cases hf
    | succ fu33 ih33 =>
      intro x3 M_26 H locs ls hP hD hS hl hf
      rw [fX6_layFar_L33] at hf
      have L44 : ∀ (fu44 : Nat) (x3 : Int32) (x4 : Int32) (M_26 : (Nat → Int32)) (H : Heap) (locs : List Loc) (ls : Array Slot), va_P D vwCl (wMs cy hM aM sdM (M.1, dk_upA M.2 26 M_26) ++ wRw cy pw 21 w) H → va_D A (wMs cy hM aM sdM (M.1, dk_upA M.2 26 M_26) ++ wRw cy pw 21 w) → va_S A s.heap H locs → lv_has ls 5 [(0, .ref hM), (1, .ref pw), (3, .int x3), (4, .int x4)] → fX6_layFar_L44 M w (fun z0 z1 => fX6_layFar_L33 M w fu33 z0 z1) fu44 x3 x4 M_26 = some oM_26 → W p l e (headSpec wsX6_layFar ({ frames := 0, cells := 0, slots := 0, locals := 0 })).room s m ([.ref hM, .ref pw, .int v2]).toArray below meth c H locs 0 0 (MQ below (va_Qv (fun (_ : Unit) => True) (dk_B D (wMs cy hM aM sdM (M.1, dk_upA M.2 26 oM_26) ++ wRw cy pw 21 w) A) A) ([.ref hM, .ref pw, .int v2]).toArray s 0 0 A) (F0 m 44 ls []) := by
        intro fu44
        induction fu44 with
        | zero =>
          intro x3 x4 M_26 H locs ls hP hD hS hl hf
          rw [fX6_layFar_L44] at hf
          cases hf
        | succ fu44 ih44 =>
          intro x3 x4 M_26 H locs ls hP hD hS hl hf
          rw [fX6_layFar_L44] at hf
          have L203 : ∀ (x3 : Int32) (x4 : Int32) (s1 : Int32) (s2 : Int32) (M_26 : (Nat → Int32)) (H : Heap) (locs : List Loc) (ls : Array Slot), va_P D vwCl (wMs cy hM aM sdM (M.1, dk_upA M.2 26 M_26) ++ wRw cy pw 21 w) H → va_D A (wMs cy hM aM sdM (M.1, dk_upA M.2 26 M_26) ++ wRw cy pw 21 w) → va_S A s.heap H locs → lv_has ls 5 [(0, .ref hM), (1, .ref pw), (3, .int x3), (4, .int x4)] → fX6_layFar_L203 M w (fun z0 z1 => fX6_layFar_L33 M w fu33 z0 z1) (fun z0 z1 z2 => fX6_layFar_L44 M w (fun z0 z1 => fX6_layFar_L33 M w fu33 z0 z1) fu44 z0 z1 z2) x3 x4 s1 s2 M_26 = some oM_26 → W p l e (headSpec wsX6_layFar ({ frames := 0, cells := 0, slots := 0, locals := 0 })).room s m ([.ref hM, .ref pw, .int v2]).toArray below meth c H locs 0 0 (MQ below (va_Qv (fun (_ : Unit) => True) (dk_B D (wMs cy hM aM sdM (M.1, dk_upA M.2 26 oM_26) ++ wRw cy pw 21 w) A) A) ([.ref hM, .ref pw, .int v2]).toArray s 0 0 A) (F0 m 203 ls [.int s2, .int s1, .ref (aM 26)]) := by
            intro x3 x4 s1 s2 M_26 H locs ls hP hD hS hl hf
            unfold fX6_layFar_L203 at hf
            refine dk_iast hx hb hK.1 hP hD hS 3 0 rfl rfl hf dX6_layFar_203 (fun f203 H locs hP hD hS hf => ?_)
            have hP : va_P D vwCl (wMs cy hM aM sdM (M.1, dk_upA M.2 26 f203) ++ wRw cy pw 21 w) H := hP
            have hD : va_D A (wMs cy hM aM sdM (M.1, dk_upA M.2 26 f203) ++ wRw cy pw 21 w) := hD
            refine lv_iinc (v := x4 + 1) (lv' := [(4, .int (x4 + 1)), (0, .ref hM), (1, .ref pw), (3, .int x3)]) hx hb dX6_layFar_204 hl (k := 3) rfl rfl (by decide) rfl (fun ls hl => ?_)
            refine lv_goto (tgt := 44) hx hb dX6_layFar_207 (by decide) ?_
            exact ih44 x3 (x4 + 1) f203 _ _ _ hP hD hS (lv_sub hl [1, 2, 3, 0] rfl) hf
          have L133 : ∀ (x3 : Int32) (x4 : Int32) (s1 : Int32) (s2 : Int32) (M_26 : (Nat → Int32)) (H : Heap) (locs : List Loc) (ls : Array Slot), va_P D vwCl (wMs cy hM aM sdM (M.1, dk_upA M.2 26 M_26) ++ wRw cy pw 21 w) H → va_D A (wMs cy hM aM sdM (M.1, dk_upA M.2 26 M_26) ++ wRw cy pw 21 w) → va_S A s.heap H locs → lv_has ls 5 [(0, .ref hM), (1, .ref pw), (3, .int x3), (4, .int x4)] → fX6_layFar_L133 M w (fun z0 z1 => fX6_layFar_L33 M w fu33 z0 z1) (fun z0 z1 z2 => fX6_layFar_L44 M w (fun z0 z1 => fX6_layFar_L33 M w fu33 z0 z1) fu44 z0 z1 z2) x3 x4 s1 s2 M_26 = some oM_26 → W p l e (headSpec wsX6_layFar ({ frames := 0, cells := 0, slots := 0, locals := 0 })).room s m ([.ref hM, .ref pw, .int v2]).toArray below meth c H locs 0 0 (MQ below (va_Qv (fun (_ : Unit) => True) (dk_B D (wMs cy hM aM sdM (M.1, dk_upA M.2 26 oM_26) ++ wRw cy pw 21 w) A) A) ([.ref hM, .ref pw, .int v2]).toArray s 0 0 A) (F0 m 133 ls [.int s2, .int s1, .ref (aM 26)]) := by
            intro x3 x4 s1 s2 M_26 H locs ls hP hD hS hl hf
            unfold fX6_layFar_L133 at hf
            refine dk_iast hx hb hK.1 hP hD hS 3 0 rfl rfl hf dX6_layFar_133 (fun f133 H locs hP hD hS hf => ?_)
            have hP : va_P D vwCl (wMs cy hM aM sdM (M.1, dk_upA M.2 26 f133) ++ wRw cy pw 21 w) H := hP
            have hD : va_D A (wMs cy hM aM sdM (M.1, dk_upA M.2 26 f133) ++ wRw cy pw 21 w) := hD
            refine lv_aload_n hx hb dX6_layFar_134 rfl (lv_at hl 0 rfl) ?_
            refine va_get (D := D) (ci := 6) (v := .ref (aM 26)) (C := RX6) (T := TX6) (N := 28) hx hb hts iX6_layFar_X6 hown hK.1 hP 0 rfl rfl 26 (by decide) (hts (.fieldLink RX6 51 "DarkPlaceModel" "far" "[I") (List.mem_of_getElem? (i := 1) rfl)) (fun _ h9 => h9) rfl dX6_layFar_135 ?_
            refine lv_aload_n hx hb dX6_layFar_138 rfl (lv_at hl 0 rfl) ?_
            refine va_get (D := D) (ci := 6) (v := .ref (aM 8)) (C := RX6) (T := TX6) (N := 28) hx hb hts iX6_layFar_X6 hown hK.1 hP 0 rfl rfl 8 (by decide) (hts (.fieldLink RX6 20 "DarkPlaceModel" "other" "[I") (List.mem_of_getElem? (i := 5) rfl)) (fun _ h9 => h9) rfl dX6_layFar_139 ?_
            refine lv_iload hx hb dX6_layFar_142 (lv_at hl 3 rfl) ?_
            refine dk_iald hx hb hK.1 hP 2 0 rfl rfl hf dX6_layFar_144 (fun d144 hf => ?_)
            refine lv_aload_n hx hb dX6_layFar_145 rfl (lv_at hl 0 rfl) ?_
            refine va_get (D := D) (ci := 6) (v := .ref (aM 26)) (C := RX6) (T := TX6) (N := 28) hx hb hts iX6_layFar_X6 hown hK.1 hP 0 rfl rfl 26 (by decide) (hts (.fieldLink RX6 51 "DarkPlaceModel" "far" "[I") (List.mem_of_getElem? (i := 1) rfl)) (fun _ h9 => h9) rfl dX6_layFar_146 ?_
            refine lv_aload_n hx hb dX6_layFar_149 rfl (lv_at hl 0 rfl) ?_
            refine va_get (D := D) (ci := 6) (v := .ref (aM 7)) (C := RX6) (T := TX6) (N := 28) hx hb hts iX6_layFar_X6 hown hK.1 hP 0 rfl rfl 7 (by decide) (hts (.fieldLink RX6 17 "DarkPlaceModel" "one" "[I") (List.mem_of_getElem? (i := 4) rfl)) (fun _ h9 => h9) rfl dX6_layFar_150 ?_
            refine lv_iload hx hb dX6_layFar_153 (lv_at hl 3 rfl) ?_
            refine dk_iald hx hb hK.1 hP 1 0 rfl rfl hf dX6_layFar_155 (fun d155 hf => ?_)
            refine dk_iald hx hb hK.1 hP 3 0 rfl rfl hf dX6_layFar_156 (fun d156 hf => ?_)
            refine lv_iconst (v := 1) hx hb dX6_layFar_157 (by decide) ?_
            refine lv_iadd hx hb dX6_layFar_158 ?_
            refine lv_aload_n hx hb dX6_layFar_159 rfl (lv_at hl 0 rfl) ?_
            refine va_get (D := D) (ci := 6) (v := .ref (aM 26)) (C := RX6) (T := TX6) (N := 28) hx hb hts iX6_layFar_X6 hown hK.1 hP 0 rfl rfl 26 (by decide) (hts (.fieldLink RX6 51 "DarkPlaceModel" "far" "[I") (List.mem_of_getElem? (i := 1) rfl)) (fun _ h9 => h9) rfl dX6_layFar_160 ?_
            refine lv_aload_n hx hb dX6_layFar_163 rfl (lv_at hl 0 rfl) ?_
            refine va_get (D := D) (ci := 6) (v := .ref (aM 8)) (C := RX6) (T := TX6) (N := 28) hx hb hts iX6_layFar_X6 hown hK.1 hP 0 rfl rfl 8 (by decide) (hts (.fieldLink RX6 20 "DarkPlaceModel" "other" "[I") (List.mem_of_getElem? (i := 5) rfl)) (fun _ h9 => h9) rfl dX6_layFar_164 ?_
            refine lv_iload hx hb dX6_layFar_167 (lv_at hl 3 rfl) ?_
            refine dk_iald hx hb hK.1 hP 2 0 rfl rfl hf dX6_layFar_169 (fun d169 hf => ?_)
            refine dk_iald hx hb hK.1 hP 3 0 rfl rfl hf dX6_layFar_170 (fun d170 hf => ?_)
            refine dk_cge (tgt := 191) hx hb dX6_layFar_171 (by decide) hf (fun hf => ?_) (fun hf => ?_)
            · refine lv_aload_n hx hb dX6_layFar_191 rfl (lv_at hl 0 rfl) ?_
              refine va_get (D := D) (ci := 6) (v := .ref (aM 26)) (C := RX6) (T := TX6) (N := 28) hx hb hts iX6_layFar_X6 hown hK.1 hP 0 rfl rfl 26 (by decide) (hts (.fieldLink RX6 51 "DarkPlaceModel" "far" "[I") (List.mem_of_getElem? (i := 1) rfl)) (fun _ h9 => h9) rfl dX6_layFar_192 ?_
              refine lv_aload_n hx hb dX6_layFar_195 rfl (lv_at hl 0 rfl) ?_
              refine va_get (D := D) (ci := 6) (v := .ref (aM 8)) (C := RX6) (T := TX6) (N := 28) hx hb hts iX6_layFar_X6 hown hK.1 hP 0 rfl rfl 8 (by decide) (hts (.fieldLink RX6 20 "DarkPlaceModel" "other" "[I") (List.mem_of_getElem? (i := 5) rfl)) (fun _ h9 => h9) rfl dX6_layFar_196 ?_
              refine lv_iload hx hb dX6_layFar_199 (lv_at hl 3 rfl) ?_
              refine dk_iald hx hb hK.1 hP 2 0 rfl rfl hf dX6_layFar_201 (fun d201 hf => ?_)
              refine dk_iald hx hb hK.1 hP 3 0 rfl rfl hf dX6_layFar_202 (fun d202 hf => ?_)
              exact L203 x3 x4 d144 d202 f133 _ _ _ hP hD hS (lv_sub hl [0, 1, 2, 3] rfl) hf
            · refine lv_aload_n hx hb dX6_layFar_174 rfl (lv_at hl 0 rfl) ?_
              refine va_get (D := D) (ci := 6) (v := .ref (aM 26)) (C := RX6) (T := TX6) (N := 28) hx hb hts iX6_layFar_X6 hown hK.1 hP 0 rfl rfl 26 (by decide) (hts (.fieldLink RX6 51 "DarkPlaceModel" "far" "[I") (List.mem_of_getElem? (i := 1) rfl)) (fun _ h9 => h9) rfl dX6_layFar_175 ?_
              refine lv_aload_n hx hb dX6_layFar_178 rfl (lv_at hl 0 rfl) ?_
              refine va_get (D := D) (ci := 6) (v := .ref (aM 7)) (C := RX6) (T := TX6) (N := 28) hx hb hts iX6_layFar_X6 hown hK.1 hP 0 rfl rfl 7 (by decide) (hts (.fieldLink RX6 17 "DarkPlaceModel" "one" "[I") (List.mem_of_getElem? (i := 4) rfl)) (fun _ h9 => h9) rfl dX6_layFar_179 ?_
              refine lv_iload hx hb dX6_layFar_182 (lv_at hl 3 rfl) ?_
              refine dk_iald hx hb hK.1 hP 1 0 rfl rfl hf dX6_layFar_184 (fun d184 hf => ?_)
              refine dk_iald hx hb hK.1 hP 3 0 rfl rfl hf dX6_layFar_185 (fun d185 hf => ?_)
              refine lv_iconst (v := 1) hx hb dX6_layFar_186 (by decide) ?_
              refine lv_iadd hx hb dX6_layFar_187 ?_
              refine lv_goto (tgt := 203) hx hb dX6_layFar_188 (by decide) ?_
              exact L203 x3 x4 d144 (d185 + 1) f133 _ _ _ hP hD hS (lv_sub hl [0, 1, 2, 3] rfl) hf
          refine lv_iload hx hb dX6_layFar_44 (lv_at hl 3 rfl) ?_
          refine lv_aload_n hx hb dX6_layFar_46 rfl (lv_at hl 0 rfl) ?_
          refine va_get (D := D) (ci := 6) (v := .int (M.1 6)) (C := RX6) (T := TX6) (N := 28) hx hb hts iX6_layFar_X6 hown hK.1 hP 0 rfl rfl 6 (by decide) (hts (.fieldLink RX6 71 "DarkPlaceModel" "edges" "I") (List.mem_of_getElem? (i := 3) rfl)) (fun _ h9 => h9) rfl dX6_layFar_47 ?_
          refine dk_cge (tgt := 210) hx hb dX6_layFar_50 (by decide) hf (fun hf => ?_) (fun hf => ?_)
          · refine lv_iinc (v := x3 + 1) (lv' := [(3, .int (x3 + 1)), (0, .ref hM), (1, .ref pw), (4, .int x4)]) hx hb dX6_layFar_210 hl (k := 2) rfl rfl (by decide) rfl (fun ls hl => ?_)
            refine lv_goto (tgt := 33) hx hb dX6_layFar_213 (by decide) ?_
            exact ih33 (x3 + 1) M_26 _ _ _ hP hD hS (lv_sub hl [1, 2, 0] rfl) hf
          · refine lv_aload_n hx hb dX6_layFar_53 rfl (lv_at hl 1 rfl) ?_
            refine lv_bipush (v := 11) hx hb dX6_layFar_54 (by decide) ?_
            refine lv_iload hx hb dX6_layFar_56 (lv_at hl 3 rfl) ?_
            refine lv_iadd hx hb dX6_layFar_58 ?_
            refine dk_iald hx hb hK.1 hP 4 0 rfl rfl hf dX6_layFar_59 (fun d59 hf => ?_)
            refine lv_iconst (v := 2) hx hb dX6_layFar_60 (by decide) ?_
            refine dk_cne (tgt := 204) hx hb dX6_layFar_61 (by decide) hf (fun hf => ?_) (fun hf => ?_)
            · refine lv_iinc (v := x4 + 1) (lv' := [(4, .int (x4 + 1)), (0, .ref hM), (1, .ref pw), (3, .int x3)]) hx hb dX6_layFar_204 hl (k := 3) rfl rfl (by decide) rfl (fun ls hl => ?_)
              refine lv_goto (tgt := 44) hx hb dX6_layFar_207 (by decide) ?_
              exact ih44 x3 (x4 + 1) M_26 _ _ _ hP hD hS (lv_sub hl [1, 2, 3, 0] rfl) hf
            · refine lv_aload_n hx hb dX6_layFar_64 rfl (lv_at hl 0 rfl) ?_
              refine va_get (D := D) (ci := 6) (v := .ref (aM 26)) (C := RX6) (T := TX6) (N := 28) hx hb hts iX6_layFar_X6 hown hK.1 hP 0 rfl rfl 26 (by decide) (hts (.fieldLink RX6 51 "DarkPlaceModel" "far" "[I") (List.mem_of_getElem? (i := 1) rfl)) (fun _ h9 => h9) rfl dX6_layFar_65 ?_
              refine lv_aload_n hx hb dX6_layFar_68 rfl (lv_at hl 0 rfl) ?_
              refine va_get (D := D) (ci := 6) (v := .ref (aM 7)) (C := RX6) (T := TX6) (N := 28) hx hb hts iX6_layFar_X6 hown hK.1 hP 0 rfl rfl 7 (by decide) (hts (.fieldLink RX6 17 "DarkPlaceModel" "one" "[I") (List.mem_of_getElem? (i := 4) rfl)) (fun _ h9 => h9) rfl dX6_layFar_69 ?_
              refine lv_iload hx hb dX6_layFar_72 (lv_at hl 3 rfl) ?_
              refine dk_iald hx hb hK.1 hP 1 0 rfl rfl hf dX6_layFar_74 (fun d74 hf => ?_)
              refine lv_aload_n hx hb dX6_layFar_75 rfl (lv_at hl 0 rfl) ?_
              refine va_get (D := D) (ci := 6) (v := .ref (aM 26)) (C := RX6) (T := TX6) (N := 28) hx hb hts iX6_layFar_X6 hown hK.1 hP 0 rfl rfl 26 (by decide) (hts (.fieldLink RX6 51 "DarkPlaceModel" "far" "[I") (List.mem_of_getElem? (i := 1) rfl)) (fun _ h9 => h9) rfl dX6_layFar_76 ?_
              refine lv_aload_n hx hb dX6_layFar_79 rfl (lv_at hl 0 rfl) ?_
              refine va_get (D := D) (ci := 6) (v := .ref (aM 8)) (C := RX6) (T := TX6) (N := 28) hx hb hts iX6_layFar_X6 hown hK.1 hP 0 rfl rfl 8 (by decide) (hts (.fieldLink RX6 20 "DarkPlaceModel" "other" "[I") (List.mem_of_getElem? (i := 5) rfl)) (fun _ h9 => h9) rfl dX6_layFar_80 ?_
              refine lv_iload hx hb dX6_layFar_83 (lv_at hl 3 rfl) ?_
              refine dk_iald hx hb hK.1 hP 2 0 rfl rfl hf dX6_layFar_85 (fun d85 hf => ?_)
              refine dk_iald hx hb hK.1 hP 3 0 rfl rfl hf dX6_layFar_86 (fun d86 hf => ?_)
              refine lv_iconst (v := 1) hx hb dX6_layFar_87 (by decide) ?_
              refine lv_iadd hx hb dX6_layFar_88 ?_
              refine lv_aload_n hx hb dX6_layFar_89 rfl (lv_at hl 0 rfl) ?_
              refine va_get (D := D) (ci := 6) (v := .ref (aM 26)) (C := RX6) (T := TX6) (N := 28) hx hb hts iX6_layFar_X6 hown hK.1 hP 0 rfl rfl 26 (by decide) (hts (.fieldLink RX6 51 "DarkPlaceModel" "far" "[I") (List.mem_of_getElem? (i := 1) rfl)) (fun _ h9 => h9) rfl dX6_layFar_90 ?_
              refine lv_aload_n hx hb dX6_layFar_93 rfl (lv_at hl 0 rfl) ?_
              refine va_get (D := D) (ci := 6) (v := .ref (aM 7)) (C := RX6) (T := TX6) (N := 28) hx hb hts iX6_layFar_X6 hown hK.1 hP 0 rfl rfl 7 (by decide) (hts (.fieldLink RX6 17 "DarkPlaceModel" "one" "[I") (List.mem_of_getElem? (i := 4) rfl)) (fun _ h9 => h9) rfl dX6_layFar_94 ?_
              refine lv_iload hx hb dX6_layFar_97 (lv_at hl 3 rfl) ?_
              refine dk_iald hx hb hK.1 hP 1 0 rfl rfl hf dX6_layFar_99 (fun d99 hf => ?_)
              refine dk_iald hx hb hK.1 hP 3 0 rfl rfl hf dX6_layFar_100 (fun d100 hf => ?_)
              refine dk_cge (tgt := 121) hx hb dX6_layFar_101 (by decide) hf (fun hf => ?_) (fun hf => ?_)
              · refine lv_aload_n hx hb dX6_layFar_121 rfl (lv_at hl 0 rfl) ?_
                refine va_get (D := D) (ci := 6) (v := .ref (aM 26)) (C := RX6) (T := TX6) (N := 28) hx hb hts iX6_layFar_X6 hown hK.1 hP 0 rfl rfl 26 (by decide) (hts (.fieldLink RX6 51 "DarkPlaceModel" "far" "[I") (List.mem_of_getElem? (i := 1) rfl)) (fun _ h9 => h9) rfl dX6_layFar_122 ?_
                refine lv_aload_n hx hb dX6_layFar_125 rfl (lv_at hl 0 rfl) ?_
                refine va_get (D := D) (ci := 6) (v := .ref (aM 7)) (C := RX6) (T := TX6) (N := 28) hx hb hts iX6_layFar_X6 hown hK.1 hP 0 rfl rfl 7 (by decide) (hts (.fieldLink RX6 17 "DarkPlaceModel" "one" "[I") (List.mem_of_getElem? (i := 4) rfl)) (fun _ h9 => h9) rfl dX6_layFar_126 ?_
                refine lv_iload hx hb dX6_layFar_129 (lv_at hl 3 rfl) ?_
                refine dk_iald hx hb hK.1 hP 1 0 rfl rfl hf dX6_layFar_131 (fun d131 hf => ?_)
                refine dk_iald hx hb hK.1 hP 3 0 rfl rfl hf dX6_layFar_132 (fun d132 hf => ?_)
                exact L133 x3 x4 d74 d132 M_26 _ _ _ hP hD hS (lv_sub hl [0, 1, 2, 3] rfl) hf
              · refine lv_aload_n hx hb dX6_layFar_104 rfl (lv_at hl 0 rfl) ?_
                refine va_get (D := D) (ci := 6) (v := .ref (aM 26)) (C := RX6) (T := TX6) (N := 28) hx hb hts iX6_layFar_X6 hown hK.1 hP 0 rfl rfl 26 (by decide) (hts (.fieldLink RX6 51 "DarkPlaceModel" "far" "[I") (List.mem_of_getElem? (i := 1) rfl)) (fun _ h9 => h9) rfl dX6_layFar_105 ?_
                refine lv_aload_n hx hb dX6_layFar_108 rfl (lv_at hl 0 rfl) ?_
                refine va_get (D := D) (ci := 6) (v := .ref (aM 8)) (C := RX6) (T := TX6) (N := 28) hx hb hts iX6_layFar_X6 hown hK.1 hP 0 rfl rfl 8 (by decide) (hts (.fieldLink RX6 20 "DarkPlaceModel" "other" "[I") (List.mem_of_getElem? (i := 5) rfl)) (fun _ h9 => h9) rfl dX6_layFar_109 ?_
                refine lv_iload hx hb dX6_layFar_112 (lv_at hl 3 rfl) ?_
                refine dk_iald hx hb hK.1 hP 2 0 rfl rfl hf dX6_layFar_114 (fun d114 hf => ?_)
                refine dk_iald hx hb hK.1 hP 3 0 rfl rfl hf dX6_layFar_115 (fun d115 hf => ?_)
                refine lv_iconst (v := 1) hx hb dX6_layFar_116 (by decide) ?_
                refine lv_iadd hx hb dX6_layFar_117 ?_
                refine lv_goto (tgt := 133) hx hb dX6_layFar_118 (by decide) ?_
                exact L133 x3 x4 d74 (d115 + 1) M_26 _ _ _ hP hD hS (lv_sub hl [0, 1, 2, 3] rfl) hf
      refine lv_iload_n hx hb dX6_layFar_33 rfl (lv_at hl 2 rfl) ?_
      refine lv_aload_n hx hb dX6_layFar_34 rfl (lv_at hl 0 rfl) ?_
      refine va_get (D := D) (ci := 6) (v := .int (M.1 4)) (C := RX6) (T := TX6) (N := 28) hx hb hts iX6_layFar_X6 hown hK.1 hP 0 rfl rfl 4 (by decide) (hts (.fieldLink RX6 13 "DarkPlaceModel" "places" "I") (List.mem_of_getElem? (i := 2) rfl)) (fun _ h9 => h9) rfl dX6_layFar_35 ?_
      refine dk_cge (tgt := 216) hx hb dX6_layFar_38 (by decide) hf (fun hf => ?_) (fun hf => ?_)
      · have e0 := Option.some.inj hf
        subst e0
        exact W.vret hx hb hr (fun t ht hW => ⟨⟨(), rfl, trivial, by rw [ht]; exact hP, hD⟩, hS.F ht⟩) hS.2.2 dX6_layFar_216
      · refine lv_iconst (v := 0) hx hb dX6_layFar_41 (by decide) ?_
        refine lv_istore (lv' := [(4, .int 0), (0, .ref hM), (1, .ref pw), (3, .int x3)]) hx hb dX6_layFar_42 hl (by decide) rfl (fun ls hl => ?_)
        exact L44 1000 x3 0 M_26 _ _ _ hP hD hS (lv_sub hl [1, 2, 3, 0] rfl) hf
  have L2 : ∀ (fu2 : Nat) (x2 : Int32) (x3 : Int32) (M_26 : (Nat → Int32)) (H : Heap) (locs : List Loc) (ls : Array Slot), va_P D vwCl (wMs cy hM aM sdM (M.1, dk_upA M.2 26 M_26) ++ wRw cy pw 21 w) H → va_D A (wMs cy hM aM sdM (M.1, dk_upA M.2 26 M_26) ++ wRw cy pw 21 w) → va_S A s.heap H locs → lv_has ls 5 [(0, .ref hM), (1, .ref pw), (2, .int x2), (3, .int x3)] → fX6_layFar_L2 M w fu2 x2 x3 M_26 = some oM_26 → W p l e (headSpec wsX6_layFar ({ frames := 0, cells := 0, slots := 0, locals := 0 })).room s m ([.ref hM, .ref pw, .int v2]).toArray below meth c H locs 0 0 (MQ below (va_Qv (fun (_ : Unit) => True) (dk_B D (wMs cy hM aM sdM (M.1, dk_upA M.2 26 oM_26) ++ wRw cy pw 21 w) A) A) ([.ref hM, .ref pw, .int v2]).toArray s 0 0 A) (F0 m 2 ls []) := by
    intro fu2
    induction fu2 with
    | zero =>
      intro x2 x3 M_26 H locs ls hP hD hS hl hf
      rw [fX6_layFar_L2] at hf
      cases hf
    | succ fu2 ih2 =>
      intro x2 x3 M_26 H locs ls hP hD hS hl hf
      rw [fX6_layFar_L2] at hf
      have L24 : ∀ (x2 : Int32) (x3 : Int32) (s1 : Int32) (s2 : Int32) (M_26 : (Nat → Int32)) (H : Heap) (locs : List Loc) (ls : Array Slot), va_P D vwCl (wMs cy hM aM sdM (M.1, dk_upA M.2 26 M_26) ++ wRw cy pw 21 w) H → va_D A (wMs cy hM aM sdM (M.1, dk_upA M.2 26 M_26) ++ wRw cy pw 21 w) → va_S A s.heap H locs → lv_has ls 5 [(0, .ref hM), (1, .ref pw), (2, .int x2), (3, .int x3)] → fX6_layFar_L24 M w (fun z0 z1 z2 => fX6_layFar_L2 M w fu2 z0 z1 z2) x2 x3 s1 s2 M_26 = some oM_26 → W p l e (headSpec wsX6_layFar ({ frames := 0, cells := 0, slots := 0, locals := 0 })).room s m ([.ref hM, .ref pw, .int v2]).toArray below meth c H locs 0 0 (MQ below (va_Qv (fun (_ : Unit) => True) (dk_B D (wMs cy hM aM sdM (M.1, dk_upA M.2 26 oM_26) ++ wRw cy pw 21 w) A) A) ([.ref hM, .ref pw, .int v2]).toArray s 0 0 A) (F0 m 24 ls [.int s2, .int s1, .ref (aM 26)]) := by
        intro x2 x3 s1 s2 M_26 H locs ls hP hD hS hl hf
        unfold fX6_layFar_L24 at hf
        refine dk_iast hx hb hK.1 hP hD hS 3 0 rfl rfl hf dX6_layFar_24 (fun f24 H locs hP hD hS hf => ?_)
        have hP : va_P D vwCl (wMs cy hM aM sdM (M.1, dk_upA M.2 26 f24) ++ wRw cy pw 21 w) H := hP
        have hD : va_D A (wMs cy hM aM sdM (M.1, dk_upA M.2 26 f24) ++ wRw cy pw 21 w) := hD
        refine lv_iinc (v := x3 + 1) (lv' := [(3, .int (x3 + 1)), (0, .ref hM), (1, .ref pw), (2, .int x2)]) hx hb dX6_layFar_25 hl (k := 3) rfl rfl (by decide) rfl (fun ls hl => ?_)
        refine lv_goto (tgt := 2) hx hb dX6_layFar_28 (by decide) ?_
        exact ih2 x2 (x3 + 1) f24 _ _ _ hP hD hS (lv_sub hl [1, 2, 3, 0] rfl) hf
      refine lv_iload_n hx hb dX6_layFar_2 rfl (lv_at hl 3 rfl) ?_
      refine lv_bipush (v := 8) hx hb dX6_layFar_3 (by decide) ?_
      refine dk_cge (tgt := 31) hx hb dX6_layFar_5 (by decide) hf (fun hf => ?_) (fun hf => ?_)
      · refine lv_iconst (v := 0) hx hb dX6_layFar_31 (by decide) ?_
        refine lv_istore_n (lv' := [(3, .int 0), (0, .ref hM), (1, .ref pw), (2, .int x2)]) hx hb dX6_layFar_32 rfl hl (by decide) rfl (fun ls hl => ?_)
        exact L33 1000 0 M_26 _ _ _ hP hD hS (lv_sub hl [1, 2, 0] rfl) hf
      · refine lv_aload_n hx hb dX6_layFar_8 rfl (lv_at hl 0 rfl) ?_
        refine va_get (D := D) (ci := 6) (v := .ref (aM 26)) (C := RX6) (T := TX6) (N := 28) hx hb hts iX6_layFar_X6 hown hK.1 hP 0 rfl rfl 26 (by decide) (hts (.fieldLink RX6 51 "DarkPlaceModel" "far" "[I") (List.mem_of_getElem? (i := 1) rfl)) (fun _ h9 => h9) rfl dX6_layFar_9 ?_
        refine lv_iload_n hx hb dX6_layFar_12 rfl (lv_at hl 3 rfl) ?_
        refine lv_iload_n hx hb dX6_layFar_13 rfl (lv_at hl 3 rfl) ?_
        refine lv_iload_n hx hb dX6_layFar_14 rfl (lv_at hl 2 rfl) ?_
        refine dk_cne (tgt := 22) hx hb dX6_layFar_15 (by decide) hf (fun hf => ?_) (fun hf => ?_)
        · refine lv_bipush (v := 99) hx hb dX6_layFar_22 (by decide) ?_
          exact L24 x2 x3 x3 99 M_26 _ _ _ hP hD hS (lv_sub hl [0, 1, 2, 3] rfl) hf
        · refine lv_iconst (v := 0) hx hb dX6_layFar_18 (by decide) ?_
          refine lv_goto (tgt := 24) hx hb dX6_layFar_19 (by decide) ?_
          exact L24 x2 x3 x3 0 M_26 _ _ _ hP hD hS (lv_sub hl [0, 1, 2, 3] rfl) hf
  unfold fX6_layFar at hf
  refine lv_iconst (v := 0) hx hb dX6_layFar_0 (by decide) ?_
  refine lv_istore_n (lv' := [(3, .int 0), (0, .ref hM), (1, .ref pw), (2, .int v2)]) hx hb dX6_layFar_1 rfl hl (by decide) rfl (fun ls hl => ?_)
  exact L2 1000 v2 0 (M.2 26) _ _ _ hP hD hS (lv_sub hl [1, 2, 3, 0] rfl) hf
theorem iX6_towards_X6 : ∀ w ∈ wsX60, w ∈ wsX6_towards := fun _ h => List.mem_cons_of_mem _ (List.mem_append_right _ h)
set_option maxHeartbeats 4000000 in
set_option maxRecDepth 100000 in
theorem kX6_towards (l : Launch) (D : va_G) (cy : Nat → ClassId) (hM : Nat) (aM : Nat → Nat) (sdM : Int64) (pw : Nat) (sz : Nat) (M : dk_O) (w : Nat → Int32) (v2 : Int32) (r : Int32) (oM_26 : (Nat → Int32)) (hf : fX6_towards M w v2 = some (r, oM_26)) : dk_MuI l yX6_towards wsX6_towards ({ frames := 2, cells := 0, slots := 0, locals := 45 }) D cy [.ref hM, .ref pw, .int v2] (wMs cy hM aM sdM M ++ wRw cy pw 21 w) (wMs cy hM aM sdM (M.1, dk_upA M.2 26 oM_26) ++ wRw cy pw 21 w) sz r := by
  refine Met.ofW (cc := cX6_towards) (maxL := 6) (ret := (some .int)) (by decide) rfl ?_
  intro p e s m args below meth c s₁ B hml hv
  obtain ⟨rfl, hsz, hP, hK, hD0⟩ := hv
  have hx := B.exec
  have hb := B.bytes
  have hr := B.returns
  have hts := atoms_spec (ws := wsX6_towards) B.pre
  have hown : s.vm.findClass RX6 = some m.cls := findClass_of_methodNamed B.named
  have hlocks := B.notSynchronized
  subst hsz
  have hD := hD0.self (sz := s.heap.size)
  generalize hAe : va_A (wMs cy hM aM sdM M ++ wRw cy pw 21 w) s.heap.size = A at hD ⊢
  have hA : ∀ q : Nat, s.heap.size ≤ q → A q := fun q h => by rw [← hAe]; exact Or.inr h
  have hS : va_S A s.heap s.heap [] := va_S.rf
  have hl := lv_entry ([.ref hM, .ref pw, .int v2]) (n := 6) (Nat.le_of_ble_eq_true rfl)
  rw [lg_entry_eq]
  generalize (lg_sl ([.ref hM, .ref pw, .int v2]) ++ List.replicate (6 - (lg_sl ([.ref hM, .ref pw, .int v2])).length) Slot.unset).toArray = ls at hl ⊢
  have hl : lv_has ls 6 [(0, .ref hM), (1, .ref pw), (2, .int v2)] := hl
  have L110 : ∀ (fu110 : Nat) (x2 : Int32) (x4 : Int32) (M_26 : (Nat → Int32)) (H : Heap) (locs : List Loc) (ls : Array Slot), va_P D vwCl (wMs cy hM aM sdM (M.1, dk_upA M.2 26 M_26) ++ wRw cy pw 21 w) H → va_D A (wMs cy hM aM sdM (M.1, dk_upA M.2 26 M_26) ++ wRw cy pw 21 w) → va_S A s.heap H locs → lv_has ls 6 [(0, .ref hM), (1, .ref pw), (2, .int x2), (4, .int x4)] → fX6_towards_L110 M w fu110 x2 x4 M_26 = some (r, oM_26) → W p l e (headSpec wsX6_towards ({ frames := 2, cells := 0, slots := 0, locals := 45 })).room s m ([.ref hM, .ref pw, .int v2]).toArray below meth c H locs 0 0 (MQ below (va_Qi (fun (x : Int32) (_ : Unit) => x = r) (dk_B D (wMs cy hM aM sdM (M.1, dk_upA M.2 26 oM_26) ++ wRw cy pw 21 w) A) A) ([.ref hM, .ref pw, .int v2]).toArray s 0 0 A) (F0 m 110 ls []) := by
    intro fu110
    induction fu110 with
    | zero =>
      intro x2 x4 M_26 H locs ls hP hD hS hl hf
      rw [fX6_towards_L110] at hf
      cases hf
    | succ fu110 ih110 =>
      intro x2 x4 M_26 H locs ls hP hD hS hl hf
      rw [fX6_towards_L110] at hf
      refine lv_iload hx hb dX6_towards_110 (lv_at hl 3 rfl) ?_
      refine lv_aload_n hx hb dX6_towards_112 rfl (lv_at hl 0 rfl) ?_
      refine va_get (D := D) (ci := 6) (v := .int (M.1 6)) (C := RX6) (T := TX6) (N := 28) hx hb hts iX6_towards_X6 hown hK.1 hP 0 rfl rfl 6 (by decide) (hts (.fieldLink RX6 71 "DarkPlaceModel" "edges" "I") (List.mem_of_getElem? (i := 3) rfl)) (fun _ h9 => h9) rfl dX6_towards_113 ?_
      refine dk_cge (tgt := 170) hx hb dX6_towards_116 (by decide) hf (fun hf => ?_) (fun hf => ?_)
      · refine lv_bipush (v := (-9)) hx hb dX6_towards_170 (by decide) ?_
        have e := Option.some.inj hf
        simp only [Prod.mk.injEq] at e
        obtain ⟨e0, e1⟩ := e
        subst e1
        exact W.iret (v := (-9)) hx hb hr (fun t ht hW => ⟨⟨(-9), (), rfl, e0, by rw [ht]; exact hP, hD⟩, hS.F ht⟩) hS.2.2 dX6_towards_172
      · refine lv_aload_n hx hb dX6_towards_119 rfl (lv_at hl 1 rfl) ?_
        refine lv_bipush (v := 11) hx hb dX6_towards_120 (by decide) ?_
        refine lv_iload hx hb dX6_towards_122 (lv_at hl 3 rfl) ?_
        refine lv_iadd hx hb dX6_towards_124 ?_
        refine dk_iald hx hb hK.1 hP 4 0 rfl rfl hf dX6_towards_125 (fun d125 hf => ?_)
        refine lv_iconst (v := 2) hx hb dX6_towards_126 (by decide) ?_
        refine dk_cne (tgt := 164) hx hb dX6_towards_127 (by decide) hf (fun hf => ?_) (fun hf => ?_)
        · refine lv_iinc (v := x4 + 1) (lv' := [(4, .int (x4 + 1)), (0, .ref hM), (1, .ref pw), (2, .int x2)]) hx hb dX6_towards_164 hl (k := 3) rfl rfl (by decide) rfl (fun ls hl => ?_)
          refine lv_goto (tgt := 110) hx hb dX6_towards_167 (by decide) ?_
          exact ih110 x2 (x4 + 1) M_26 _ _ _ hP hD hS (lv_sub hl [1, 2, 3, 0] rfl) hf
        · refine lv_aload_n hx hb dX6_towards_130 rfl (lv_at hl 0 rfl) ?_
          refine lv_iload hx hb dX6_towards_131 (lv_at hl 3 rfl) ?_
          refine lv_iload_n hx hb dX6_towards_133 rfl (lv_at hl 2 rfl) ?_
          obtain ⟨r134, k134, hf⟩ := dk_bind hf
          refine dk_ri (va_runV (As := [.int x4, .int x2]) (rest := []) ⟨hx, hb, hml, hown, hts⟩ (kX6_ends l D cy hM aM sdM (M.1, dk_upA M.2 26 M_26) x4 x2 r134 k134) (cwV 2 hts gX6_towards_X6_ends rfl rfl rfl (by decide +kernel) ⟨Nat.le_of_ble_eq_true rfl, Nat.le_of_ble_eq_true rfl⟩) (dk_preV hK (hP.sub (ws' := wMs cy hM aM sdM (M.1, dk_upA M.2 26 M_26)) [0, 1, 2, 3] rfl) (ci := 6) (q0 := 0) rfl rfl) rfl rfl hl.1 rfl (lv_room (Nat.le_of_ble_eq_true rfl)) dX6_towards_134 ⟨Nat.zero_le _, Nat.zero_le _⟩) ?_
          refine dk_ieq (tgt := 164) hx hb dX6_towards_137 (by decide) hf (fun hf => ?_) (fun hf => ?_)
          · refine lv_iinc (v := x4 + 1) (lv' := [(4, .int (x4 + 1)), (0, .ref hM), (1, .ref pw), (2, .int x2)]) hx hb dX6_towards_164 hl (k := 3) rfl rfl (by decide) rfl (fun ls hl => ?_)
            refine lv_goto (tgt := 110) hx hb dX6_towards_167 (by decide) ?_
            exact ih110 x2 (x4 + 1) M_26 _ _ _ hP hD hS (lv_sub hl [1, 2, 3, 0] rfl) hf
          · refine lv_aload_n hx hb dX6_towards_140 rfl (lv_at hl 0 rfl) ?_
            refine va_get (D := D) (ci := 6) (v := .ref (aM 26)) (C := RX6) (T := TX6) (N := 28) hx hb hts iX6_towards_X6 hown hK.1 hP 0 rfl rfl 26 (by decide) (hts (.fieldLink RX6 51 "DarkPlaceModel" "far" "[I") (List.mem_of_getElem? (i := 2) rfl)) (fun _ h9 => h9) rfl dX6_towards_141 ?_
            refine lv_aload_n hx hb dX6_towards_144 rfl (lv_at hl 0 rfl) ?_
            refine lv_iload hx hb dX6_towards_145 (lv_at hl 3 rfl) ?_
            refine lv_iload_n hx hb dX6_towards_147 rfl (lv_at hl 2 rfl) ?_
            obtain ⟨r148, k148, hf⟩ := dk_bind hf
            refine dk_ri (va_runV (As := [.int x4, .int x2]) (rest := [.ref (aM 26)]) ⟨hx, hb, hml, hown, hts⟩ (kX6_beyond l D cy hM aM sdM (M.1, dk_upA M.2 26 M_26) x4 x2 r148 k148) (cwV 2 hts gX6_towards_X6_beyond rfl rfl rfl (by decide +kernel) ⟨Nat.le_of_ble_eq_true rfl, Nat.le_of_ble_eq_true rfl⟩) (dk_preV hK (hP.sub (ws' := wMs cy hM aM sdM (M.1, dk_upA M.2 26 M_26)) [0, 1, 2, 3] rfl) (ci := 6) (q0 := 0) rfl rfl) rfl rfl hl.1 rfl (lv_room (Nat.le_of_ble_eq_true rfl)) dX6_towards_148 ⟨Nat.zero_le _, Nat.zero_le _⟩) ?_
            refine dk_iald hx hb hK.1 hP 3 0 rfl rfl hf dX6_towards_151 (fun d151 hf => ?_)
            refine lv_aload_n hx hb dX6_towards_152 rfl (lv_at hl 0 rfl) ?_
            refine va_get (D := D) (ci := 6) (v := .ref (aM 26)) (C := RX6) (T := TX6) (N := 28) hx hb hts iX6_towards_X6 hown hK.1 hP 0 rfl rfl 26 (by decide) (hts (.fieldLink RX6 51 "DarkPlaceModel" "far" "[I") (List.mem_of_getElem? (i := 2) rfl)) (fun _ h9 => h9) rfl dX6_towards_153 ?_
            refine lv_iload_n hx hb dX6_towards_156 rfl (lv_at hl 2 rfl) ?_
            refine dk_iald hx hb hK.1 hP 3 0 rfl rfl hf dX6_towards_157 (fun d157 hf => ?_)
            refine dk_cge (tgt := 164) hx hb dX6_towards_158 (by decide) hf (fun hf => ?_) (fun hf => ?_)
            · refine lv_iinc (v := x4 + 1) (lv' := [(4, .int (x4 + 1)), (0, .ref hM), (1, .ref pw), (2, .int x2)]) hx hb dX6_towards_164 hl (k := 3) rfl rfl (by decide) rfl (fun ls hl => ?_)
              refine lv_goto (tgt := 110) hx hb dX6_towards_167 (by decide) ?_
              exact ih110 x2 (x4 + 1) M_26 _ _ _ hP hD hS (lv_sub hl [1, 2, 3, 0] rfl) hf
            · refine lv_iload hx hb dX6_towards_161 (lv_at hl 3 rfl) ?_
              have e := Option.some.inj hf
              simp only [Prod.mk.injEq] at e
              obtain ⟨e0, e1⟩ := e
              subst e1
              exact W.iret (v := x4) hx hb hr (fun t ht hW => ⟨⟨x4, (), rfl, e0, by rw [ht]; exact hP, hD⟩, hS.F ht⟩) hS.2.2 dX6_towards_163
  have L12 : ∀ (fu12 : Nat) (x2 : Int32) (x3 : Int32) (x4 : Int32) (M_26 : (Nat → Int32)) (H : Heap) (locs : List Loc) (ls : Array Slot), va_P D vwCl (wMs cy hM aM sdM (M.1, dk_upA M.2 26 M_26) ++ wRw cy pw 21 w) H → va_D A (wMs cy hM aM sdM (M.1, dk_upA M.2 26 M_26) ++ wRw cy pw 21 w) → va_S A s.heap H locs → lv_has ls 6 [(0, .ref hM), (1, .ref pw), (2, .int x2), (3, .int x3), (4, .int x4)] → fX6_towards_L12 M w fu12 x2 x3 x4 M_26 = some (r, oM_26) → W p l e (headSpec wsX6_towards ({ frames := 2, cells := 0, slots := 0, locals := 45 })).room s m ([.ref hM, .ref pw, .int v2]).toArray below meth c H locs 0 0 (MQ below (va_Qi (fun (x : Int32) (_ : Unit) => x = r) (dk_B D (wMs cy hM aM sdM (M.1, dk_upA M.2 26 oM_26) ++ wRw cy pw 21 w) A) A) ([.ref hM, .ref pw, .int v2]).toArray s 0 0 A) (F0 m 12 ls []) := by
    intro fu12
    induction fu12 with
    | zero =>
      intro x2 x3 x4 M_26 H locs ls hP hD hS hl hf
      rw [fX6_towards_L12] at hf
      cases hf
    | succ fu12 ih12 =>
      intro x2 x3 x4 M_26 H locs ls hP hD hS hl hf
      rw [fX6_towards_L12] at hf
      have L50 : ∀ (x2 : Int32) (x3 : Int32) (x4 : Int32) (s0 : Int32) (M_26 : (Nat → Int32)) (H : Heap) (locs : List Loc) (ls : Array Slot), va_P D vwCl (wMs cy hM aM sdM (M.1, dk_upA M.2 26 M_26) ++ wRw cy pw 21 w) H → va_D A (wMs cy hM aM sdM (M.1, dk_upA M.2 26 M_26) ++ wRw cy pw 21 w) → va_S A s.heap H locs → lv_has ls 6 [(0, .ref hM), (1, .ref pw), (2, .int x2), (3, .int x3), (4, .int x4)] → fX6_towards_L50 M w (fun z0 z1 z2 z3 => fX6_towards_L12 M w fu12 z0 z1 z2 z3) x2 x3 x4 s0 M_26 = some (r, oM_26) → W p l e (headSpec wsX6_towards ({ frames := 2, cells := 0, slots := 0, locals := 45 })).room s m ([.ref hM, .ref pw, .int v2]).toArray below meth c H locs 0 0 (MQ below (va_Qi (fun (x : Int32) (_ : Unit) => x = r) (dk_B D (wMs cy hM aM sdM (M.1, dk_upA M.2 26 oM_26) ++ wRw cy pw 21 w) A) A) ([.ref hM, .ref pw, .int v2]).toArray s 0 0 A) (F0 m 50 ls [.int s0]) := by
        intro x2 x3 x4 s0 M_26 H locs ls hP hD hS hl hf
        unfold fX6_towards_L50 at hf
        refine lv_istore (lv' := [(5, .int s0), (0, .ref hM), (1, .ref pw), (2, .int x2), (3, .int x3), (4, .int x4)]) hx hb dX6_towards_50 hl (by decide) rfl (fun ls hl => ?_)
        refine lv_iload hx hb dX6_towards_52 (lv_at hl 0 rfl) ?_
        refine dk_ieq (tgt := 84) hx hb dX6_towards_54 (by decide) hf (fun hf => ?_) (fun hf => ?_)
        · refine lv_iload_n hx hb dX6_towards_84 rfl (lv_at hl 4 rfl) ?_
          refine lv_istore_n (lv' := [(3, .int x3), (5, .int s0), (0, .ref hM), (1, .ref pw), (2, .int x2), (4, .int x4)]) hx hb dX6_towards_85 rfl hl (by decide) rfl (fun ls hl => ?_)
          refine lv_iinc (v := x4 + 1) (lv' := [(4, .int (x4 + 1)), (3, .int x3), (5, .int s0), (0, .ref hM), (1, .ref pw), (2, .int x2)]) hx hb dX6_towards_86 hl (k := 5) rfl rfl (by decide) rfl (fun ls hl => ?_)
          refine lv_goto (tgt := 12) hx hb dX6_towards_89 (by decide) ?_
          exact ih12 x2 x3 (x4 + 1) M_26 _ _ _ hP hD hS (lv_sub hl [3, 4, 5, 1, 0] rfl) hf
        · refine lv_iload_n hx hb dX6_towards_57 rfl (lv_at hl 4 rfl) ?_
          refine lv_bipush (v := (-9)) hx hb dX6_towards_58 (by decide) ?_
          refine dk_ceq (tgt := 79) hx hb dX6_towards_60 (by decide) hf (fun hf => ?_) (fun hf => ?_)
          · refine lv_iload hx hb dX6_towards_79 (lv_at hl 5 rfl) ?_
            refine lv_goto (tgt := 85) hx hb dX6_towards_81 (by decide) ?_
            refine lv_istore_n (lv' := [(3, .int x4), (5, .int s0), (0, .ref hM), (1, .ref pw), (2, .int x2), (4, .int x4)]) hx hb dX6_towards_85 rfl hl (by decide) rfl (fun ls hl => ?_)
            refine lv_iinc (v := x4 + 1) (lv' := [(4, .int (x4 + 1)), (3, .int x4), (5, .int s0), (0, .ref hM), (1, .ref pw), (2, .int x2)]) hx hb dX6_towards_86 hl (k := 5) rfl rfl (by decide) rfl (fun ls hl => ?_)
            refine lv_goto (tgt := 12) hx hb dX6_towards_89 (by decide) ?_
            exact ih12 x2 x4 (x4 + 1) M_26 _ _ _ hP hD hS (lv_sub hl [3, 4, 5, 1, 0] rfl) hf
          · refine lv_aload_n hx hb dX6_towards_63 rfl (lv_at hl 1 rfl) ?_
            refine va_get (D := D) (ci := 6) (v := .ref (aM 26)) (C := RX6) (T := TX6) (N := 28) hx hb hts iX6_towards_X6 hown hK.1 hP 0 rfl rfl 26 (by decide) (hts (.fieldLink RX6 51 "DarkPlaceModel" "far" "[I") (List.mem_of_getElem? (i := 2) rfl)) (fun _ h9 => h9) rfl dX6_towards_64 ?_
            refine lv_iload hx hb dX6_towards_67 (lv_at hl 5 rfl) ?_
            refine dk_iald hx hb hK.1 hP 3 0 rfl rfl hf dX6_towards_69 (fun d69 hf => ?_)
            refine lv_aload_n hx hb dX6_towards_70 rfl (lv_at hl 1 rfl) ?_
            refine va_get (D := D) (ci := 6) (v := .ref (aM 26)) (C := RX6) (T := TX6) (N := 28) hx hb hts iX6_towards_X6 hown hK.1 hP 0 rfl rfl 26 (by decide) (hts (.fieldLink RX6 51 "DarkPlaceModel" "far" "[I") (List.mem_of_getElem? (i := 2) rfl)) (fun _ h9 => h9) rfl dX6_towards_71 ?_
            refine lv_iload_n hx hb dX6_towards_74 rfl (lv_at hl 4 rfl) ?_
            refine dk_iald hx hb hK.1 hP 3 0 rfl rfl hf dX6_towards_75 (fun d75 hf => ?_)
            refine dk_cge (tgt := 84) hx hb dX6_towards_76 (by decide) hf (fun hf => ?_) (fun hf => ?_)
            · refine lv_iload_n hx hb dX6_towards_84 rfl (lv_at hl 4 rfl) ?_
              refine lv_istore_n (lv' := [(3, .int x3), (5, .int s0), (0, .ref hM), (1, .ref pw), (2, .int x2), (4, .int x4)]) hx hb dX6_towards_85 rfl hl (by decide) rfl (fun ls hl => ?_)
              refine lv_iinc (v := x4 + 1) (lv' := [(4, .int (x4 + 1)), (3, .int x3), (5, .int s0), (0, .ref hM), (1, .ref pw), (2, .int x2)]) hx hb dX6_towards_86 hl (k := 5) rfl rfl (by decide) rfl (fun ls hl => ?_)
              refine lv_goto (tgt := 12) hx hb dX6_towards_89 (by decide) ?_
              exact ih12 x2 x3 (x4 + 1) M_26 _ _ _ hP hD hS (lv_sub hl [3, 4, 5, 1, 0] rfl) hf
            · refine lv_iload hx hb dX6_towards_79 (lv_at hl 5 rfl) ?_
              refine lv_goto (tgt := 85) hx hb dX6_towards_81 (by decide) ?_
              refine lv_istore_n (lv' := [(3, .int x4), (5, .int s0), (0, .ref hM), (1, .ref pw), (2, .int x2), (4, .int x4)]) hx hb dX6_towards_85 rfl hl (by decide) rfl (fun ls hl => ?_)
              refine lv_iinc (v := x4 + 1) (lv' := [(4, .int (x4 + 1)), (3, .int x4), (5, .int s0), (0, .ref hM), (1, .ref pw), (2, .int x2)]) hx hb dX6_towards_86 hl (k := 5) rfl rfl (by decide) rfl (fun ls hl => ?_)
              refine lv_goto (tgt := 12) hx hb dX6_towards_89 (by decide) ?_
              exact ih12 x2 x4 (x4 + 1) M_26 _ _ _ hP hD hS (lv_sub hl [3, 4, 5, 1, 0] rfl) hf
      refine lv_iload hx hb dX6_towards_12 (lv_at hl 4 rfl) ?_
      refine lv_aload_n hx hb dX6_towards_14 rfl (lv_at hl 0 rfl) ?_
      refine va_get (D := D) (ci := 6) (v := .int (M.1 4)) (C := RX6) (T := TX6) (N := 28) hx hb hts iX6_towards_X6 hown hK.1 hP 0 rfl rfl 4 (by decide) (hts (.fieldLink RX6 13 "DarkPlaceModel" "places" "I") (List.mem_of_getElem? (i := 1) rfl)) (fun _ h9 => h9) rfl dX6_towards_15 ?_
      refine dk_cge (tgt := 92) hx hb dX6_towards_18 (by decide) hf (fun hf => ?_) (fun hf => ?_)
      · refine lv_iload_n hx hb dX6_towards_92 rfl (lv_at hl 3 rfl) ?_
        refine lv_bipush (v := (-9)) hx hb dX6_towards_93 (by decide) ?_
        refine dk_cne (tgt := 101) hx hb dX6_towards_95 (by decide) hf (fun hf => ?_) (fun hf => ?_)
        · refine lv_aload_n hx hb dX6_towards_101 rfl (lv_at hl 0 rfl) ?_
          refine lv_aload_n hx hb dX6_towards_102 rfl (lv_at hl 1 rfl) ?_
          refine lv_iload_n hx hb dX6_towards_103 rfl (lv_at hl 3 rfl) ?_
          obtain ⟨g104_0, k104, hf⟩ := dk_bind hf
          have hPc := hP.sub (ws' := wMs cy hM aM sdM (M.1, dk_upA M.2 26 M_26) ++ wRw cy pw 21 w) [0, 1, 2, 3, 4] rfl
          have hDc := hD.sub (ws' := wMs cy hM aM sdM (M.1, dk_upA M.2 26 M_26) ++ wRw cy pw 21 w) [0, 1, 2, 3, 4] (by decide) rfl
          have hFc := va_free (wc := wMs cy hM aM sdM (M.1, dk_upA M.2 26 M_26) ++ wRw cy pw 21 w) hD hS hA [0, 1, 2, 3, 4] rfl
          refine va_callv (va_runV (As := [.ref pw, .int x3]) (rest := []) ⟨hx, hb, hml, hown, hts⟩ (kX6_layFar l D cy hM aM sdM pw H.size (M.1, dk_upA M.2 26 M_26) w x3 g104_0 k104) (cwV 2 hts gX6_towards_X6_layFar rfl rfl rfl (by decide +kernel) ⟨Nat.le_of_ble_eq_true rfl, Nat.le_of_ble_eq_true rfl⟩) (dk_premV hK hPc hDc (ci := 6) (q0 := 0) rfl rfl) rfl rfl hl.1 rfl (lv_room (Nat.le_of_ble_eq_true rfl)) dX6_towards_104 ⟨Nat.zero_le _, Nat.zero_le _⟩) hS (fun q _ h => hFc q h) hFc (fun u t H1 locs ht hvm hw hB hz1 hk1 hS => ?_)
          obtain ⟨hP1, hD1⟩ := hB
          rw [ht] at hP1
          obtain ⟨hP, hD⟩ := va_join (wr := ([] : List Nat).filterMap (fun i => (wMs cy hM aM sdM (M.1, dk_upA M.2 26 M_26) ++ wRw cy pw 21 w)[i]?)) (w1 := wMs cy hM aM sdM (M.1, dk_upA M.2 26 g104_0) ++ wRw cy pw 21 w) hP hD [0, 1, 2, 3, 4] [] rfl rfl (by decide) (by decide) hk1 hFc hP1 hD1
          generalize H1 = H at hP hS ⊢
          have hP : va_P D vwCl (wMs cy hM aM sdM (M.1, dk_upA M.2 26 g104_0) ++ wRw cy pw 21 w) H := hP.sub [0, 1, 2, 3, 4] rfl
          have hD : va_D A (wMs cy hM aM sdM (M.1, dk_upA M.2 26 g104_0) ++ wRw cy pw 21 w) := hD.sub [0, 1, 2, 3, 4] (by decide) rfl
          refine lv_iconst (v := 0) hx hb dX6_towards_107 (by decide) ?_
          refine lv_istore (lv' := [(4, .int 0), (0, .ref hM), (1, .ref pw), (2, .int x2), (3, .int x3)]) hx hb dX6_towards_108 hl (by decide) rfl (fun ls hl => ?_)
          exact L110 1000 x2 0 g104_0 _ _ _ hP hD hS (lv_sub hl [1, 2, 3, 0] rfl) hf
        · refine lv_bipush (v := (-9)) hx hb dX6_towards_98 (by decide) ?_
          have e := Option.some.inj hf
          simp only [Prod.mk.injEq] at e
          obtain ⟨e0, e1⟩ := e
          subst e1
          exact W.iret (v := (-9)) hx hb hr (fun t ht hW => ⟨⟨(-9), (), rfl, e0, by rw [ht]; exact hP, hD⟩, hS.F ht⟩) hS.2.2 dX6_towards_100
      · refine lv_aload_n hx hb dX6_towards_21 rfl (lv_at hl 0 rfl) ?_
        refine va_get (D := D) (ci := 6) (v := .ref (aM 26)) (C := RX6) (T := TX6) (N := 28) hx hb hts iX6_towards_X6 hown hK.1 hP 0 rfl rfl 26 (by decide) (hts (.fieldLink RX6 51 "DarkPlaceModel" "far" "[I") (List.mem_of_getElem? (i := 2) rfl)) (fun _ h9 => h9) rfl dX6_towards_22 ?_
        refine lv_iload hx hb dX6_towards_25 (lv_at hl 4 rfl) ?_
        refine dk_iald hx hb hK.1 hP 3 0 rfl rfl hf dX6_towards_27 (fun d27 hf => ?_)
        refine lv_bipush (v := 99) hx hb dX6_towards_28 (by decide) ?_
        refine dk_cge (tgt := 49) hx hb dX6_towards_30 (by decide) hf (fun hf => ?_) (fun hf => ?_)
        · refine lv_iconst (v := 0) hx hb dX6_towards_49 (by decide) ?_
          exact L50 x2 x3 x4 0 M_26 _ _ _ hP hD hS (lv_sub hl [0, 1, 2, 3, 4] rfl) hf
        · refine lv_aload_n hx hb dX6_towards_33 rfl (lv_at hl 0 rfl) ?_
          refine lv_aload_n hx hb dX6_towards_34 rfl (lv_at hl 1 rfl) ?_
          refine lv_iload hx hb dX6_towards_35 (lv_at hl 4 rfl) ?_
          obtain ⟨r37, k37, hf⟩ := dk_bind hf
          refine dk_ri (va_runV (As := [.ref pw, .int x4]) (rest := []) ⟨hx, hb, hml, hown, hts⟩ (kX6_unseenAt l D cy hM aM sdM pw (M.1, dk_upA M.2 26 M_26) w x4 r37 k37) (cwV 2 hts gX6_towards_X6_unseenAt rfl rfl rfl (by decide +kernel) ⟨Nat.le_of_ble_eq_true rfl, Nat.le_of_ble_eq_true rfl⟩) (dk_preV hK (hP.sub (ws' := wMs cy hM aM sdM (M.1, dk_upA M.2 26 M_26) ++ wRw cy pw 21 w) [0, 1, 2, 3, 4] rfl) (ci := 6) (q0 := 0) rfl rfl) rfl rfl hl.1 rfl (lv_room (Nat.le_of_ble_eq_true rfl)) dX6_towards_37 ⟨Nat.zero_le _, Nat.zero_le _⟩) ?_
          refine lv_bipush (v := (-9)) hx hb dX6_towards_40 (by decide) ?_
          refine dk_ceq (tgt := 49) hx hb dX6_towards_42 (by decide) hf (fun hf => ?_) (fun hf => ?_)
          · refine lv_iconst (v := 0) hx hb dX6_towards_49 (by decide) ?_
            exact L50 x2 x3 x4 0 M_26 _ _ _ hP hD hS (lv_sub hl [0, 1, 2, 3, 4] rfl) hf
          · refine lv_iconst (v := 1) hx hb dX6_towards_45 (by decide) ?_
            refine lv_goto (tgt := 50) hx hb dX6_towards_46 (by decide) ?_
            exact L50 x2 x3 x4 1 M_26 _ _ _ hP hD hS (lv_sub hl [0, 1, 2, 3, 4] rfl) hf
  unfold fX6_towards at hf
  refine lv_aload_n hx hb dX6_towards_0 rfl (lv_at hl 0 rfl) ?_
  refine lv_aload_n hx hb dX6_towards_1 rfl (lv_at hl 1 rfl) ?_
  refine lv_iload_n hx hb dX6_towards_2 rfl (lv_at hl 2 rfl) ?_
  obtain ⟨g3_0, k3, hf⟩ := dk_bind hf
  have hPc := hP.sub (ws' := wMs cy hM aM sdM M ++ wRw cy pw 21 w) [0, 1, 2, 3, 4] rfl
  have hDc := hD.sub (ws' := wMs cy hM aM sdM M ++ wRw cy pw 21 w) [0, 1, 2, 3, 4] (by decide) rfl
  have hFc := va_free (wc := wMs cy hM aM sdM M ++ wRw cy pw 21 w) hD hS hA [0, 1, 2, 3, 4] rfl
  refine va_callv (va_runV (As := [.ref pw, .int v2]) (rest := []) ⟨hx, hb, hml, hown, hts⟩ (kX6_layFar l D cy hM aM sdM pw s.heap.size M w v2 g3_0 k3) (cwV 2 hts gX6_towards_X6_layFar rfl rfl rfl (by decide +kernel) ⟨Nat.le_of_ble_eq_true rfl, Nat.le_of_ble_eq_true rfl⟩) (dk_premV hK hPc hDc (ci := 6) (q0 := 0) rfl rfl) rfl rfl hl.1 rfl (lv_room (Nat.le_of_ble_eq_true rfl)) dX6_towards_3 ⟨Nat.zero_le _, Nat.zero_le _⟩) hS (fun q _ h => hFc q h) hFc (fun u t H1 locs ht hvm hw hB hz1 hk1 hS => ?_)
  obtain ⟨hP1, hD1⟩ := hB
  rw [ht] at hP1
  obtain ⟨hP, hD⟩ := va_join (wr := ([] : List Nat).filterMap (fun i => (wMs cy hM aM sdM M ++ wRw cy pw 21 w)[i]?)) (w1 := wMs cy hM aM sdM (M.1, dk_upA M.2 26 g3_0) ++ wRw cy pw 21 w) hP hD [0, 1, 2, 3, 4] [] rfl rfl (by decide) (by decide) hk1 hFc hP1 hD1
  generalize H1 = H at hP hS ⊢
  have hP : va_P D vwCl (wMs cy hM aM sdM (M.1, dk_upA M.2 26 g3_0) ++ wRw cy pw 21 w) H := hP.sub [0, 1, 2, 3, 4] rfl
  have hD : va_D A (wMs cy hM aM sdM (M.1, dk_upA M.2 26 g3_0) ++ wRw cy pw 21 w) := hD.sub [0, 1, 2, 3, 4] (by decide) rfl
  refine lv_bipush (v := (-9)) hx hb dX6_towards_6 (by decide) ?_
  refine lv_istore_n (lv' := [(3, .int (-9)), (0, .ref hM), (1, .ref pw), (2, .int v2)]) hx hb dX6_towards_8 rfl hl (by decide) rfl (fun ls hl => ?_)
  refine lv_iconst (v := 0) hx hb dX6_towards_9 (by decide) ?_
  refine lv_istore (lv' := [(4, .int 0), (3, .int (-9)), (0, .ref hM), (1, .ref pw), (2, .int v2)]) hx hb dX6_towards_10 hl (by decide) rfl (fun ls hl => ?_)
  exact L12 1000 v2 (-9) 0 g3_0 _ _ _ hP hD hS (lv_sub hl [2, 3, 4, 1, 0] rfl) hf
set_option maxHeartbeats 4000000 in
set_option maxRecDepth 100000 in
theorem kX6_chosen (l : Launch) (D : va_G) (cy : Nat → ClassId) (hM : Nat) (aM : Nat → Nat) (sdM : Int64) (pw : Nat) (sz : Nat) (M : dk_O) (w : Nat → Int32) (v2 : Int32) (r : Int32) (oM_26 : (Nat → Int32)) (hf : fX6_chosen M w v2 = some (r, oM_26)) : dk_MuI l yX6_chosen wsX6_chosen ({ frames := 3, cells := 0, slots := 0, locals := 70 }) D cy [.ref hM, .ref pw, .int v2] (wMs cy hM aM sdM M ++ wRw cy pw 21 w) (wMs cy hM aM sdM (M.1, dk_upA M.2 26 oM_26) ++ wRw cy pw 21 w) sz r := by
  refine Met.ofW (cc := cX6_chosen) (maxL := 4) (ret := (some .int)) (by decide) rfl ?_
  intro p e s m args below meth c s₁ B hml hv
  obtain ⟨rfl, hsz, hP, hK, hD0⟩ := hv
  have hx := B.exec
  have hb := B.bytes
  have hr := B.returns
  have hts := atoms_spec (ws := wsX6_chosen) B.pre
  have hown : s.vm.findClass RX6 = some m.cls := findClass_of_methodNamed B.named
  have hlocks := B.notSynchronized
  subst hsz
  have hD := hD0.self (sz := s.heap.size)
  generalize hAe : va_A (wMs cy hM aM sdM M ++ wRw cy pw 21 w) s.heap.size = A at hD ⊢
  have hA : ∀ q : Nat, s.heap.size ≤ q → A q := fun q h => by rw [← hAe]; exact Or.inr h
  have hS : va_S A s.heap s.heap [] := va_S.rf
  have hl := lv_entry ([.ref hM, .ref pw, .int v2]) (n := 4) (Nat.le_of_ble_eq_true rfl)
  rw [lg_entry_eq]
  generalize (lg_sl ([.ref hM, .ref pw, .int v2]) ++ List.replicate (4 - (lg_sl ([.ref hM, .ref pw, .int v2])).length) Slot.unset).toArray = ls at hl ⊢
  have hl : lv_has ls 4 [(0, .ref hM), (1, .ref pw), (2, .int v2)] := hl
  unfold fX6_chosen at hf
  refine lv_aload_n hx hb dX6_chosen_0 rfl (lv_at hl 1 rfl) ?_
  refine lv_iload_n hx hb dX6_chosen_1 rfl (lv_at hl 2 rfl) ?_
  obtain ⟨r2, k2, hf⟩ := dk_bind hf
  refine dk_ri (va_runS (As := [.ref pw, .int v2]) (rest := []) ⟨hx, hb, hml, hown, hts⟩ (kX6_lives l D cy pw w v2 r2 k2) (va_cwS 2 hts gX6_chosen_X6_lives rfl rfl rfl (by decide +kernel) ⟨Nat.le_of_ble_eq_true rfl, Nat.le_of_ble_eq_true rfl⟩) (dk_preS hK (hP.sub (ws' := wRw cy pw 21 w) [4] rfl)) rfl rfl hl.1 rfl (lv_room (Nat.le_of_ble_eq_true rfl)) dX6_chosen_2 ⟨Nat.zero_le _, Nat.zero_le _⟩) ?_
  refine dk_ine (tgt := 11) hx hb dX6_chosen_5 (by decide) hf (fun hf => ?_) (fun hf => ?_)
  · refine lv_aload_n hx hb dX6_chosen_11 rfl (lv_at hl 1 rfl) ?_
    refine lv_bipush (v := 7) hx hb dX6_chosen_12 (by decide) ?_
    refine lv_iload_n hx hb dX6_chosen_14 rfl (lv_at hl 2 rfl) ?_
    refine lv_iadd hx hb dX6_chosen_15 ?_
    refine dk_iald hx hb hK.1 hP 4 0 rfl rfl hf dX6_chosen_16 (fun d16 hf => ?_)
    refine dk_ile (tgt := 29) hx hb dX6_chosen_17 (by decide) hf (fun hf => ?_) (fun hf => ?_)
    · refine lv_aload_n hx hb dX6_chosen_29 rfl (lv_at hl 0 rfl) ?_
      refine lv_aload_n hx hb dX6_chosen_30 rfl (lv_at hl 1 rfl) ?_
      obtain ⟨r31, k31, hf⟩ := dk_bind hf
      refine dk_ri (va_runV (As := [.ref pw]) (rest := []) ⟨hx, hb, hml, hown, hts⟩ (kX6_isKnown l D cy hM aM sdM pw M w r31 k31) (cwV 1 hts gX6_chosen_X6_isKnown rfl rfl rfl (by decide +kernel) ⟨Nat.le_of_ble_eq_true rfl, Nat.le_of_ble_eq_true rfl⟩) (dk_preV hK (hP.sub (ws' := wMs cy hM aM sdM M ++ wRw cy pw 21 w) [0, 1, 2, 3, 4] rfl) (ci := 6) (q0 := 0) rfl rfl) rfl rfl hl.1 rfl (lv_room (Nat.le_of_ble_eq_true rfl)) dX6_chosen_31 ⟨Nat.zero_le _, Nat.zero_le _⟩) ?_
      refine dk_ieq (tgt := 40) hx hb dX6_chosen_34 (by decide) hf (fun hf => ?_) (fun hf => ?_)
      · refine lv_aload_n hx hb dX6_chosen_40 rfl (lv_at hl 0 rfl) ?_
        refine lv_aload_n hx hb dX6_chosen_41 rfl (lv_at hl 1 rfl) ?_
        refine lv_aload_n hx hb dX6_chosen_42 rfl (lv_at hl 1 rfl) ?_
        refine lv_iconst (v := 3) hx hb dX6_chosen_43 (by decide) ?_
        refine lv_iload_n hx hb dX6_chosen_44 rfl (lv_at hl 2 rfl) ?_
        refine lv_iadd hx hb dX6_chosen_45 ?_
        refine dk_iald hx hb hK.1 hP 4 0 rfl rfl hf dX6_chosen_46 (fun d46 hf => ?_)
        obtain ⟨r47, k47, hf⟩ := dk_bind hf
        refine dk_ri (va_runV (As := [.ref pw, .int d46]) (rest := []) ⟨hx, hb, hml, hown, hts⟩ (kX6_unseenAt l D cy hM aM sdM pw M w d46 r47 k47) (cwV 2 hts gX6_chosen_X6_unseenAt rfl rfl rfl (by decide +kernel) ⟨Nat.le_of_ble_eq_true rfl, Nat.le_of_ble_eq_true rfl⟩) (dk_preV hK (hP.sub (ws' := wMs cy hM aM sdM M ++ wRw cy pw 21 w) [0, 1, 2, 3, 4] rfl) (ci := 6) (q0 := 0) rfl rfl) rfl rfl hl.1 rfl (lv_room (Nat.le_of_ble_eq_true rfl)) dX6_chosen_47 ⟨Nat.zero_le _, Nat.zero_le _⟩) ?_
        refine lv_istore_n (lv' := [(3, .int r47), (0, .ref hM), (1, .ref pw), (2, .int v2)]) hx hb dX6_chosen_50 rfl hl (by decide) rfl (fun ls hl => ?_)
        refine lv_iload_n hx hb dX6_chosen_51 rfl (lv_at hl 0 rfl) ?_
        refine lv_bipush (v := (-9)) hx hb dX6_chosen_52 (by decide) ?_
        refine dk_ceq (tgt := 61) hx hb dX6_chosen_54 (by decide) hf (fun hf => ?_) (fun hf => ?_)
        · refine lv_aload_n hx hb dX6_chosen_61 rfl (lv_at hl 1 rfl) ?_
          refine lv_aload_n hx hb dX6_chosen_62 rfl (lv_at hl 2 rfl) ?_
          refine lv_aload_n hx hb dX6_chosen_63 rfl (lv_at hl 2 rfl) ?_
          refine lv_iconst (v := 3) hx hb dX6_chosen_64 (by decide) ?_
          refine lv_iload_n hx hb dX6_chosen_65 rfl (lv_at hl 3 rfl) ?_
          refine lv_iadd hx hb dX6_chosen_66 ?_
          refine dk_iald hx hb hK.1 hP 4 0 rfl rfl hf dX6_chosen_67 (fun d67 hf => ?_)
          obtain ⟨⟨r68, g68_0⟩, k68, hf⟩ := dk_bind hf
          dsimp only at hf
          have hPc := hP.sub (ws' := wMs cy hM aM sdM M ++ wRw cy pw 21 w) [0, 1, 2, 3, 4] rfl
          have hDc := hD.sub (ws' := wMs cy hM aM sdM M ++ wRw cy pw 21 w) [0, 1, 2, 3, 4] (by decide) rfl
          have hFc := va_free (wc := wMs cy hM aM sdM M ++ wRw cy pw 21 w) hD hS hA [0, 1, 2, 3, 4] rfl
          refine va_calli (va_runV (As := [.ref pw, .int d67]) (rest := []) ⟨hx, hb, hml, hown, hts⟩ (kX6_towards l D cy hM aM sdM pw s.heap.size M w d67 r68 g68_0 k68) (cwV 2 hts gX6_chosen_X6_towards rfl rfl rfl (by decide +kernel) ⟨Nat.le_of_ble_eq_true rfl, Nat.le_of_ble_eq_true rfl⟩) (dk_premV hK hPc hDc (ci := 6) (q0 := 0) rfl rfl) rfl rfl hl.1 rfl (lv_room (Nat.le_of_ble_eq_true rfl)) dX6_chosen_68 ⟨Nat.zero_le _, Nat.zero_le _⟩) hS (fun q _ h => hFc q h) hFc (fun xr68 u t H1 locs ht hvm hw hB hz1 hk1 hS => ?_)
          obtain ⟨hP1, hD1⟩ := hB
          rw [ht] at hP1
          rw [hw]
          obtain ⟨hP, hD⟩ := va_join (wr := ([] : List Nat).filterMap (fun i => (wMs cy hM aM sdM M ++ wRw cy pw 21 w)[i]?)) (w1 := wMs cy hM aM sdM (M.1, dk_upA M.2 26 g68_0) ++ wRw cy pw 21 w) hP hD [0, 1, 2, 3, 4] [] rfl rfl (by decide) (by decide) hk1 hFc hP1 hD1
          generalize H1 = H at hP hS ⊢
          have hP : va_P D vwCl (wMs cy hM aM sdM (M.1, dk_upA M.2 26 g68_0) ++ wRw cy pw 21 w) H := hP.sub [0, 1, 2, 3, 4] rfl
          have hD : va_D A (wMs cy hM aM sdM (M.1, dk_upA M.2 26 g68_0) ++ wRw cy pw 21 w) := hD.sub [0, 1, 2, 3, 4] (by decide) rfl
          have e := Option.some.inj hf
          simp only [Prod.mk.injEq] at e
          obtain ⟨e0, e1⟩ := e
          subst e1
          exact W.iret (v := r68) hx hb hr (fun t ht hW => ⟨⟨r68, (), rfl, e0, by rw [ht]; exact hP, hD⟩, hS.F ht⟩) hS.2.2 dX6_chosen_71
        · refine lv_iload_n hx hb dX6_chosen_57 rfl (lv_at hl 0 rfl) ?_
          refine lv_goto (tgt := 71) hx hb dX6_chosen_58 (by decide) ?_
          have e := Option.some.inj hf
          simp only [Prod.mk.injEq] at e
          obtain ⟨e0, e1⟩ := e
          subst e1
          exact W.iret (v := r47) hx hb hr (fun t ht hW => ⟨⟨r47, (), rfl, e0, by rw [ht]; exact hP, hD⟩, hS.F ht⟩) hS.2.2 dX6_chosen_71
      · refine lv_bipush (v := (-9)) hx hb dX6_chosen_37 (by decide) ?_
        have e := Option.some.inj hf
        simp only [Prod.mk.injEq] at e
        obtain ⟨e0, e1⟩ := e
        subst e1
        exact W.iret (v := (-9)) hx hb hr (fun t ht hW => ⟨⟨(-9), (), rfl, e0, by rw [ht]; exact hP, hD⟩, hS.F ht⟩) hS.2.2 dX6_chosen_39
    · refine lv_aload_n hx hb dX6_chosen_20 rfl (lv_at hl 1 rfl) ?_
      refine lv_bipush (v := 7) hx hb dX6_chosen_21 (by decide) ?_
      refine lv_iload_n hx hb dX6_chosen_23 rfl (lv_at hl 2 rfl) ?_
      refine lv_iadd hx hb dX6_chosen_24 ?_
      refine dk_iald hx hb hK.1 hP 4 0 rfl rfl hf dX6_chosen_25 (fun d25 hf => ?_)
      refine lv_iconst (v := 1) hx hb dX6_chosen_26 (by decide) ?_
      refine lv_isub hx hb dX6_chosen_27 ?_
      have e := Option.some.inj hf
      simp only [Prod.mk.injEq] at e
      obtain ⟨e0, e1⟩ := e
      subst e1
      exact W.iret (v := d25 - 1) hx hb hr (fun t ht hW => ⟨⟨d25 - 1, (), rfl, e0, by rw [ht]; exact hP, hD⟩, hS.F ht⟩) hS.2.2 dX6_chosen_28
  · refine lv_bipush (v := (-9)) hx hb dX6_chosen_8 (by decide) ?_
    have e := Option.some.inj hf
    simp only [Prod.mk.injEq] at e
    obtain ⟨e0, e1⟩ := e
    subst e1
    exact W.iret (v := (-9)) hx hb hr (fun t ht hW => ⟨⟨(-9), (), rfl, e0, by rw [ht]; exact hP, hD⟩, hS.F ht⟩) hS.2.2 dX6_chosen_10
theorem iX6_roundOn_X6 : ∀ w ∈ wsX60, w ∈ wsX6_roundOn := fun _ h => List.mem_cons_of_mem _ (List.mem_append_right _ h)
set_option maxHeartbeats 4000000 in
set_option maxRecDepth 100000 in
theorem kX6_roundOn (l : Launch) (D : va_G) (cy : Nat → ClassId) (hM : Nat) (aM : Nat → Nat) (sdM : Int64) (pw : Nat) (sz : Nat) (M : dk_O) (w : Nat → Int32)  (r : Int32) (oM_26 : (Nat → Int32)) (ow_row : (Nat → Int32)) (hf : fX6_roundOn M w = some (r, oM_26, ow_row)) : dk_MuI l yX6_roundOn wsX6_roundOn ({ frames := 4, cells := 0, slots := 0, locals := 93 }) D cy [.ref hM, .ref pw] (wMs cy hM aM sdM M ++ wRw cy pw 21 w) (wMs cy hM aM sdM (M.1, dk_upA M.2 26 oM_26) ++ wRw cy pw 21 ow_row) sz r := by
  refine Met.ofW (cc := cX6_roundOn) (maxL := 5) (ret := (some .int)) (by decide) rfl ?_
  intro p e s m args below meth c s₁ B hml hv
  obtain ⟨rfl, hsz, hP, hK, hD0⟩ := hv
  have hx := B.exec
  have hb := B.bytes
  have hr := B.returns
  have hts := atoms_spec (ws := wsX6_roundOn) B.pre
  have hown : s.vm.findClass RX6 = some m.cls := findClass_of_methodNamed B.named
  have hlocks := B.notSynchronized
  subst hsz
  have hD := hD0.self (sz := s.heap.size)
  generalize hAe : va_A (wMs cy hM aM sdM M ++ wRw cy pw 21 w) s.heap.size = A at hD ⊢
  have hA : ∀ q : Nat, s.heap.size ≤ q → A q := fun q h => by rw [← hAe]; exact Or.inr h
  have hS : va_S A s.heap s.heap [] := va_S.rf
  have hl := lv_entry ([.ref hM, .ref pw]) (n := 5) (Nat.le_of_ble_eq_true rfl)
  rw [lg_entry_eq]
  generalize (lg_sl ([.ref hM, .ref pw]) ++ List.replicate (5 - (lg_sl ([.ref hM, .ref pw])).length) Slot.unset).toArray = ls at hl ⊢
  have hl : lv_has ls 5 [(0, .ref hM), (1, .ref pw)] := hl
  have L4 : ∀ (fu4 : Nat) (x2 : Int32) (x3 : Int32) (M_26 : (Nat → Int32)) (w_row : (Nat → Int32)) (H : Heap) (locs : List Loc) (ls : Array Slot), va_P D vwCl (wMs cy hM aM sdM (M.1, dk_upA M.2 26 M_26) ++ wRw cy pw 21 w_row) H → va_D A (wMs cy hM aM sdM (M.1, dk_upA M.2 26 M_26) ++ wRw cy pw 21 w_row) → va_S A s.heap H locs → lv_has ls 5 [(0, .ref hM), (1, .ref pw), (2, .int x2), (3, .int x3)] → fX6_roundOn_L4 M w fu4 x2 x3 M_26 w_row = some (r, oM_26, ow_row) → W p l e (headSpec wsX6_roundOn ({ frames := 4, cells := 0, slots := 0, locals := 93 })).room s m ([.ref hM, .ref pw]).toArray below meth c H locs 0 0 (MQ below (va_Qi (fun (x : Int32) (_ : Unit) => x = r) (dk_B D (wMs cy hM aM sdM (M.1, dk_upA M.2 26 oM_26) ++ wRw cy pw 21 ow_row) A) A) ([.ref hM, .ref pw]).toArray s 0 0 A) (F0 m 4 ls []) := by
    intro fu4
    induction fu4 with
    | zero =>
      intro x2 x3 M_26 w_row H locs ls hP hD hS hl hf
      rw [fX6_roundOn_L4] at hf
      cases hf
    | succ fu4 ih4 =>
      intro x2 x3 M_26 w_row H locs ls hP hD hS hl hf
      rw [fX6_roundOn_L4] at hf
      have L33 : ∀ (x2 : Int32) (x3 : Int32) (s0 : Int32) (M_26 : (Nat → Int32)) (w_row : (Nat → Int32)) (H : Heap) (locs : List Loc) (ls : Array Slot), va_P D vwCl (wMs cy hM aM sdM (M.1, dk_upA M.2 26 M_26) ++ wRw cy pw 21 w_row) H → va_D A (wMs cy hM aM sdM (M.1, dk_upA M.2 26 M_26) ++ wRw cy pw 21 w_row) → va_S A s.heap H locs → lv_has ls 5 [(0, .ref hM), (1, .ref pw), (2, .int x2), (3, .int x3)] → fX6_roundOn_L33 M w (fun z0 z1 z2 z3 => fX6_roundOn_L4 M w fu4 z0 z1 z2 z3) x2 x3 s0 M_26 w_row = some (r, oM_26, ow_row) → W p l e (headSpec wsX6_roundOn ({ frames := 4, cells := 0, slots := 0, locals := 93 })).room s m ([.ref hM, .ref pw]).toArray below meth c H locs 0 0 (MQ below (va_Qi (fun (x : Int32) (_ : Unit) => x = r) (dk_B D (wMs cy hM aM sdM (M.1, dk_upA M.2 26 oM_26) ++ wRw cy pw 21 ow_row) A) A) ([.ref hM, .ref pw]).toArray s 0 0 A) (F0 m 33 ls [.int s0]) := by
        intro x2 x3 s0 M_26 w_row H locs ls hP hD hS hl hf
        unfold fX6_roundOn_L33 at hf
        refine lv_istore (lv' := [(4, .int s0), (0, .ref hM), (1, .ref pw), (2, .int x2), (3, .int x3)]) hx hb dX6_roundOn_33 hl (by decide) rfl (fun ls hl => ?_)
        refine lv_iload hx hb dX6_roundOn_35 (lv_at hl 0 rfl) ?_
        refine lv_bipush (v := (-9)) hx hb dX6_roundOn_37 (by decide) ?_
        refine dk_ceq (tgt := 53) hx hb dX6_roundOn_39 (by decide) hf (fun hf => ?_) (fun hf => ?_)
        · refine lv_iinc (v := x3 + 1) (lv' := [(3, .int (x3 + 1)), (4, .int s0), (0, .ref hM), (1, .ref pw), (2, .int x2)]) hx hb dX6_roundOn_53 hl (k := 4) rfl rfl (by decide) rfl (fun ls hl => ?_)
          refine lv_goto (tgt := 4) hx hb dX6_roundOn_56 (by decide) ?_
          exact ih4 x2 (x3 + 1) M_26 w_row _ _ _ hP hD hS (lv_sub hl [2, 3, 4, 0] rfl) hf
        · refine lv_aload_n hx hb dX6_roundOn_42 rfl (lv_at hl 1 rfl) ?_
          refine lv_aload_n hx hb dX6_roundOn_43 rfl (lv_at hl 2 rfl) ?_
          refine lv_iload_n hx hb dX6_roundOn_44 rfl (lv_at hl 4 rfl) ?_
          refine lv_iload hx hb dX6_roundOn_45 (lv_at hl 0 rfl) ?_
          obtain ⟨g47_0, k47, hf⟩ := dk_bind hf
          have hPc := hP.sub (ws' := wMs cy hM aM sdM (M.1, dk_upA M.2 26 M_26) ++ wRw cy pw 21 w_row) [0, 1, 2, 3, 4] rfl
          have hDc := hD.sub (ws' := wMs cy hM aM sdM (M.1, dk_upA M.2 26 M_26) ++ wRw cy pw 21 w_row) [0, 1, 2, 3, 4] (by decide) rfl
          have hFc := va_free (wc := wMs cy hM aM sdM (M.1, dk_upA M.2 26 M_26) ++ wRw cy pw 21 w_row) hD hS hA [0, 1, 2, 3, 4] rfl
          refine va_callv (va_runV (As := [.ref pw, .int x3, .int s0]) (rest := []) ⟨hx, hb, hml, hown, hts⟩ (kX6_stepOn l D cy hM aM sdM pw H.size (M.1, dk_upA M.2 26 M_26) w_row x3 s0 g47_0 k47) (cwV 3 hts gX6_roundOn_X6_stepOn rfl rfl rfl (by decide +kernel) ⟨Nat.le_of_ble_eq_true rfl, Nat.le_of_ble_eq_true rfl⟩) (dk_premV hK hPc hDc (ci := 6) (q0 := 0) rfl rfl) rfl rfl hl.1 rfl (lv_room (Nat.le_of_ble_eq_true rfl)) dX6_roundOn_47 ⟨Nat.zero_le _, Nat.zero_le _⟩) hS (fun q _ h => hFc q h) hFc (fun u t H1 locs ht hvm hw hB hz1 hk1 hS => ?_)
          obtain ⟨hP1, hD1⟩ := hB
          rw [ht] at hP1
          obtain ⟨hP, hD⟩ := va_join (wr := ([] : List Nat).filterMap (fun i => (wMs cy hM aM sdM (M.1, dk_upA M.2 26 M_26) ++ wRw cy pw 21 w_row)[i]?)) (w1 := wMs cy hM aM sdM (M.1, dk_upA M.2 26 M_26) ++ wRw cy pw 21 g47_0) hP hD [0, 1, 2, 3, 4] [] rfl rfl (by decide) (by decide) hk1 hFc hP1 hD1
          generalize H1 = H at hP hS ⊢
          have hP : va_P D vwCl (wMs cy hM aM sdM (M.1, dk_upA M.2 26 M_26) ++ wRw cy pw 21 g47_0) H := hP.sub [0, 1, 2, 3, 4] rfl
          have hD : va_D A (wMs cy hM aM sdM (M.1, dk_upA M.2 26 M_26) ++ wRw cy pw 21 g47_0) := hD.sub [0, 1, 2, 3, 4] (by decide) rfl
          refine lv_iinc (v := x2 + 1) (lv' := [(2, .int (x2 + 1)), (4, .int s0), (0, .ref hM), (1, .ref pw), (3, .int x3)]) hx hb dX6_roundOn_50 hl (k := 3) rfl rfl (by decide) rfl (fun ls hl => ?_)
          refine lv_iinc (v := x3 + 1) (lv' := [(3, .int (x3 + 1)), (2, .int (x2 + 1)), (4, .int s0), (0, .ref hM), (1, .ref pw)]) hx hb dX6_roundOn_53 hl (k := 4) rfl rfl (by decide) rfl (fun ls hl => ?_)
          refine lv_goto (tgt := 4) hx hb dX6_roundOn_56 (by decide) ?_
          exact ih4 (x2 + 1) (x3 + 1) M_26 g47_0 _ _ _ hP hD hS (lv_sub hl [3, 4, 1, 0] rfl) hf
      refine lv_iload_n hx hb dX6_roundOn_4 rfl (lv_at hl 3 rfl) ?_
      refine lv_aload_n hx hb dX6_roundOn_5 rfl (lv_at hl 1 rfl) ?_
      refine lv_iconst (v := 1) hx hb dX6_roundOn_6 (by decide) ?_
      refine dk_iald hx hb hK.1 hP 4 0 rfl rfl hf dX6_roundOn_7 (fun d7 hf => ?_)
      refine dk_cge (tgt := 59) hx hb dX6_roundOn_8 (by decide) hf (fun hf => ?_) (fun hf => ?_)
      · refine lv_iload_n hx hb dX6_roundOn_59 rfl (lv_at hl 2 rfl) ?_
        have e := Option.some.inj hf
        simp only [Prod.mk.injEq] at e
        obtain ⟨e0, e1, e2⟩ := e
        subst e1
        subst e2
        exact W.iret (v := x2) hx hb hr (fun t ht hW => ⟨⟨x2, (), rfl, e0, by rw [ht]; exact hP, hD⟩, hS.F ht⟩) hS.2.2 dX6_roundOn_60
      · refine lv_aload_n hx hb dX6_roundOn_11 rfl (lv_at hl 0 rfl) ?_
        refine va_get (D := D) (ci := 6) (v := .int (M.1 27)) (C := RX6) (T := TX6) (N := 28) hx hb hts iX6_roundOn_X6 hown hK.1 hP 0 rfl rfl 27 (by decide) (hts (.fieldLink RX6 54 "DarkPlaceModel" "come" "I") (List.mem_of_getElem? (i := 1) rfl)) (fun _ h9 => h9) rfl dX6_roundOn_12 ?_
        refine lv_iload_n hx hb dX6_roundOn_15 rfl (lv_at hl 3 rfl) ?_
        obtain ⟨r16, k16, hf⟩ := dk_bind hf
        refine dk_ri (va_runS (As := [.int (M.1 27), .int x3]) (rest := []) ⟨hx, hb, hml, hown, hts⟩ (kX6_has l D cy (M.1 27) x3 r16 k16) (va_cwS 2 hts gX6_roundOn_X6_has rfl rfl rfl (by decide +kernel) ⟨Nat.le_of_ble_eq_true rfl, Nat.le_of_ble_eq_true rfl⟩) (dk_preS hK (hP.sub (ws' := []) [] rfl)) rfl rfl hl.1 rfl (lv_room (Nat.le_of_ble_eq_true rfl)) dX6_roundOn_16 ⟨Nat.zero_le _, Nat.zero_le _⟩) ?_
        refine dk_ieq (tgt := 31) hx hb dX6_roundOn_19 (by decide) hf (fun hf => ?_) (fun hf => ?_)
        · refine lv_bipush (v := (-9)) hx hb dX6_roundOn_31 (by decide) ?_
          exact L33 x2 x3 (-9) M_26 w_row _ _ _ hP hD hS (lv_sub hl [0, 1, 2, 3] rfl) hf
        · refine lv_aload_n hx hb dX6_roundOn_22 rfl (lv_at hl 0 rfl) ?_
          refine lv_aload_n hx hb dX6_roundOn_23 rfl (lv_at hl 1 rfl) ?_
          refine lv_iload_n hx hb dX6_roundOn_24 rfl (lv_at hl 3 rfl) ?_
          obtain ⟨⟨r25, g25_0⟩, k25, hf⟩ := dk_bind hf
          dsimp only at hf
          have hPc := hP.sub (ws' := wMs cy hM aM sdM (M.1, dk_upA M.2 26 M_26) ++ wRw cy pw 21 w_row) [0, 1, 2, 3, 4] rfl
          have hDc := hD.sub (ws' := wMs cy hM aM sdM (M.1, dk_upA M.2 26 M_26) ++ wRw cy pw 21 w_row) [0, 1, 2, 3, 4] (by decide) rfl
          have hFc := va_free (wc := wMs cy hM aM sdM (M.1, dk_upA M.2 26 M_26) ++ wRw cy pw 21 w_row) hD hS hA [0, 1, 2, 3, 4] rfl
          refine va_calli (va_runV (As := [.ref pw, .int x3]) (rest := []) ⟨hx, hb, hml, hown, hts⟩ (kX6_chosen l D cy hM aM sdM pw H.size (M.1, dk_upA M.2 26 M_26) w_row x3 r25 g25_0 k25) (cwV 2 hts gX6_roundOn_X6_chosen rfl rfl rfl (by decide +kernel) ⟨Nat.le_of_ble_eq_true rfl, Nat.le_of_ble_eq_true rfl⟩) (dk_premV hK hPc hDc (ci := 6) (q0 := 0) rfl rfl) rfl rfl hl.1 rfl (lv_room (Nat.le_of_ble_eq_true rfl)) dX6_roundOn_25 ⟨Nat.zero_le _, Nat.zero_le _⟩) hS (fun q _ h => hFc q h) hFc (fun xr25 u t H1 locs ht hvm hw hB hz1 hk1 hS => ?_)
          obtain ⟨hP1, hD1⟩ := hB
          rw [ht] at hP1
          rw [hw]
          obtain ⟨hP, hD⟩ := va_join (wr := ([] : List Nat).filterMap (fun i => (wMs cy hM aM sdM (M.1, dk_upA M.2 26 M_26) ++ wRw cy pw 21 w_row)[i]?)) (w1 := wMs cy hM aM sdM (M.1, dk_upA M.2 26 g25_0) ++ wRw cy pw 21 w_row) hP hD [0, 1, 2, 3, 4] [] rfl rfl (by decide) (by decide) hk1 hFc hP1 hD1
          generalize H1 = H at hP hS ⊢
          have hP : va_P D vwCl (wMs cy hM aM sdM (M.1, dk_upA M.2 26 g25_0) ++ wRw cy pw 21 w_row) H := hP.sub [0, 1, 2, 3, 4] rfl
          have hD : va_D A (wMs cy hM aM sdM (M.1, dk_upA M.2 26 g25_0) ++ wRw cy pw 21 w_row) := hD.sub [0, 1, 2, 3, 4] (by decide) rfl
          refine lv_goto (tgt := 33) hx hb dX6_roundOn_28 (by decide) ?_
          exact L33 x2 x3 r25 g25_0 w_row _ _ _ hP hD hS (lv_sub hl [0, 1, 2, 3] rfl) hf
  unfold fX6_roundOn at hf
  refine lv_iconst (v := 0) hx hb dX6_roundOn_0 (by decide) ?_
  refine lv_istore_n (lv' := [(2, .int 0), (0, .ref hM), (1, .ref pw)]) hx hb dX6_roundOn_1 rfl hl (by decide) rfl (fun ls hl => ?_)
  refine lv_iconst (v := 0) hx hb dX6_roundOn_2 (by decide) ?_
  refine lv_istore_n (lv' := [(3, .int 0), (2, .int 0), (0, .ref hM), (1, .ref pw)]) hx hb dX6_roundOn_3 rfl hl (by decide) rfl (fun ls hl => ?_)
  exact L4 1000 0 0 (M.2 26) w _ _ _ hP hD hS (lv_sub hl [2, 3, 1, 0] rfl) hf
set_option maxHeartbeats 4000000 in
set_option maxRecDepth 100000 in
theorem kX6_isFree (l : Launch) (D : va_G) (cy : Nat → ClassId) (hM : Nat) (aM : Nat → Nat) (sdM : Int64) (pw : Nat) (M : dk_O) (w : Nat → Int32) (v2 : Int32) (r : Int32) (hf : fX6_isFree M w v2 = some r) : dk_RdI l yX6_isFree wsX6_isFree ({ frames := 2, cells := 0, slots := 0, locals := 44 }) D cy [.ref hM, .ref pw, .int v2] (wMs cy hM aM sdM M ++ wRw cy pw 21 w) r := by
  refine Met.ofW (cc := cX6_isFree) (maxL := 5) (ret := (some .boolean)) (by decide) rfl ?_
  intro p e s m args below meth c s₁ B hml hv
  obtain ⟨rfl, hP, hK⟩ := hv
  have hx := B.exec
  have hb := B.bytes
  have hr := B.returns
  have hts := atoms_spec (ws := wsX6_isFree) B.pre
  have hown : s.vm.findClass RX6 = some m.cls := findClass_of_methodNamed B.named
  have hlocks := B.notSynchronized
  have hl := lv_entry ([.ref hM, .ref pw, .int v2]) (n := 5) (Nat.le_of_ble_eq_true rfl)
  rw [lg_entry_eq]
  generalize (lg_sl ([.ref hM, .ref pw, .int v2]) ++ List.replicate (5 - (lg_sl ([.ref hM, .ref pw, .int v2])).length) Slot.unset).toArray = ls at hl ⊢
  have hl : lv_has ls 5 [(0, .ref hM), (1, .ref pw), (2, .int v2)] := hl
  have L13 : ∀ (fu13 : Nat) (x2 : Int32) (x3 : Int32) (x4 : Int32) (ls : Array Slot), lv_has ls 5 [(1, .ref pw), (2, .int x2), (3, .int x3), (4, .int x4)] → fX6_isFree_L13 M w fu13 x2 x3 x4 = some r → W p l e (headSpec wsX6_isFree ({ frames := 2, cells := 0, slots := 0, locals := 44 })).room s m ([.ref hM, .ref pw, .int v2]).toArray below meth c s.heap [] 0 0 (MQ below (vp_Si (fun x => x = r)) ([.ref hM, .ref pw, .int v2]).toArray s 0 0 (fun _ => False)) (F0 m 13 ls []) := by
    intro fu13
    induction fu13 with
    | zero =>
      intro x2 x3 x4 ls hl hf
      rw [fX6_isFree_L13] at hf
      cases hf
    | succ fu13 ih13 =>
      intro x2 x3 x4 ls hl hf
      rw [fX6_isFree_L13] at hf
      refine lv_iload hx hb dX6_isFree_13 (lv_at hl 3 rfl) ?_
      refine lv_aload_n hx hb dX6_isFree_15 rfl (lv_at hl 0 rfl) ?_
      refine lv_iconst (v := 1) hx hb dX6_isFree_16 (by decide) ?_
      refine dk_iald hx hb hK.1 hP 4 0 rfl rfl hf dX6_isFree_17 (fun d17 hf => ?_)
      refine dk_cge (tgt := 47) hx hb dX6_isFree_18 (by decide) hf (fun hf => ?_) (fun hf => ?_)
      · refine lv_iload_n hx hb dX6_isFree_47 rfl (lv_at hl 2 rfl) ?_
        obtain ⟨q48, hf⟩ := dk_guardT hf
        exact W.zret (v := x3) hx hb hr (dk_zn q48) (fun t ht hW => ⟨x3, rfl, Option.some.inj hf, ht⟩) t_nil dX6_isFree_48
      · refine lv_iload_n hx hb dX6_isFree_21 rfl (lv_at hl 2 rfl) ?_
        refine dk_ieq (tgt := 39) hx hb dX6_isFree_22 (by decide) hf (fun hf => ?_) (fun hf => ?_)
        · refine lv_iconst (v := 0) hx hb dX6_isFree_39 (by decide) ?_
          refine lv_istore_n (lv' := [(3, .int 0), (1, .ref pw), (2, .int x2), (4, .int x4)]) hx hb dX6_isFree_40 rfl hl (by decide) rfl (fun ls hl => ?_)
          refine lv_iinc (v := x4 + 1) (lv' := [(4, .int (x4 + 1)), (3, .int 0), (1, .ref pw), (2, .int x2)]) hx hb dX6_isFree_41 hl (k := 3) rfl rfl (by decide) rfl (fun ls hl => ?_)
          refine lv_goto (tgt := 13) hx hb dX6_isFree_44 (by decide) ?_
          exact ih13 x2 0 (x4 + 1) _ (lv_sub hl [2, 3, 1, 0] rfl) hf
        · refine lv_aload_n hx hb dX6_isFree_25 rfl (lv_at hl 0 rfl) ?_
          refine lv_iconst (v := 3) hx hb dX6_isFree_26 (by decide) ?_
          refine lv_iload hx hb dX6_isFree_27 (lv_at hl 3 rfl) ?_
          refine lv_iadd hx hb dX6_isFree_29 ?_
          refine dk_iald hx hb hK.1 hP 4 0 rfl rfl hf dX6_isFree_30 (fun d30 hf => ?_)
          refine lv_iload_n hx hb dX6_isFree_31 rfl (lv_at hl 1 rfl) ?_
          refine dk_ceq (tgt := 39) hx hb dX6_isFree_32 (by decide) hf (fun hf => ?_) (fun hf => ?_)
          · refine lv_iconst (v := 0) hx hb dX6_isFree_39 (by decide) ?_
            refine lv_istore_n (lv' := [(3, .int 0), (1, .ref pw), (2, .int x2), (4, .int x4)]) hx hb dX6_isFree_40 rfl hl (by decide) rfl (fun ls hl => ?_)
            refine lv_iinc (v := x4 + 1) (lv' := [(4, .int (x4 + 1)), (3, .int 0), (1, .ref pw), (2, .int x2)]) hx hb dX6_isFree_41 hl (k := 3) rfl rfl (by decide) rfl (fun ls hl => ?_)
            refine lv_goto (tgt := 13) hx hb dX6_isFree_44 (by decide) ?_
            exact ih13 x2 0 (x4 + 1) _ (lv_sub hl [2, 3, 1, 0] rfl) hf
          · refine lv_iconst (v := 1) hx hb dX6_isFree_35 (by decide) ?_
            refine lv_goto (tgt := 40) hx hb dX6_isFree_36 (by decide) ?_
            refine lv_istore_n (lv' := [(3, .int 1), (1, .ref pw), (2, .int x2), (4, .int x4)]) hx hb dX6_isFree_40 rfl hl (by decide) rfl (fun ls hl => ?_)
            refine lv_iinc (v := x4 + 1) (lv' := [(4, .int (x4 + 1)), (3, .int 1), (1, .ref pw), (2, .int x2)]) hx hb dX6_isFree_41 hl (k := 3) rfl rfl (by decide) rfl (fun ls hl => ?_)
            refine lv_goto (tgt := 13) hx hb dX6_isFree_44 (by decide) ?_
            exact ih13 x2 1 (x4 + 1) _ (lv_sub hl [2, 3, 1, 0] rfl) hf
  unfold fX6_isFree at hf
  refine lv_aload_n hx hb dX6_isFree_0 rfl (lv_at hl 0 rfl) ?_
  refine lv_aload_n hx hb dX6_isFree_1 rfl (lv_at hl 1 rfl) ?_
  obtain ⟨r2, k2, hf⟩ := dk_bind hf
  refine dk_ri (va_runV (As := [.ref pw]) (rest := []) ⟨hx, hb, hml, hown, hts⟩ (kX6_mayBe l D cy hM aM sdM pw M w r2 k2) (cwV 1 hts gX6_isFree_X6_mayBe rfl rfl rfl (by decide +kernel) ⟨Nat.le_of_ble_eq_true rfl, Nat.le_of_ble_eq_true rfl⟩) (dk_preV hK (hP.sub (ws' := wMs cy hM aM sdM M ++ wRw cy pw 21 w) [0, 1, 2, 3, 4] rfl) (ci := 6) (q0 := 0) rfl rfl) rfl rfl hl.1 rfl (lv_room (Nat.le_of_ble_eq_true rfl)) dX6_isFree_2 ⟨Nat.zero_le _, Nat.zero_le _⟩) ?_
  refine lv_iload_n hx hb dX6_isFree_5 rfl (lv_at hl 2 rfl) ?_
  obtain ⟨r6, k6, hf⟩ := dk_bind hf
  refine dk_ri (va_runS (As := [.int r2, .int v2]) (rest := []) ⟨hx, hb, hml, hown, hts⟩ (kX6_has l D cy r2 v2 r6 k6) (va_cwS 2 hts gX6_isFree_X6_has rfl rfl rfl (by decide +kernel) ⟨Nat.le_of_ble_eq_true rfl, Nat.le_of_ble_eq_true rfl⟩) (dk_preS hK (hP.sub (ws' := []) [] rfl)) rfl rfl hl.1 rfl (lv_room (Nat.le_of_ble_eq_true rfl)) dX6_isFree_6 ⟨Nat.zero_le _, Nat.zero_le _⟩) ?_
  refine lv_istore_n (lv' := [(3, .int r6), (0, .ref hM), (1, .ref pw), (2, .int v2)]) hx hb dX6_isFree_9 rfl hl (by decide) rfl (fun ls hl => ?_)
  refine lv_iconst (v := 0) hx hb dX6_isFree_10 (by decide) ?_
  refine lv_istore (lv' := [(4, .int 0), (3, .int r6), (0, .ref hM), (1, .ref pw), (2, .int v2)]) hx hb dX6_isFree_11 hl (by decide) rfl (fun ls hl => ?_)
  exact L13 1000 v2 r6 0 _ (lv_sub hl [3, 4, 1, 0] rfl) hf
theorem iX6_fated_X6 : ∀ w ∈ wsX60, w ∈ wsX6_fated := fun _ h => List.mem_cons_of_mem _ (List.mem_append_right _ h)
set_option maxHeartbeats 4000000 in
set_option maxRecDepth 100000 in
theorem kX6_fated (l : Launch) (D : va_G) (cy : Nat → ClassId) (hM : Nat) (aM : Nat → Nat) (sdM : Int64) (M : dk_O)  (r : Int32) (hf : fX6_fated M = some r) : dk_RdI l yX6_fated wsX6_fated ({ frames := 3, cells := 0, slots := 0, locals := 68 }) D cy [.ref hM] (wMd cy hM aM sdM M) r := by
  refine Met.ofW (cc := cX6_fated) (maxL := 3) (ret := (some .int)) (by decide) rfl ?_
  intro p e s m args below meth c s₁ B hml hv
  obtain ⟨rfl, hP, hK⟩ := hv
  have hx := B.exec
  have hb := B.bytes
  have hr := B.returns
  have hts := atoms_spec (ws := wsX6_fated) B.pre
  have hown : s.vm.findClass RX6 = some m.cls := findClass_of_methodNamed B.named
  have hlocks := B.notSynchronized
  have hl := lv_entry ([.ref hM]) (n := 3) (Nat.le_of_ble_eq_true rfl)
  rw [lg_entry_eq]
  generalize (lg_sl ([.ref hM]) ++ List.replicate (3 - (lg_sl ([.ref hM])).length) Slot.unset).toArray = ls at hl ⊢
  have hl : lv_has ls 3 [(0, .ref hM)] := hl
  have L4 : ∀ (fu4 : Nat) (x1 : Int32) (x2 : Int32) (ls : Array Slot), lv_has ls 3 [(0, .ref hM), (1, .int x1), (2, .int x2)] → fX6_fated_L4 M fu4 x1 x2 = some r → W p l e (headSpec wsX6_fated ({ frames := 3, cells := 0, slots := 0, locals := 68 })).room s m ([.ref hM]).toArray below meth c s.heap [] 0 0 (MQ below (vp_Si (fun x => x = r)) ([.ref hM]).toArray s 0 0 (fun _ => False)) (F0 m 4 ls []) := by
    intro fu4
    induction fu4 with
    | zero =>
      intro x1 x2 ls hl hf
      rw [fX6_fated_L4] at hf
      cases hf
    | succ fu4 ih4 =>
      intro x1 x2 ls hl hf
      rw [fX6_fated_L4] at hf
      refine lv_iload_n hx hb dX6_fated_4 rfl (lv_at hl 2 rfl) ?_
      refine lv_aload_n hx hb dX6_fated_5 rfl (lv_at hl 0 rfl) ?_
      refine va_get (D := D) (ci := 6) (v := .int (M.1 4)) (C := RX6) (T := TX6) (N := 28) hx hb hts iX6_fated_X6 hown hK.1 hP 0 rfl rfl 4 (by decide) (hts (.fieldLink RX6 13 "DarkPlaceModel" "places" "I") (List.mem_of_getElem? (i := 1) rfl)) (fun _ h9 => h9) rfl dX6_fated_6 ?_
      refine dk_cge (tgt := 40) hx hb dX6_fated_9 (by decide) hf (fun hf => ?_) (fun hf => ?_)
      · refine lv_iload_n hx hb dX6_fated_40 rfl (lv_at hl 1 rfl) ?_
        exact W.iret (v := x1) hx hb hr (fun t ht hW => ⟨x1, rfl, Option.some.inj hf, ht⟩) t_nil dX6_fated_41
      · refine lv_iload_n hx hb dX6_fated_12 rfl (lv_at hl 1 rfl) ?_
        refine lv_aload_n hx hb dX6_fated_13 rfl (lv_at hl 0 rfl) ?_
        refine lv_aload_n hx hb dX6_fated_14 rfl (lv_at hl 0 rfl) ?_
        refine va_get (D := D) (ci := 6) (v := .ref (aM 16)) (C := RX6) (T := TX6) (N := 28) hx hb hts iX6_fated_X6 hown hK.1 hP 0 rfl rfl 16 (by decide) (hts (.fieldLink RX6 29 "DarkPlaceModel" "page" "[I") (List.mem_of_getElem? (i := 2) rfl)) (fun _ h9 => h9) rfl dX6_fated_15 ?_
        refine lv_iload_n hx hb dX6_fated_18 rfl (lv_at hl 2 rfl) ?_
        obtain ⟨r19, k19, hf⟩ := dk_bind hf
        refine dk_ri (va_runV (As := [.ref (aM 16), .int x2]) (rest := [.int x1]) ⟨hx, hb, hml, hown, hts⟩ (kX6_isFree l D cy hM aM sdM (aM 16) M (M.2 16) x2 r19 k19) (cwV 2 hts gX6_fated_X6_isFree rfl rfl rfl (by decide +kernel) ⟨Nat.le_of_ble_eq_true rfl, Nat.le_of_ble_eq_true rfl⟩) (dk_preV hK (hP.sub (ws' := wMs cy hM aM sdM M ++ wRw cy (aM 16) 21 (M.2 16)) [0, 1, 2, 3, 4] rfl) (ci := 6) (q0 := 0) rfl rfl) rfl rfl hl.1 rfl (lv_room (Nat.le_of_ble_eq_true rfl)) dX6_fated_19 ⟨Nat.zero_le _, Nat.zero_le _⟩) ?_
        refine dk_ieq (tgt := 31) hx hb dX6_fated_22 (by decide) hf (fun hf => ?_) (fun hf => ?_)
        · refine lv_iconst (v := 0) hx hb dX6_fated_31 (by decide) ?_
          refine lv_ior hx hb dX6_fated_32 ?_
          refine lv_istore_n (lv' := [(1, .int (x1 ||| 0)), (0, .ref hM), (2, .int x2)]) hx hb dX6_fated_33 rfl hl (by decide) rfl (fun ls hl => ?_)
          refine lv_iinc (v := x2 + 1) (lv' := [(2, .int (x2 + 1)), (1, .int (x1 ||| 0)), (0, .ref hM)]) hx hb dX6_fated_34 hl (k := 2) rfl rfl (by decide) rfl (fun ls hl => ?_)
          refine lv_goto (tgt := 4) hx hb dX6_fated_37 (by decide) ?_
          exact ih4 (x1 ||| 0) (x2 + 1) _ (lv_sub hl [2, 1, 0] rfl) hf
        · refine lv_iconst (v := 1) hx hb dX6_fated_25 (by decide) ?_
          refine lv_iload_n hx hb dX6_fated_26 rfl (lv_at hl 2 rfl) ?_
          refine lv_ishl hx hb dX6_fated_27 ?_
          refine lv_goto (tgt := 32) hx hb dX6_fated_28 (by decide) ?_
          refine lv_ior hx hb dX6_fated_32 ?_
          refine lv_istore_n (lv' := [(1, .int (x1 ||| ((1 : Int32) <<< (x2 &&& 31)))), (0, .ref hM), (2, .int x2)]) hx hb dX6_fated_33 rfl hl (by decide) rfl (fun ls hl => ?_)
          refine lv_iinc (v := x2 + 1) (lv' := [(2, .int (x2 + 1)), (1, .int (x1 ||| ((1 : Int32) <<< (x2 &&& 31)))), (0, .ref hM)]) hx hb dX6_fated_34 hl (k := 2) rfl rfl (by decide) rfl (fun ls hl => ?_)
          refine lv_goto (tgt := 4) hx hb dX6_fated_37 (by decide) ?_
          exact ih4 (x1 ||| ((1 : Int32) <<< (x2 &&& 31))) (x2 + 1) _ (lv_sub hl [2, 1, 0] rfl) hf
  unfold fX6_fated at hf
  refine lv_iconst (v := 0) hx hb dX6_fated_0 (by decide) ?_
  refine lv_istore_n (lv' := [(1, .int 0), (0, .ref hM)]) hx hb dX6_fated_1 rfl hl (by decide) rfl (fun ls hl => ?_)
  refine lv_iconst (v := 0) hx hb dX6_fated_2 (by decide) ?_
  refine lv_istore_n (lv' := [(2, .int 0), (1, .int 0), (0, .ref hM)]) hx hb dX6_fated_3 rfl hl (by decide) rfl (fun ls hl => ?_)
  exact L4 1000 0 0 _ (lv_sub hl [2, 1, 0] rfl) hf
theorem iX6_write_X6 : ∀ w ∈ wsX60, w ∈ wsX6_write := fun _ h => List.mem_cons_of_mem _ (List.mem_append_right _ h)
set_option maxHeartbeats 4000000 in
set_option maxRecDepth 100000 in
theorem kX6_write (l : Launch) (D : va_G) (cy : Nat → ClassId) (hM : Nat) (aM : Nat → Nat) (sdM : Int64) (sz : Nat) (M : dk_O) (v1 : Int32) (r : Int32) (oM_I : (Nat → Int32)) (oM_1 : (Nat → Int32)) (hf : fX6_write M v1 = some (r, oM_I, oM_1)) : dk_MuI l yX6_write wsX6_write ({ frames := 1, cells := 0, slots := 0, locals := 25 }) D cy [.ref hM, .int v1] (wMd cy hM aM sdM M) (wMd cy hM aM sdM (oM_I, dk_upA M.2 1 oM_1)) sz r := by
  refine Met.ofW (cc := cX6_write) (maxL := 2) (ret := (some .int)) (by decide) rfl ?_
  intro p e s m args below meth c s₁ B hml hv
  obtain ⟨rfl, hsz, hP, hK, hD0⟩ := hv
  have hx := B.exec
  have hb := B.bytes
  have hr := B.returns
  have hts := atoms_spec (ws := wsX6_write) B.pre
  have hown : s.vm.findClass RX6 = some m.cls := findClass_of_methodNamed B.named
  have hlocks := B.notSynchronized
  subst hsz
  have hD := hD0.self (sz := s.heap.size)
  generalize hAe : va_A (wMd cy hM aM sdM M) s.heap.size = A at hD ⊢
  have hA : ∀ q : Nat, s.heap.size ≤ q → A q := fun q h => by rw [← hAe]; exact Or.inr h
  have hS : va_S A s.heap s.heap [] := va_S.rf
  have hl := lv_entry ([.ref hM, .int v1]) (n := 2) (Nat.le_of_ble_eq_true rfl)
  rw [lg_entry_eq]
  generalize (lg_sl ([.ref hM, .int v1]) ++ List.replicate (2 - (lg_sl ([.ref hM, .int v1])).length) Slot.unset).toArray = ls at hl ⊢
  have hl : lv_has ls 2 [(0, .ref hM), (1, .int v1)] := hl
  unfold fX6_write at hf
  refine lv_aload_n hx hb dX6_write_0 rfl (lv_at hl 0 rfl) ?_
  refine lv_iconst (v := 0) hx hb dX6_write_1 (by decide) ?_
  refine va_put (D := D) (ci := 6) (v := .int 0) (ty := .int) (C := RX6) (T := TX6) (N := 28) hx hb hts iX6_write_X6 tyX6 tyX6_ok nmX6 hown hK.1 hP hD hS 0 rfl rfl 0 (by decide) (hts (.fieldLink RX6 61 "DarkPlaceModel" "thrown" "I") (List.mem_of_getElem? (i := 1) rfl)) (fun _ h9 => h9) rfl (by decide +kernel) rfl rfl (Nat.le_of_ble_eq_true rfl) dX6_write_2 (fun H locs hP hD hS => ?_)
  have hP : va_P D vwCl (wMd cy hM aM sdM (upd M.1 0 0, M.2)) H := hP
  have hD : va_D A (wMd cy hM aM sdM (upd M.1 0 0, M.2)) := hD
  refine lv_iload_n hx hb dX6_write_5 rfl (lv_at hl 1 rfl) ?_
  refine lv_i2l hx hb dX6_write_6 rfl ?_
  refine lv_lconst (v := 0) hx hb dX6_write_7 (by decide) ?_
  refine lv_ldc2 hx hb hown (hts (.constantLong RX6 124 (255)) (List.mem_of_getElem? (i := 2) rfl)) dX6_write_8 ?_
  obtain ⟨r11, k11, hf⟩ := dk_bind hf
  refine dk_ri (va_runS (As := [.long v1.toInt64, .long 0, .long 255]) (rest := []) ⟨hx, hb, hml, hown, hts⟩ (kX6_in l D cy v1.toInt64 0 255 r11 k11) (va_cwS 3 hts gX6_write_X6_in rfl rfl rfl (by decide +kernel) ⟨Nat.le_of_ble_eq_true rfl, Nat.le_of_ble_eq_true rfl⟩) (dk_preS hK (hP.sub (ws' := []) [] rfl)) rfl rfl hl.1 rfl (lv_room (Nat.le_of_ble_eq_true rfl)) dX6_write_11 ⟨Nat.zero_le _, Nat.zero_le _⟩) ?_
  refine dk_ine (tgt := 20) hx hb dX6_write_14 (by decide) hf (fun hf => ?_) (fun hf => ?_)
  · refine lv_aload_n hx hb dX6_write_20 rfl (lv_at hl 0 rfl) ?_
    refine va_get (D := D) (ci := 6) (v := .int (M.1 2)) (C := RX6) (T := TX6) (N := 28) hx hb hts iX6_write_X6 hown hK.1 hP 0 rfl rfl 2 (by decide) (hts (.fieldLink RX6 126 "DarkPlaceModel" "textSize" "I") (List.mem_of_getElem? (i := 3) rfl)) (fun _ h9 => h9) rfl dX6_write_21 ?_
    refine lv_bipush (v := 40) hx hb dX6_write_24 (by decide) ?_
    refine dk_cne (tgt := 32) hx hb dX6_write_26 (by decide) hf (fun hf => ?_) (fun hf => ?_)
    · refine lv_aload_n hx hb dX6_write_32 rfl (lv_at hl 0 rfl) ?_
      refine va_get (D := D) (ci := 6) (v := .ref (aM 1)) (C := RX6) (T := TX6) (N := 28) hx hb hts iX6_write_X6 hown hK.1 hP 0 rfl rfl 1 (by decide) (hts (.fieldLink RX6 7 "DarkPlaceModel" "text" "[I") (List.mem_of_getElem? (i := 4) rfl)) (fun _ h9 => h9) rfl dX6_write_33 ?_
      refine lv_aload_n hx hb dX6_write_36 rfl (lv_at hl 0 rfl) ?_
      refine va_get (D := D) (ci := 6) (v := .int (M.1 2)) (C := RX6) (T := TX6) (N := 28) hx hb hts iX6_write_X6 hown hK.1 hP 0 rfl rfl 2 (by decide) (hts (.fieldLink RX6 126 "DarkPlaceModel" "textSize" "I") (List.mem_of_getElem? (i := 3) rfl)) (fun _ h9 => h9) rfl dX6_write_37 ?_
      refine lv_iload_n hx hb dX6_write_40 rfl (lv_at hl 1 rfl) ?_
      refine dk_iast hx hb hK.1 hP hD hS 6 0 rfl rfl hf dX6_write_41 (fun f41 H locs hP hD hS hf => ?_)
      have hP : va_P D vwCl (wMd cy hM aM sdM (upd M.1 0 0, dk_upA M.2 1 f41)) H := hP
      have hD : va_D A (wMd cy hM aM sdM (upd M.1 0 0, dk_upA M.2 1 f41)) := hD
      refine lv_aload_n hx hb dX6_write_42 rfl (lv_at hl 0 rfl) ?_
      refine lv_dup hx hb dX6_write_43 rfl ?_
      refine va_get (D := D) (ci := 6) (v := .int (M.1 2)) (C := RX6) (T := TX6) (N := 28) hx hb hts iX6_write_X6 hown hK.1 hP 0 rfl rfl 2 (by decide) (hts (.fieldLink RX6 126 "DarkPlaceModel" "textSize" "I") (List.mem_of_getElem? (i := 3) rfl)) (fun _ h9 => h9) rfl dX6_write_44 ?_
      refine lv_iconst (v := 1) hx hb dX6_write_47 (by decide) ?_
      refine lv_iadd hx hb dX6_write_48 ?_
      refine va_put (D := D) (ci := 6) (v := .int ((M.1 2) + 1)) (ty := .int) (C := RX6) (T := TX6) (N := 28) hx hb hts iX6_write_X6 tyX6 tyX6_ok nmX6 hown hK.1 hP hD hS 0 rfl rfl 2 (by decide) (hts (.fieldLink RX6 126 "DarkPlaceModel" "textSize" "I") (List.mem_of_getElem? (i := 3) rfl)) (fun _ h9 => h9) rfl (by decide +kernel) rfl rfl (Nat.le_of_ble_eq_true rfl) dX6_write_49 (fun H locs hP hD hS => ?_)
      have hP : va_P D vwCl (wMd cy hM aM sdM (upd (upd M.1 0 0) 2 ((M.1 2) + 1), dk_upA M.2 1 f41)) H := hP
      have hD : va_D A (wMd cy hM aM sdM (upd (upd M.1 0 0) 2 ((M.1 2) + 1), dk_upA M.2 1 f41)) := hD
      refine lv_aload_n hx hb dX6_write_52 rfl (lv_at hl 0 rfl) ?_
      refine va_get (D := D) (ci := 6) (v := .int ((M.1 2) + 1)) (C := RX6) (T := TX6) (N := 28) hx hb hts iX6_write_X6 hown hK.1 hP 0 rfl rfl 2 (by decide) (hts (.fieldLink RX6 126 "DarkPlaceModel" "textSize" "I") (List.mem_of_getElem? (i := 3) rfl)) (fun _ h9 => h9) rfl dX6_write_53 ?_
      have e := Option.some.inj hf
      simp only [Prod.mk.injEq] at e
      obtain ⟨e0, e1, e2⟩ := e
      subst e1
      subst e2
      exact W.iret (v := (M.1 2) + 1) hx hb hr (fun t ht hW => ⟨⟨(M.1 2) + 1, (), rfl, e0, by rw [ht]; exact hP, hD⟩, hS.F ht⟩) hS.2.2 dX6_write_56
    · refine lv_bipush (v := (-4)) hx hb dX6_write_29 (by decide) ?_
      have e := Option.some.inj hf
      simp only [Prod.mk.injEq] at e
      obtain ⟨e0, e1, e2⟩ := e
      subst e1
      subst e2
      exact W.iret (v := (-4)) hx hb hr (fun t ht hW => ⟨⟨(-4), (), rfl, e0, by rw [ht]; exact hP, hD⟩, hS.F ht⟩) hS.2.2 dX6_write_31
  · refine lv_bipush (v := (-2)) hx hb dX6_write_17 (by decide) ?_
    have e := Option.some.inj hf
    simp only [Prod.mk.injEq] at e
    obtain ⟨e0, e1, e2⟩ := e
    subst e1
    subst e2
    exact W.iret (v := (-2)) hx hb hr (fun t ht hW => ⟨⟨(-2), (), rfl, e0, by rw [ht]; exact hP, hD⟩, hS.F ht⟩) hS.2.2 dX6_write_19
