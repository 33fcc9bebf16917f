-- printed by wip/gen (walks of the bytecode)
theorem iX6_layFirst_X6 : ∀ w ∈ wsX60, w ∈ wsX6_layFirst := fun _ h => List.mem_cons_of_mem _ (List.mem_append_right _ h)
set_option maxHeartbeats 4000000 in
set_option maxRecDepth 100000 in
theorem kX6_layFirst (l : Launch) (D : va_G) (cy : Nat → ClassId) (hM : Nat) (aM : Nat → Nat) (sdM : Int64) (pw : Nat) (sz : Nat) (M : dk_O) (w : Nat → Int32) (v2 : Int32) (v3 : Int32) (ow_row : (Nat → Int32)) (hf : fX6_layFirst M w v2 v3 = some ow_row) : dk_MuV l yX6_layFirst wsX6_layFirst ({ frames := 0, cells := 0, slots := 0, locals := 0 }) D cy [.ref hM, .ref pw, .int v2, .int v3] (wMs cy hM aM sdM M ++ wRw cy pw 21 w) (wMs cy hM aM sdM M ++ wRw cy pw 21 ow_row) sz := by
  refine Met.ofW (cc := cX6_layFirst) (maxL := 5) (ret := none) (by decide) rfl ?_
  intro p e s m args below meth c s₁ B hml hv
  obtain ⟨rfl, hsz, hP, hK, hD0⟩ := hv
  have hx := B.exec
  have hb := B.bytes
  have hr := B.returns
  have hts := atoms_spec (ws := wsX6_layFirst) B.pre
  have hown : s.vm.findClass RX6 = some m.cls := findClass_of_methodNamed B.named
  have hlocks := B.notSynchronized
  subst hsz
  have hD := hD0.self (sz := s.heap.size)
  generalize hAe : va_A (wMs cy hM aM sdM M ++ wRw cy pw 21 w) s.heap.size = A at hD ⊢
  have hA : ∀ q : Nat, s.heap.size ≤ q → A q := fun q h => by rw [← hAe]; exact Or.inr h
  have hS : va_S A s.heap s.heap [] := va_S.rf
  have hl := lv_entry ([.ref hM, .ref pw, .int v2, .int v3]) (n := 5) (Nat.le_of_ble_eq_true rfl)
  rw [lg_entry_eq]
  generalize (lg_sl ([.ref hM, .ref pw, .int v2, .int v3]) ++ List.replicate (5 - (lg_sl ([.ref hM, .ref pw, .int v2, .int v3])).length) Slot.unset).toArray = ls at hl ⊢
  have hl : lv_has ls 5 [(0, .ref hM), (1, .ref pw), (2, .int v2), (3, .int v3)] := hl
  have L32 : ∀ (fu32 : Nat) (x4 : Int32) (w_row : (Nat → Int32)) (H : Heap) (locs : List Loc) (ls : Array Slot), va_P D vwCl (wMs cy hM aM sdM M ++ wRw cy pw 21 w_row) H → va_D A (wMs cy hM aM sdM M ++ wRw cy pw 21 w_row) → va_S A s.heap H locs → lv_has ls 5 [(0, .ref hM), (1, .ref pw), (4, .int x4)] → fX6_layFirst_L32 M w fu32 x4 w_row = some ow_row → W p l e (headSpec wsX6_layFirst ({ frames := 0, cells := 0, slots := 0, locals := 0 })).room s m ([.ref hM, .ref pw, .int v2, .int v3]).toArray below meth c H locs 0 0 (MQ below (va_Qv (fun (_ : Unit) => True) (dk_B D (wMs cy hM aM sdM M ++ wRw cy pw 21 ow_row) A) A) ([.ref hM, .ref pw, .int v2, .int v3]).toArray s 0 0 A) (F0 m 32 ls []) := by
    intro fu32
    induction fu32 with
    | zero =>
      intro x4 w_row H locs ls hP hD hS hl hf
      rw [fX6_layFirst_L32] at hf
      cases hf
    | succ fu32 ih32 =>
      intro x4 w_row H locs ls hP hD hS hl hf
      rw [fX6_layFirst_L32] at hf
      refine lv_iload hx hb dX6_layFirst_32 (lv_at hl 2 rfl) ?_
      refine lv_iconst (v := 4) hx hb dX6_layFirst_34 (by decide) ?_
      refine dk_cge (tgt := 54) hx hb dX6_layFirst_35 (by decide) hf (fun hf => ?_) (fun hf => ?_)
      · have e0 := Option.some.inj hf
        subst e0
        exact W.vret hx hb hr (fun t ht hW => ⟨⟨(), rfl, trivial, by rw [ht]; exact hP, hD⟩, hS.F ht⟩) hS.2.2 dX6_layFirst_54
      · refine lv_aload_n hx hb dX6_layFirst_38 rfl (lv_at hl 1 rfl) ?_
        refine lv_iconst (v := 3) hx hb dX6_layFirst_39 (by decide) ?_
        refine lv_iload hx hb dX6_layFirst_40 (lv_at hl 2 rfl) ?_
        refine lv_iadd hx hb dX6_layFirst_42 ?_
        refine lv_aload_n hx hb dX6_layFirst_43 rfl (lv_at hl 0 rfl) ?_
        refine va_get (D := D) (ci := 6) (v := .int (M.1 5)) (C := RX6) (T := TX6) (N := 28) hx hb hts iX6_layFirst_X6 hown hK.1 hP 0 rfl rfl 5 (by decide) (hts (.fieldLink RX6 64 "DarkPlaceModel" "home" "I") (List.mem_of_getElem? (i := 1) rfl)) (fun _ h9 => h9) rfl dX6_layFirst_44 ?_
        refine dk_iast hx hb hK.1 hP hD hS 4 0 rfl rfl hf dX6_layFirst_47 (fun f47 H locs hP hD hS hf => ?_)
        have hP : va_P D vwCl (wMs cy hM aM sdM M ++ wRw cy pw 21 f47) H := hP
        have hD : va_D A (wMs cy hM aM sdM M ++ wRw cy pw 21 f47) := hD
        refine lv_iinc (v := x4 + 1) (lv' := [(4, .int (x4 + 1)), (0, .ref hM), (1, .ref pw)]) hx hb dX6_layFirst_48 hl (k := 2) rfl rfl (by decide) rfl (fun ls hl => ?_)
        refine lv_goto (tgt := 32) hx hb dX6_layFirst_51 (by decide) ?_
        exact ih32 (x4 + 1) f47 _ _ _ hP hD hS (lv_sub hl [1, 2, 0] rfl) hf
  have L3 : ∀ (fu3 : Nat) (x2 : Int32) (x3 : Int32) (x4 : Int32) (w_row : (Nat → Int32)) (H : Heap) (locs : List Loc) (ls : Array Slot), va_P D vwCl (wMs cy hM aM sdM M ++ wRw cy pw 21 w_row) H → va_D A (wMs cy hM aM sdM M ++ wRw cy pw 21 w_row) → va_S A s.heap H locs → lv_has ls 5 [(0, .ref hM), (1, .ref pw), (2, .int x2), (3, .int x3), (4, .int x4)] → fX6_layFirst_L3 M w fu3 x2 x3 x4 w_row = some ow_row → W p l e (headSpec wsX6_layFirst ({ frames := 0, cells := 0, slots := 0, locals := 0 })).room s m ([.ref hM, .ref pw, .int v2, .int v3]).toArray below meth c H locs 0 0 (MQ below (va_Qv (fun (_ : Unit) => True) (dk_B D (wMs cy hM aM sdM M ++ wRw cy pw 21 ow_row) A) A) ([.ref hM, .ref pw, .int v2, .int v3]).toArray s 0 0 A) (F0 m 3 ls []) := by
    intro fu3
    induction fu3 with
    | zero =>
      intro x2 x3 x4 w_row H locs ls hP hD hS hl hf
      rw [fX6_layFirst_L3] at hf
      cases hf
    | succ fu3 ih3 =>
      intro x2 x3 x4 w_row H locs ls hP hD hS hl hf
      rw [fX6_layFirst_L3] at hf
      refine lv_iload hx hb dX6_layFirst_3 (lv_at hl 4 rfl) ?_
      refine lv_bipush (v := 21) hx hb dX6_layFirst_5 (by decide) ?_
      refine dk_cge (tgt := 21) hx hb dX6_layFirst_7 (by decide) hf (fun hf => ?_) (fun hf => ?_)
      · refine lv_aload_n hx hb dX6_layFirst_21 rfl (lv_at hl 1 rfl) ?_
        refine lv_iconst (v := 0) hx hb dX6_layFirst_22 (by decide) ?_
        refine lv_iload_n hx hb dX6_layFirst_23 rfl (lv_at hl 2 rfl) ?_
        refine dk_iast hx hb hK.1 hP hD hS 4 0 rfl rfl hf dX6_layFirst_24 (fun f24 H locs hP hD hS hf => ?_)
        have hP : va_P D vwCl (wMs cy hM aM sdM M ++ wRw cy pw 21 f24) H := hP
        have hD : va_D A (wMs cy hM aM sdM M ++ wRw cy pw 21 f24) := hD
        refine lv_aload_n hx hb dX6_layFirst_25 rfl (lv_at hl 1 rfl) ?_
        refine lv_iconst (v := 1) hx hb dX6_layFirst_26 (by decide) ?_
        refine lv_iload_n hx hb dX6_layFirst_27 rfl (lv_at hl 3 rfl) ?_
        refine dk_iast hx hb hK.1 hP hD hS 4 0 rfl rfl hf dX6_layFirst_28 (fun f28 H locs hP hD hS hf => ?_)
        have hP : va_P D vwCl (wMs cy hM aM sdM M ++ wRw cy pw 21 f28) H := hP
        have hD : va_D A (wMs cy hM aM sdM M ++ wRw cy pw 21 f28) := hD
        refine lv_iconst (v := 0) hx hb dX6_layFirst_29 (by decide) ?_
        refine lv_istore (lv' := [(4, .int 0), (0, .ref hM), (1, .ref pw), (2, .int x2), (3, .int x3)]) hx hb dX6_layFirst_30 hl (by decide) rfl (fun ls hl => ?_)
        exact L32 1000 0 f28 _ _ _ hP hD hS (lv_sub hl [1, 2, 0] rfl) hf
      · refine lv_aload_n hx hb dX6_layFirst_10 rfl (lv_at hl 1 rfl) ?_
        refine lv_iload hx hb dX6_layFirst_11 (lv_at hl 4 rfl) ?_
        refine lv_iconst (v := 0) hx hb dX6_layFirst_13 (by decide) ?_
        refine dk_iast hx hb hK.1 hP hD hS 4 0 rfl rfl hf dX6_layFirst_14 (fun f14 H locs hP hD hS hf => ?_)
        have hP : va_P D vwCl (wMs cy hM aM sdM M ++ wRw cy pw 21 f14) H := hP
        have hD : va_D A (wMs cy hM aM sdM M ++ wRw cy pw 21 f14) := hD
        refine lv_iinc (v := x4 + 1) (lv' := [(4, .int (x4 + 1)), (0, .ref hM), (1, .ref pw), (2, .int x2), (3, .int x3)]) hx hb dX6_layFirst_15 hl (k := 4) rfl rfl (by decide) rfl (fun ls hl => ?_)
        refine lv_goto (tgt := 3) hx hb dX6_layFirst_18 (by decide) ?_
        exact ih3 x2 x3 (x4 + 1) f14 _ _ _ hP hD hS (lv_sub hl [1, 2, 3, 4, 0] rfl) hf
  unfold fX6_layFirst at hf
  refine lv_iconst (v := 0) hx hb dX6_layFirst_0 (by decide) ?_
  refine lv_istore (lv' := [(4, .int 0), (0, .ref hM), (1, .ref pw), (2, .int v2), (3, .int v3)]) hx hb dX6_layFirst_1 hl (by decide) rfl (fun ls hl => ?_)
  exact L3 1000 v2 v3 0 w _ _ _ hP hD hS (lv_sub hl [1, 2, 3, 4, 0] rfl) hf
set_option maxHeartbeats 4000000 in
set_option maxRecDepth 100000 in
theorem kX6_in (l : Launch) (D : va_G) (cy : Nat → ClassId)   (v0 : Int64) (v2 : Int64) (v4 : Int64) (r : Int32) (hf : fX6_in v0 v2 v4 = some r) : dk_RdI l yX6_in wsX6_in ({ frames := 0, cells := 0, slots := 0, locals := 0 }) D cy [.long v0, .long v2, .long v4] (([] : va_W)) r := by
  refine Met.ofW (cc := cX6_in) (maxL := 6) (ret := (some .boolean)) (by decide) rfl ?_
  intro p e s m args below meth c s₁ B hml hv
  obtain ⟨rfl, hP, hK⟩ := hv
  have hx := B.exec
  have hb := B.bytes
  have hr := B.returns
  have hts := atoms_spec (ws := wsX6_in) B.pre
  have hown : s.vm.findClass RX6 = some m.cls := findClass_of_methodNamed B.named
  have hlocks := B.notSynchronized
  have hl := lv_entry ([.long v0, .long v2, .long v4]) (n := 6) (Nat.le_of_ble_eq_true rfl)
  rw [lg_entry_eq]
  generalize (lg_sl ([.long v0, .long v2, .long v4]) ++ List.replicate (6 - (lg_sl ([.long v0, .long v2, .long v4])).length) Slot.unset).toArray = ls at hl ⊢
  have hl : lv_has ls 6 [(0, .long v0), (2, .long v2), (4, .long v4)] := hl
  unfold fX6_in at hf
  refine lv_lload_n hx hb dX6_in_0 rfl (lv_at hl 0 rfl) ?_
  refine lv_lload_n hx hb dX6_in_1 rfl (lv_at hl 1 rfl) ?_
  refine W.lcmp hx hb dX6_in_2 ?_
  refine dk_ilt (tgt := 17) hx hb dX6_in_3 (by decide) hf (fun hf => ?_) (fun hf => ?_)
  · refine lv_iconst (v := 0) hx hb dX6_in_17 (by decide) ?_
    exact W.zret (v := 0) hx hb hr rfl (fun t ht hW => ⟨0, rfl, Option.some.inj hf, ht⟩) t_nil dX6_in_18
  · refine lv_lload_n hx hb dX6_in_6 rfl (lv_at hl 0 rfl) ?_
    refine lv_lload hx hb dX6_in_7 (lv_at hl 2 rfl) ?_
    refine W.lcmp hx hb dX6_in_9 ?_
    refine dk_igt (tgt := 17) hx hb dX6_in_10 (by decide) hf (fun hf => ?_) (fun hf => ?_)
    · refine lv_iconst (v := 0) hx hb dX6_in_17 (by decide) ?_
      exact W.zret (v := 0) hx hb hr rfl (fun t ht hW => ⟨0, rfl, Option.some.inj hf, ht⟩) t_nil dX6_in_18
    · refine lv_iconst (v := 1) hx hb dX6_in_13 (by decide) ?_
      refine lv_goto (tgt := 18) hx hb dX6_in_14 (by decide) ?_
      exact W.zret (v := 1) hx hb hr rfl (fun t ht hW => ⟨1, rfl, Option.some.inj hf, ht⟩) t_nil dX6_in_18
set_option maxHeartbeats 4000000 in
set_option maxRecDepth 100000 in
theorem kX6_has (l : Launch) (D : va_G) (cy : Nat → ClassId)   (v0 : Int32) (v1 : Int32) (r : Int32) (hf : fX6_has v0 v1 = some r) : dk_RdI l yX6_has wsX6_has ({ frames := 0, cells := 0, slots := 0, locals := 0 }) D cy [.int v0, .int v1] (([] : va_W)) r := by
  refine Met.ofW (cc := cX6_has) (maxL := 2) (ret := (some .boolean)) (by decide) rfl ?_
  intro p e s m args below meth c s₁ B hml hv
  obtain ⟨rfl, hP, hK⟩ := hv
  have hx := B.exec
  have hb := B.bytes
  have hr := B.returns
  have hts := atoms_spec (ws := wsX6_has) B.pre
  have hown : s.vm.findClass RX6 = some m.cls := findClass_of_methodNamed B.named
  have hlocks := B.notSynchronized
  have hl := lv_entry ([.int v0, .int v1]) (n := 2) (Nat.le_of_ble_eq_true rfl)
  rw [lg_entry_eq]
  generalize (lg_sl ([.int v0, .int v1]) ++ List.replicate (2 - (lg_sl ([.int v0, .int v1])).length) Slot.unset).toArray = ls at hl ⊢
  have hl : lv_has ls 2 [(0, .int v0), (1, .int v1)] := hl
  unfold fX6_has at hf
  refine lv_iload_n hx hb dX6_has_0 rfl (lv_at hl 0 rfl) ?_
  refine lv_iload_n hx hb dX6_has_1 rfl (lv_at hl 1 rfl) ?_
  refine lv_ishr hx hb dX6_has_2 ?_
  refine lv_iconst (v := 1) hx hb dX6_has_3 (by decide) ?_
  refine lv_iand hx hb dX6_has_4 ?_
  refine lv_iconst (v := 1) hx hb dX6_has_5 (by decide) ?_
  refine dk_cne (tgt := 13) hx hb dX6_has_6 (by decide) hf (fun hf => ?_) (fun hf => ?_)
  · refine lv_iconst (v := 0) hx hb dX6_has_13 (by decide) ?_
    exact W.zret (v := 0) hx hb hr rfl (fun t ht hW => ⟨0, rfl, Option.some.inj hf, ht⟩) t_nil dX6_has_14
  · refine lv_iconst (v := 1) hx hb dX6_has_9 (by decide) ?_
    refine lv_goto (tgt := 14) hx hb dX6_has_10 (by decide) ?_
    exact W.zret (v := 1) hx hb hr rfl (fun t ht hW => ⟨1, rfl, Option.some.inj hf, ht⟩) t_nil dX6_has_14
set_option maxHeartbeats 4000000 in
set_option maxRecDepth 100000 in
theorem kX6_ones (l : Launch) (D : va_G) (cy : Nat → ClassId)   (v0 : Int32) (r : Int32) (hf : fX6_ones v0 = some r) : dk_RdI l yX6_ones wsX6_ones ({ frames := 0, cells := 0, slots := 0, locals := 0 }) D cy [.int v0] (([] : va_W)) r := by
  refine Met.ofW (cc := cX6_ones) (maxL := 3) (ret := (some .int)) (by decide) rfl ?_
  intro p e s m args below meth c s₁ B hml hv
  obtain ⟨rfl, hP, hK⟩ := hv
  have hx := B.exec
  have hb := B.bytes
  have hr := B.returns
  have hts := atoms_spec (ws := wsX6_ones) B.pre
  have hown : s.vm.findClass RX6 = some m.cls := findClass_of_methodNamed B.named
  have hlocks := B.notSynchronized
  have hl := lv_entry ([.int v0]) (n := 3) (Nat.le_of_ble_eq_true rfl)
  rw [lg_entry_eq]
  generalize (lg_sl ([.int v0]) ++ List.replicate (3 - (lg_sl ([.int v0])).length) Slot.unset).toArray = ls at hl ⊢
  have hl : lv_has ls 3 [(0, .int v0)] := hl
  have L4 : ∀ (fu4 : Nat) (x0 : Int32) (x1 : Int32) (x2 : Int32) (ls : Array Slot), lv_has ls 3 [(0, .int x0), (1, .int x1), (2, .int x2)] → fX6_ones_L4 fu4 x0 x1 x2 = some r → W p l e (headSpec wsX6_ones ({ frames := 0, cells := 0, slots := 0, locals := 0 })).room s m ([.int v0]).toArray below meth c s.heap [] 0 0 (MQ below (vp_Si (fun x => x = r)) ([.int v0]).toArray s 0 0 (fun _ => False)) (F0 m 4 ls []) := by
    intro fu4
    induction fu4 with
    | zero =>
      intro x0 x1 x2 ls hl hf
      rw [fX6_ones_L4] at hf
      cases hf
    | succ fu4 ih4 =>
      intro x0 x1 x2 ls hl hf
      rw [fX6_ones_L4] at hf
      refine lv_iload_n hx hb dX6_ones_4 rfl (lv_at hl 2 rfl) ?_
      refine lv_bipush (v := 12) hx hb dX6_ones_5 (by decide) ?_
      refine dk_cge (tgt := 24) hx hb dX6_ones_7 (by decide) hf (fun hf => ?_) (fun hf => ?_)
      · refine lv_iload_n hx hb dX6_ones_24 rfl (lv_at hl 1 rfl) ?_
        exact W.iret (v := x1) hx hb hr (fun t ht hW => ⟨x1, rfl, Option.some.inj hf, ht⟩) t_nil dX6_ones_25
      · refine lv_iload_n hx hb dX6_ones_10 rfl (lv_at hl 1 rfl) ?_
        refine lv_iload_n hx hb dX6_ones_11 rfl (lv_at hl 0 rfl) ?_
        refine lv_iload_n hx hb dX6_ones_12 rfl (lv_at hl 2 rfl) ?_
        refine lv_ishr hx hb dX6_ones_13 ?_
        refine lv_iconst (v := 1) hx hb dX6_ones_14 (by decide) ?_
        refine lv_iand hx hb dX6_ones_15 ?_
        refine lv_iadd hx hb dX6_ones_16 ?_
        refine lv_istore_n (lv' := [(1, .int (x1 + ((x0 >>> (x2 &&& 31)) &&& 1))), (0, .int x0), (2, .int x2)]) hx hb dX6_ones_17 rfl hl (by decide) rfl (fun ls hl => ?_)
        refine lv_iinc (v := x2 + 1) (lv' := [(2, .int (x2 + 1)), (1, .int (x1 + ((x0 >>> (x2 &&& 31)) &&& 1))), (0, .int x0)]) hx hb dX6_ones_18 hl (k := 2) rfl rfl (by decide) rfl (fun ls hl => ?_)
        refine lv_goto (tgt := 4) hx hb dX6_ones_21 (by decide) ?_
        exact ih4 x0 (x1 + ((x0 >>> (x2 &&& 31)) &&& 1)) (x2 + 1) _ (lv_sub hl [2, 1, 0] rfl) hf
  unfold fX6_ones at hf
  refine lv_iconst (v := 0) hx hb dX6_ones_0 (by decide) ?_
  refine lv_istore_n (lv' := [(1, .int 0), (0, .int v0)]) hx hb dX6_ones_1 rfl hl (by decide) rfl (fun ls hl => ?_)
  refine lv_iconst (v := 0) hx hb dX6_ones_2 (by decide) ?_
  refine lv_istore_n (lv' := [(2, .int 0), (1, .int 0), (0, .int v0)]) hx hb dX6_ones_3 rfl hl (by decide) rfl (fun ls hl => ?_)
  exact L4 1000 v0 0 0 _ (lv_sub hl [2, 1, 0] rfl) hf
set_option maxHeartbeats 4000000 in
set_option maxRecDepth 100000 in
theorem kX6_lay (l : Launch) (D : va_G) (cy : Nat → ClassId) (pw : Nat) (pu : Nat) (sz : Nat) (w : Nat → Int32) (u : Nat → Int32)  (ou_row : (Nat → Int32)) (hf : fX6_lay w u = some ou_row) : dk_MuV l yX6_lay wsX6_lay ({ frames := 0, cells := 0, slots := 0, locals := 0 }) D cy [.ref pw, .ref pu] (wRw cy pw 21 w ++ wRw cy pu 21 u) (wRw cy pw 21 w ++ wRw cy pu 21 ou_row) sz := by
  refine Met.ofW (cc := cX6_lay) (maxL := 3) (ret := none) (by decide) rfl ?_
  intro p e s m args below meth c s₁ B hml hv
  obtain ⟨rfl, hsz, hP, hK, hD0⟩ := hv
  have hx := B.exec
  have hb := B.bytes
  have hr := B.returns
  have hts := atoms_spec (ws := wsX6_lay) B.pre
  have hown : s.vm.findClass RX6 = some m.cls := findClass_of_methodNamed B.named
  have hlocks := B.notSynchronized
  subst hsz
  have hD := hD0.self (sz := s.heap.size)
  generalize hAe : va_A (wRw cy pw 21 w ++ wRw cy pu 21 u) s.heap.size = A at hD ⊢
  have hA : ∀ q : Nat, s.heap.size ≤ q → A q := fun q h => by rw [← hAe]; exact Or.inr h
  have hS : va_S A s.heap s.heap [] := va_S.rf
  have hl := lv_entry ([.ref pw, .ref pu]) (n := 3) (Nat.le_of_ble_eq_true rfl)
  rw [lg_entry_eq]
  generalize (lg_sl ([.ref pw, .ref pu]) ++ List.replicate (3 - (lg_sl ([.ref pw, .ref pu])).length) Slot.unset).toArray = ls at hl ⊢
  have hl : lv_has ls 3 [(0, .ref pw), (1, .ref pu)] := hl
  have L2 : ∀ (fu2 : Nat) (x2 : Int32) (u_row : (Nat → Int32)) (H : Heap) (locs : List Loc) (ls : Array Slot), va_P D vwCl (wRw cy pw 21 w ++ wRw cy pu 21 u_row) H → va_D A (wRw cy pw 21 w ++ wRw cy pu 21 u_row) → va_S A s.heap H locs → lv_has ls 3 [(0, .ref pw), (1, .ref pu), (2, .int x2)] → fX6_lay_L2 w u fu2 x2 u_row = some ou_row → W p l e (headSpec wsX6_lay ({ frames := 0, cells := 0, slots := 0, locals := 0 })).room s m ([.ref pw, .ref pu]).toArray below meth c H locs 0 0 (MQ below (va_Qv (fun (_ : Unit) => True) (dk_B D (wRw cy pw 21 w ++ wRw cy pu 21 ou_row) A) A) ([.ref pw, .ref pu]).toArray s 0 0 A) (F0 m 2 ls []) := by
    intro fu2
    induction fu2 with
    | zero =>
      intro x2 u_row H locs ls hP hD hS hl hf
      rw [fX6_lay_L2] at hf
      cases hf
    | succ fu2 ih2 =>
      intro x2 u_row H locs ls hP hD hS hl hf
      rw [fX6_lay_L2] at hf
      refine lv_iload_n hx hb dX6_lay_2 rfl (lv_at hl 2 rfl) ?_
      refine lv_bipush (v := 21) hx hb dX6_lay_3 (by decide) ?_
      refine dk_cge (tgt := 20) hx hb dX6_lay_5 (by decide) hf (fun hf => ?_) (fun hf => ?_)
      · have e0 := Option.some.inj hf
        subst e0
        exact W.vret hx hb hr (fun t ht hW => ⟨⟨(), rfl, trivial, by rw [ht]; exact hP, hD⟩, hS.F ht⟩) hS.2.2 dX6_lay_20
      · refine lv_aload_n hx hb dX6_lay_8 rfl (lv_at hl 1 rfl) ?_
        refine lv_iload_n hx hb dX6_lay_9 rfl (lv_at hl 2 rfl) ?_
        refine lv_aload_n hx hb dX6_lay_10 rfl (lv_at hl 0 rfl) ?_
        refine lv_iload_n hx hb dX6_lay_11 rfl (lv_at hl 2 rfl) ?_
        refine dk_iald hx hb hK.1 hP 0 0 rfl rfl hf dX6_lay_12 (fun d12 hf => ?_)
        refine dk_iast hx hb hK.1 hP hD hS 1 0 rfl rfl hf dX6_lay_13 (fun f13 H locs hP hD hS hf => ?_)
        have hP : va_P D vwCl (wRw cy pw 21 w ++ wRw cy pu 21 f13) H := hP
        have hD : va_D A (wRw cy pw 21 w ++ wRw cy pu 21 f13) := hD
        refine lv_iinc (v := x2 + 1) (lv' := [(2, .int (x2 + 1)), (0, .ref pw), (1, .ref pu)]) hx hb dX6_lay_14 hl (k := 2) rfl rfl (by decide) rfl (fun ls hl => ?_)
        refine lv_goto (tgt := 2) hx hb dX6_lay_17 (by decide) ?_
        exact ih2 (x2 + 1) f13 _ _ _ hP hD hS (lv_sub hl [1, 2, 0] rfl) hf
  unfold fX6_lay at hf
  refine lv_iconst (v := 0) hx hb dX6_lay_0 (by decide) ?_
  refine lv_istore_n (lv' := [(2, .int 0), (0, .ref pw), (1, .ref pu)]) hx hb dX6_lay_1 rfl hl (by decide) rfl (fun ls hl => ?_)
  exact L2 1000 0 u _ _ _ hP hD hS (lv_sub hl [1, 2, 0] rfl) hf
theorem iX6_noPlace_X6 : ∀ w ∈ wsX60, w ∈ wsX6_noPlace := fun _ h => List.mem_cons_of_mem _ (List.mem_append_right _ h)
set_option maxHeartbeats 4000000 in
set_option maxRecDepth 100000 in
theorem kX6_noPlace (l : Launch) (D : va_G) (cy : Nat → ClassId) (hM : Nat) (aM : Nat → Nat) (sdM : Int64) (M : dk_O) (v1 : Int32) (r : Int32) (hf : fX6_noPlace M v1 = some r) : dk_RdI l yX6_noPlace wsX6_noPlace ({ frames := 1, cells := 0, slots := 0, locals := 25 }) D cy [.ref hM, .int v1] (wMs cy hM aM sdM M) r := by
  refine Met.ofW (cc := cX6_noPlace) (maxL := 2) (ret := (some .boolean)) (by decide) rfl ?_
  intro p e s m args below meth c s₁ B hml hv
  obtain ⟨rfl, hP, hK⟩ := hv
  have hx := B.exec
  have hb := B.bytes
  have hr := B.returns
  have hts := atoms_spec (ws := wsX6_noPlace) B.pre
  have hown : s.vm.findClass RX6 = some m.cls := findClass_of_methodNamed B.named
  have hlocks := B.notSynchronized
  have hl := lv_entry ([.ref hM, .int v1]) (n := 2) (Nat.le_of_ble_eq_true rfl)
  rw [lg_entry_eq]
  generalize (lg_sl ([.ref hM, .int v1]) ++ List.replicate (2 - (lg_sl ([.ref hM, .int v1])).length) Slot.unset).toArray = ls at hl ⊢
  have hl : lv_has ls 2 [(0, .ref hM), (1, .int v1)] := hl
  unfold fX6_noPlace at hf
  refine lv_iload_n hx hb dX6_noPlace_0 rfl (lv_at hl 1 rfl) ?_
  refine lv_i2l hx hb dX6_noPlace_1 rfl ?_
  refine lv_lconst (v := 0) hx hb dX6_noPlace_2 (by decide) ?_
  refine lv_aload_n hx hb dX6_noPlace_3 rfl (lv_at hl 0 rfl) ?_
  refine va_get (D := D) (ci := 6) (v := .int (M.1 4)) (C := RX6) (T := TX6) (N := 28) hx hb hts iX6_noPlace_X6 hown hK.1 hP 0 rfl rfl 4 (by decide) (hts (.fieldLink RX6 13 "DarkPlaceModel" "places" "I") (List.mem_of_getElem? (i := 1) rfl)) (fun _ h9 => h9) rfl dX6_noPlace_4 ?_
  refine lv_iconst (v := 1) hx hb dX6_noPlace_7 (by decide) ?_
  refine lv_isub hx hb dX6_noPlace_8 ?_
  refine lv_i2l hx hb dX6_noPlace_9 rfl ?_
  obtain ⟨r10, k10, hf⟩ := dk_bind hf
  refine dk_ri (va_runS (As := [.long v1.toInt64, .long 0, .long (((M.1 4) - 1).toInt64)]) (rest := []) ⟨hx, hb, hml, hown, hts⟩ (kX6_in l D cy v1.toInt64 0 (((M.1 4) - 1).toInt64) r10 k10) (va_cwS 3 hts gX6_noPlace_X6_in rfl rfl rfl (by decide +kernel) ⟨Nat.le_of_ble_eq_true rfl, Nat.le_of_ble_eq_true rfl⟩) (dk_preS hK (hP.sub (ws' := []) [] rfl)) rfl rfl hl.1 rfl (lv_room (Nat.le_of_ble_eq_true rfl)) dX6_noPlace_10 ⟨Nat.zero_le _, Nat.zero_le _⟩) ?_
  refine dk_ine (tgt := 20) hx hb dX6_noPlace_13 (by decide) hf (fun hf => ?_) (fun hf => ?_)
  · refine lv_iconst (v := 0) hx hb dX6_noPlace_20 (by decide) ?_
    exact W.zret (v := 0) hx hb hr rfl (fun t ht hW => ⟨0, rfl, Option.some.inj hf, ht⟩) t_nil dX6_noPlace_21
  · refine lv_iconst (v := 1) hx hb dX6_noPlace_16 (by decide) ?_
    refine lv_goto (tgt := 21) hx hb dX6_noPlace_17 (by decide) ?_
    exact W.zret (v := 1) hx hb hr rfl (fun t ht hW => ⟨1, rfl, Option.some.inj hf, ht⟩) t_nil dX6_noPlace_21
theorem iX6_noEdge_X6 : ∀ w ∈ wsX60, w ∈ wsX6_noEdge := fun _ h => List.mem_cons_of_mem _ (List.mem_append_right _ h)
set_option maxHeartbeats 4000000 in
set_option maxRecDepth 100000 in
theorem kX6_noEdge (l : Launch) (D : va_G) (cy : Nat → ClassId) (hM : Nat) (aM : Nat → Nat) (sdM : Int64) (M : dk_O) (v1 : Int32) (r : Int32) (hf : fX6_noEdge M v1 = some r) : dk_RdI l yX6_noEdge wsX6_noEdge ({ frames := 1, cells := 0, slots := 0, locals := 25 }) D cy [.ref hM, .int v1] (wMs cy hM aM sdM M) r := by
  refine Met.ofW (cc := cX6_noEdge) (maxL := 2) (ret := (some .boolean)) (by decide) rfl ?_
  intro p e s m args below meth c s₁ B hml hv
  obtain ⟨rfl, hP, hK⟩ := hv
  have hx := B.exec
  have hb := B.bytes
  have hr := B.returns
  have hts := atoms_spec (ws := wsX6_noEdge) B.pre
  have hown : s.vm.findClass RX6 = some m.cls := findClass_of_methodNamed B.named
  have hlocks := B.notSynchronized
  have hl := lv_entry ([.ref hM, .int v1]) (n := 2) (Nat.le_of_ble_eq_true rfl)
  rw [lg_entry_eq]
  generalize (lg_sl ([.ref hM, .int v1]) ++ List.replicate (2 - (lg_sl ([.ref hM, .int v1])).length) Slot.unset).toArray = ls at hl ⊢
  have hl : lv_has ls 2 [(0, .ref hM), (1, .int v1)] := hl
  unfold fX6_noEdge at hf
  refine lv_iload_n hx hb dX6_noEdge_0 rfl (lv_at hl 1 rfl) ?_
  refine lv_i2l hx hb dX6_noEdge_1 rfl ?_
  refine lv_lconst (v := 0) hx hb dX6_noEdge_2 (by decide) ?_
  refine lv_aload_n hx hb dX6_noEdge_3 rfl (lv_at hl 0 rfl) ?_
  refine va_get (D := D) (ci := 6) (v := .int (M.1 6)) (C := RX6) (T := TX6) (N := 28) hx hb hts iX6_noEdge_X6 hown hK.1 hP 0 rfl rfl 6 (by decide) (hts (.fieldLink RX6 71 "DarkPlaceModel" "edges" "I") (List.mem_of_getElem? (i := 1) rfl)) (fun _ h9 => h9) rfl dX6_noEdge_4 ?_
  refine lv_iconst (v := 1) hx hb dX6_noEdge_7 (by decide) ?_
  refine lv_isub hx hb dX6_noEdge_8 ?_
  refine lv_i2l hx hb dX6_noEdge_9 rfl ?_
  obtain ⟨r10, k10, hf⟩ := dk_bind hf
  refine dk_ri (va_runS (As := [.long v1.toInt64, .long 0, .long (((M.1 6) - 1).toInt64)]) (rest := []) ⟨hx, hb, hml, hown, hts⟩ (kX6_in l D cy v1.toInt64 0 (((M.1 6) - 1).toInt64) r10 k10) (va_cwS 3 hts gX6_noEdge_X6_in rfl rfl rfl (by decide +kernel) ⟨Nat.le_of_ble_eq_true rfl, Nat.le_of_ble_eq_true rfl⟩) (dk_preS hK (hP.sub (ws' := []) [] rfl)) rfl rfl hl.1 rfl (lv_room (Nat.le_of_ble_eq_true rfl)) dX6_noEdge_10 ⟨Nat.zero_le _, Nat.zero_le _⟩) ?_
  refine dk_ine (tgt := 20) hx hb dX6_noEdge_13 (by decide) hf (fun hf => ?_) (fun hf => ?_)
  · refine lv_iconst (v := 0) hx hb dX6_noEdge_20 (by decide) ?_
    exact W.zret (v := 0) hx hb hr rfl (fun t ht hW => ⟨0, rfl, Option.some.inj hf, ht⟩) t_nil dX6_noEdge_21
  · refine lv_iconst (v := 1) hx hb dX6_noEdge_16 (by decide) ?_
    refine lv_goto (tgt := 21) hx hb dX6_noEdge_17 (by decide) ?_
    exact W.zret (v := 1) hx hb hr rfl (fun t ht hW => ⟨1, rfl, Option.some.inj hf, ht⟩) t_nil dX6_noEdge_21
set_option maxHeartbeats 4000000 in
set_option maxRecDepth 100000 in
theorem kX6_lives (l : Launch) (D : va_G) (cy : Nat → ClassId) (pw : Nat) (w : Nat → Int32) (v1 : Int32) (r : Int32) (hf : fX6_lives w v1 = some r) : dk_RdI l yX6_lives wsX6_lives ({ frames := 0, cells := 0, slots := 0, locals := 0 }) D cy [.ref pw, .int v1] (wRw cy pw 21 w) r := by
  refine Met.ofW (cc := cX6_lives) (maxL := 2) (ret := (some .boolean)) (by decide) rfl ?_
  intro p e s m args below meth c s₁ B hml hv
  obtain ⟨rfl, hP, hK⟩ := hv
  have hx := B.exec
  have hb := B.bytes
  have hr := B.returns
  have hts := atoms_spec (ws := wsX6_lives) B.pre
  have hown : s.vm.findClass RX6 = some m.cls := findClass_of_methodNamed B.named
  have hlocks := B.notSynchronized
  have hl := lv_entry ([.ref pw, .int v1]) (n := 2) (Nat.le_of_ble_eq_true rfl)
  rw [lg_entry_eq]
  generalize (lg_sl ([.ref pw, .int v1]) ++ List.replicate (2 - (lg_sl ([.ref pw, .int v1])).length) Slot.unset).toArray = ls at hl ⊢
  have hl : lv_has ls 2 [(0, .ref pw), (1, .int v1)] := hl
  unfold fX6_lives at hf
  refine lv_aload_n hx hb dX6_lives_0 rfl (lv_at hl 0 rfl) ?_
  refine lv_iconst (v := 3) hx hb dX6_lives_1 (by decide) ?_
  refine lv_iload_n hx hb dX6_lives_2 rfl (lv_at hl 1 rfl) ?_
  refine lv_iadd hx hb dX6_lives_3 ?_
  refine dk_iald hx hb hK.1 hP 0 0 rfl rfl hf dX6_lives_4 (fun d4 hf => ?_)
  refine lv_bipush (v := 9) hx hb dX6_lives_5 (by decide) ?_
  refine dk_ceq (tgt := 14) hx hb dX6_lives_7 (by decide) hf (fun hf => ?_) (fun hf => ?_)
  · refine lv_iconst (v := 0) hx hb dX6_lives_14 (by decide) ?_
    exact W.zret (v := 0) hx hb hr rfl (fun t ht hW => ⟨0, rfl, Option.some.inj hf, ht⟩) t_nil dX6_lives_15
  · refine lv_iconst (v := 1) hx hb dX6_lives_10 (by decide) ?_
    refine lv_goto (tgt := 15) hx hb dX6_lives_11 (by decide) ?_
    exact W.zret (v := 1) hx hb hr rfl (fun t ht hW => ⟨1, rfl, Option.some.inj hf, ht⟩) t_nil dX6_lives_15
set_option maxHeartbeats 4000000 in
set_option maxRecDepth 100000 in
theorem kX6_living (l : Launch) (D : va_G) (cy : Nat → ClassId) (pw : Nat) (w : Nat → Int32)  (r : Int32) (hf : fX6_living w = some r) : dk_RdI l yX6_living wsX6_living ({ frames := 1, cells := 0, slots := 0, locals := 21 }) D cy [.ref pw] (wRw cy pw 21 w) r := by
  refine Met.ofW (cc := cX6_living) (maxL := 3) (ret := (some .int)) (by decide) rfl ?_
  intro p e s m args below meth c s₁ B hml hv
  obtain ⟨rfl, hP, hK⟩ := hv
  have hx := B.exec
  have hb := B.bytes
  have hr := B.returns
  have hts := atoms_spec (ws := wsX6_living) B.pre
  have hown : s.vm.findClass RX6 = some m.cls := findClass_of_methodNamed B.named
  have hlocks := B.notSynchronized
  have hl := lv_entry ([.ref pw]) (n := 3) (Nat.le_of_ble_eq_true rfl)
  rw [lg_entry_eq]
  generalize (lg_sl ([.ref pw]) ++ List.replicate (3 - (lg_sl ([.ref pw])).length) Slot.unset).toArray = ls at hl ⊢
  have hl : lv_has ls 3 [(0, .ref pw)] := hl
  have L4 : ∀ (fu4 : Nat) (x1 : Int32) (x2 : Int32) (ls : Array Slot), lv_has ls 3 [(0, .ref pw), (1, .int x1), (2, .int x2)] → fX6_living_L4 w fu4 x1 x2 = some r → W p l e (headSpec wsX6_living ({ frames := 1, cells := 0, slots := 0, locals := 21 })).room s m ([.ref pw]).toArray below meth c s.heap [] 0 0 (MQ below (vp_Si (fun x => x = r)) ([.ref pw]).toArray s 0 0 (fun _ => False)) (F0 m 4 ls []) := by
    intro fu4
    induction fu4 with
    | zero =>
      intro x1 x2 ls hl hf
      rw [fX6_living_L4] at hf
      cases hf
    | succ fu4 ih4 =>
      intro x1 x2 ls hl hf
      rw [fX6_living_L4] at hf
      refine lv_iload_n hx hb dX6_living_4 rfl (lv_at hl 2 rfl) ?_
      refine lv_aload_n hx hb dX6_living_5 rfl (lv_at hl 0 rfl) ?_
      refine lv_iconst (v := 1) hx hb dX6_living_6 (by decide) ?_
      refine dk_iald hx hb hK.1 hP 0 0 rfl rfl hf dX6_living_7 (fun d7 hf => ?_)
      refine dk_cge (tgt := 33) hx hb dX6_living_8 (by decide) hf (fun hf => ?_) (fun hf => ?_)
      · refine lv_iload_n hx hb dX6_living_33 rfl (lv_at hl 1 rfl) ?_
        exact W.iret (v := x1) hx hb hr (fun t ht hW => ⟨x1, rfl, Option.some.inj hf, ht⟩) t_nil dX6_living_34
      · refine lv_iload_n hx hb dX6_living_11 rfl (lv_at hl 1 rfl) ?_
        refine lv_aload_n hx hb dX6_living_12 rfl (lv_at hl 0 rfl) ?_
        refine lv_iload_n hx hb dX6_living_13 rfl (lv_at hl 2 rfl) ?_
        obtain ⟨r14, k14, hf⟩ := dk_bind hf
        refine dk_ri (va_runS (As := [.ref pw, .int x2]) (rest := [.int x1]) ⟨hx, hb, hml, hown, hts⟩ (kX6_lives l D cy pw w x2 r14 k14) (va_cwS 2 hts gX6_living_X6_lives rfl rfl rfl (by decide +kernel) ⟨Nat.le_of_ble_eq_true rfl, Nat.le_of_ble_eq_true rfl⟩) (dk_preS hK (hP.sub (ws' := wRw cy pw 21 w) [0] rfl)) rfl rfl hl.1 rfl (lv_room (Nat.le_of_ble_eq_true rfl)) dX6_living_14 ⟨Nat.zero_le _, Nat.zero_le _⟩) ?_
        refine dk_ieq (tgt := 24) hx hb dX6_living_17 (by decide) hf (fun hf => ?_) (fun hf => ?_)
        · refine lv_iconst (v := 0) hx hb dX6_living_24 (by decide) ?_
          refine lv_iadd hx hb dX6_living_25 ?_
          refine lv_istore_n (lv' := [(1, .int (x1 + 0)), (0, .ref pw), (2, .int x2)]) hx hb dX6_living_26 rfl hl (by decide) rfl (fun ls hl => ?_)
          refine lv_iinc (v := x2 + 1) (lv' := [(2, .int (x2 + 1)), (1, .int (x1 + 0)), (0, .ref pw)]) hx hb dX6_living_27 hl (k := 2) rfl rfl (by decide) rfl (fun ls hl => ?_)
          refine lv_goto (tgt := 4) hx hb dX6_living_30 (by decide) ?_
          exact ih4 (x1 + 0) (x2 + 1) _ (lv_sub hl [2, 1, 0] rfl) hf
        · refine lv_iconst (v := 1) hx hb dX6_living_20 (by decide) ?_
          refine lv_goto (tgt := 25) hx hb dX6_living_21 (by decide) ?_
          refine lv_iadd hx hb dX6_living_25 ?_
          refine lv_istore_n (lv' := [(1, .int (x1 + 1)), (0, .ref pw), (2, .int x2)]) hx hb dX6_living_26 rfl hl (by decide) rfl (fun ls hl => ?_)
          refine lv_iinc (v := x2 + 1) (lv' := [(2, .int (x2 + 1)), (1, .int (x1 + 1)), (0, .ref pw)]) hx hb dX6_living_27 hl (k := 2) rfl rfl (by decide) rfl (fun ls hl => ?_)
          refine lv_goto (tgt := 4) hx hb dX6_living_30 (by decide) ?_
          exact ih4 (x1 + 1) (x2 + 1) _ (lv_sub hl [2, 1, 0] rfl) hf
  unfold fX6_living at hf
  refine lv_iconst (v := 0) hx hb dX6_living_0 (by decide) ?_
  refine lv_istore_n (lv' := [(1, .int 0), (0, .ref pw)]) hx hb dX6_living_1 rfl hl (by decide) rfl (fun ls hl => ?_)
  refine lv_iconst (v := 0) hx hb dX6_living_2 (by decide) ?_
  refine lv_istore_n (lv' := [(2, .int 0), (1, .int 0), (0, .ref pw)]) hx hb dX6_living_3 rfl hl (by decide) rfl (fun ls hl => ?_)
  exact L4 1000 0 0 _ (lv_sub hl [2, 1, 0] rfl) hf
theorem iX6_visited_X6 : ∀ w ∈ wsX60, w ∈ wsX6_visited := fun _ h => List.mem_cons_of_mem _ (List.mem_append_right _ h)
set_option maxHeartbeats 4000000 in
set_option maxRecDepth 100000 in
theorem kX6_visited (l : Launch) (D : va_G) (cy : Nat → ClassId) (hM : Nat) (aM : Nat → Nat) (sdM : Int64) (pw : Nat) (M : dk_O) (w : Nat → Int32)  (r : Int32) (hf : fX6_visited M w = some r) : dk_RdI l yX6_visited wsX6_visited ({ frames := 0, cells := 0, slots := 0, locals := 0 }) D cy [.ref hM, .ref pw] (wMs cy hM aM sdM M ++ wRw cy pw 21 w) r := by
  refine Met.ofW (cc := cX6_visited) (maxL := 4) (ret := (some .int)) (by decide) rfl ?_
  intro p e s m args below meth c s₁ B hml hv
  obtain ⟨rfl, hP, hK⟩ := hv
  have hx := B.exec
  have hb := B.bytes
  have hr := B.returns
  have hts := atoms_spec (ws := wsX6_visited) B.pre
  have hown : s.vm.findClass RX6 = some m.cls := findClass_of_methodNamed B.named
  have hlocks := B.notSynchronized
  have hl := lv_entry ([.ref hM, .ref pw]) (n := 4) (Nat.le_of_ble_eq_true rfl)
  rw [lg_entry_eq]
  generalize (lg_sl ([.ref hM, .ref pw]) ++ List.replicate (4 - (lg_sl ([.ref hM, .ref pw])).length) Slot.unset).toArray = ls at hl ⊢
  have hl : lv_has ls 4 [(0, .ref hM), (1, .ref pw)] := hl
  have L9 : ∀ (fu9 : Nat) (x2 : Int32) (x3 : Int32) (ls : Array Slot), lv_has ls 4 [(0, .ref hM), (1, .ref pw), (2, .int x2), (3, .int x3)] → fX6_visited_L9 M w fu9 x2 x3 = some r → W p l e (headSpec wsX6_visited ({ frames := 0, cells := 0, slots := 0, locals := 0 })).room s m ([.ref hM, .ref pw]).toArray below meth c s.heap [] 0 0 (MQ below (vp_Si (fun x => x = r)) ([.ref hM, .ref pw]).toArray s 0 0 (fun _ => False)) (F0 m 9 ls []) := by
    intro fu9
    induction fu9 with
    | zero =>
      intro x2 x3 ls hl hf
      rw [fX6_visited_L9] at hf
      cases hf
    | succ fu9 ih9 =>
      intro x2 x3 ls hl hf
      rw [fX6_visited_L9] at hf
      refine lv_iload_n hx hb dX6_visited_9 rfl (lv_at hl 3 rfl) ?_
      refine lv_aload_n hx hb dX6_visited_10 rfl (lv_at hl 0 rfl) ?_
      refine va_get (D := D) (ci := 6) (v := .int (M.1 6)) (C := RX6) (T := TX6) (N := 28) hx hb hts iX6_visited_X6 hown hK.1 hP 0 rfl rfl 6 (by decide) (hts (.fieldLink RX6 71 "DarkPlaceModel" "edges" "I") (List.mem_of_getElem? (i := 2) rfl)) (fun _ h9 => h9) rfl dX6_visited_11 ?_
      refine dk_cge (tgt := 57) hx hb dX6_visited_14 (by decide) hf (fun hf => ?_) (fun hf => ?_)
      · refine lv_iload_n hx hb dX6_visited_57 rfl (lv_at hl 2 rfl) ?_
        exact W.iret (v := x2) hx hb hr (fun t ht hW => ⟨x2, rfl, Option.some.inj hf, ht⟩) t_nil dX6_visited_58
      · refine lv_iload_n hx hb dX6_visited_17 rfl (lv_at hl 2 rfl) ?_
        refine lv_aload_n hx hb dX6_visited_18 rfl (lv_at hl 1 rfl) ?_
        refine lv_bipush (v := 11) hx hb dX6_visited_19 (by decide) ?_
        refine lv_iload_n hx hb dX6_visited_21 rfl (lv_at hl 3 rfl) ?_
        refine lv_iadd hx hb dX6_visited_22 ?_
        refine dk_iald hx hb hK.1 hP 4 0 rfl rfl hf dX6_visited_23 (fun d23 hf => ?_)
        refine lv_iconst (v := 2) hx hb dX6_visited_24 (by decide) ?_
        refine dk_cne (tgt := 48) hx hb dX6_visited_25 (by decide) hf (fun hf => ?_) (fun hf => ?_)
        · refine lv_iconst (v := 0) hx hb dX6_visited_48 (by decide) ?_
          refine lv_ior hx hb dX6_visited_49 ?_
          refine lv_istore_n (lv' := [(2, .int (x2 ||| 0)), (0, .ref hM), (1, .ref pw), (3, .int x3)]) hx hb dX6_visited_50 rfl hl (by decide) rfl (fun ls hl => ?_)
          refine lv_iinc (v := x3 + 1) (lv' := [(3, .int (x3 + 1)), (2, .int (x2 ||| 0)), (0, .ref hM), (1, .ref pw)]) hx hb dX6_visited_51 hl (k := 3) rfl rfl (by decide) rfl (fun ls hl => ?_)
          refine lv_goto (tgt := 9) hx hb dX6_visited_54 (by decide) ?_
          exact ih9 (x2 ||| 0) (x3 + 1) _ (lv_sub hl [2, 3, 1, 0] rfl) hf
        · refine lv_iconst (v := 1) hx hb dX6_visited_28 (by decide) ?_
          refine lv_aload_n hx hb dX6_visited_29 rfl (lv_at hl 0 rfl) ?_
          refine va_get (D := D) (ci := 6) (v := .ref (aM 7)) (C := RX6) (T := TX6) (N := 28) hx hb hts iX6_visited_X6 hown hK.1 hP 0 rfl rfl 7 (by decide) (hts (.fieldLink RX6 17 "DarkPlaceModel" "one" "[I") (List.mem_of_getElem? (i := 3) rfl)) (fun _ h9 => h9) rfl dX6_visited_30 ?_
          refine lv_iload_n hx hb dX6_visited_33 rfl (lv_at hl 3 rfl) ?_
          refine dk_iald hx hb hK.1 hP 1 0 rfl rfl hf dX6_visited_34 (fun d34 hf => ?_)
          refine lv_ishl hx hb dX6_visited_35 ?_
          refine lv_iconst (v := 1) hx hb dX6_visited_36 (by decide) ?_
          refine lv_aload_n hx hb dX6_visited_37 rfl (lv_at hl 0 rfl) ?_
          refine va_get (D := D) (ci := 6) (v := .ref (aM 8)) (C := RX6) (T := TX6) (N := 28) hx hb hts iX6_visited_X6 hown hK.1 hP 0 rfl rfl 8 (by decide) (hts (.fieldLink RX6 20 "DarkPlaceModel" "other" "[I") (List.mem_of_getElem? (i := 4) rfl)) (fun _ h9 => h9) rfl dX6_visited_38 ?_
          refine lv_iload_n hx hb dX6_visited_41 rfl (lv_at hl 3 rfl) ?_
          refine dk_iald hx hb hK.1 hP 2 0 rfl rfl hf dX6_visited_42 (fun d42 hf => ?_)
          refine lv_ishl hx hb dX6_visited_43 ?_
          refine lv_ior hx hb dX6_visited_44 ?_
          refine lv_goto (tgt := 49) hx hb dX6_visited_45 (by decide) ?_
          refine lv_ior hx hb dX6_visited_49 ?_
          refine lv_istore_n (lv' := [(2, .int (x2 ||| (((1 : Int32) <<< (d34 &&& 31)) ||| ((1 : Int32) <<< (d42 &&& 31))))), (0, .ref hM), (1, .ref pw), (3, .int x3)]) hx hb dX6_visited_50 rfl hl (by decide) rfl (fun ls hl => ?_)
          refine lv_iinc (v := x3 + 1) (lv' := [(3, .int (x3 + 1)), (2, .int (x2 ||| (((1 : Int32) <<< (d34 &&& 31)) ||| ((1 : Int32) <<< (d42 &&& 31))))), (0, .ref hM), (1, .ref pw)]) hx hb dX6_visited_51 hl (k := 3) rfl rfl (by decide) rfl (fun ls hl => ?_)
          refine lv_goto (tgt := 9) hx hb dX6_visited_54 (by decide) ?_
          exact ih9 (x2 ||| (((1 : Int32) <<< (d34 &&& 31)) ||| ((1 : Int32) <<< (d42 &&& 31)))) (x3 + 1) _ (lv_sub hl [2, 3, 1, 0] rfl) hf
  unfold fX6_visited at hf
  refine lv_iconst (v := 1) hx hb dX6_visited_0 (by decide) ?_
  refine lv_aload_n hx hb dX6_visited_1 rfl (lv_at hl 0 rfl) ?_
  refine va_get (D := D) (ci := 6) (v := .int (M.1 5)) (C := RX6) (T := TX6) (N := 28) hx hb hts iX6_visited_X6 hown hK.1 hP 0 rfl rfl 5 (by decide) (hts (.fieldLink RX6 64 "DarkPlaceModel" "home" "I") (List.mem_of_getElem? (i := 1) rfl)) (fun _ h9 => h9) rfl dX6_visited_2 ?_
  refine lv_ishl hx hb dX6_visited_5 ?_
  refine lv_istore_n (lv' := [(2, .int ((1 : Int32) <<< ((M.1 5) &&& 31))), (0, .ref hM), (1, .ref pw)]) hx hb dX6_visited_6 rfl hl (by decide) rfl (fun ls hl => ?_)
  refine lv_iconst (v := 0) hx hb dX6_visited_7 (by decide) ?_
  refine lv_istore_n (lv' := [(3, .int 0), (2, .int ((1 : Int32) <<< ((M.1 5) &&& 31))), (0, .ref hM), (1, .ref pw)]) hx hb dX6_visited_8 rfl hl (by decide) rfl (fun ls hl => ?_)
  exact L9 1000 ((1 : Int32) <<< ((M.1 5) &&& 31)) 0 _ (lv_sub hl [2, 3, 1, 0] rfl) hf
theorem iX6_mayBe_X6 : ∀ w ∈ wsX60, w ∈ wsX6_mayBe := fun _ h => List.mem_cons_of_mem _ (List.mem_append_right _ h)
set_option maxHeartbeats 4000000 in
set_option maxRecDepth 100000 in
theorem kX6_mayBe (l : Launch) (D : va_G) (cy : Nat → ClassId) (hM : Nat) (aM : Nat → Nat) (sdM : Int64) (pw : Nat) (M : dk_O) (w : Nat → Int32)  (r : Int32) (hf : fX6_mayBe M w = some r) : dk_RdI l yX6_mayBe wsX6_mayBe ({ frames := 1, cells := 0, slots := 0, locals := 23 }) D cy [.ref hM, .ref pw] (wMs cy hM aM sdM M ++ wRw cy pw 21 w) r := by
  refine Met.ofW (cc := cX6_mayBe) (maxL := 2) (ret := (some .int)) (by decide) rfl ?_
  intro p e s m args below meth c s₁ B hml hv
  obtain ⟨rfl, hP, hK⟩ := hv
  have hx := B.exec
  have hb := B.bytes
  have hr := B.returns
  have hts := atoms_spec (ws := wsX6_mayBe) B.pre
  have hown : s.vm.findClass RX6 = some m.cls := findClass_of_methodNamed B.named
  have hlocks := B.notSynchronized
  have hl := lv_entry ([.ref hM, .ref pw]) (n := 2) (Nat.le_of_ble_eq_true rfl)
  rw [lg_entry_eq]
  generalize (lg_sl ([.ref hM, .ref pw]) ++ List.replicate (2 - (lg_sl ([.ref hM, .ref pw])).length) Slot.unset).toArray = ls at hl ⊢
  have hl : lv_has ls 2 [(0, .ref hM), (1, .ref pw)] := hl
  unfold fX6_mayBe at hf
  refine lv_iconst (v := 1) hx hb dX6_mayBe_0 (by decide) ?_
  refine lv_aload_n hx hb dX6_mayBe_1 rfl (lv_at hl 0 rfl) ?_
  refine va_get (D := D) (ci := 6) (v := .int (M.1 4)) (C := RX6) (T := TX6) (N := 28) hx hb hts iX6_mayBe_X6 hown hK.1 hP 0 rfl rfl 4 (by decide) (hts (.fieldLink RX6 13 "DarkPlaceModel" "places" "I") (List.mem_of_getElem? (i := 1) rfl)) (fun _ h9 => h9) rfl dX6_mayBe_2 ?_
  refine lv_ishl hx hb dX6_mayBe_5 ?_
  refine lv_iconst (v := 1) hx hb dX6_mayBe_6 (by decide) ?_
  refine lv_isub hx hb dX6_mayBe_7 ?_
  refine lv_aload_n hx hb dX6_mayBe_8 rfl (lv_at hl 0 rfl) ?_
  refine lv_aload_n hx hb dX6_mayBe_9 rfl (lv_at hl 1 rfl) ?_
  obtain ⟨r10, k10, hf⟩ := dk_bind hf
  refine dk_ri (va_runV (As := [.ref pw]) (rest := [.int (((1 : Int32) <<< ((M.1 4) &&& 31)) - 1)]) ⟨hx, hb, hml, hown, hts⟩ (kX6_visited l D cy hM aM sdM pw M w r10 k10) (cwV 1 hts gX6_mayBe_X6_visited rfl rfl rfl (by decide +kernel) ⟨Nat.le_of_ble_eq_true rfl, Nat.le_of_ble_eq_true rfl⟩) (dk_preV hK (hP.sub (ws' := wMs cy hM aM sdM M ++ wRw cy pw 21 w) [0, 1, 2, 3, 4] rfl) (ci := 6) (q0 := 0) rfl rfl) rfl rfl hl.1 rfl (lv_room (Nat.le_of_ble_eq_true rfl)) dX6_mayBe_10 ⟨Nat.zero_le _, Nat.zero_le _⟩) ?_
  refine lv_iconst (v := (-1)) hx hb dX6_mayBe_13 (by decide) ?_
  refine lv_ixor hx hb dX6_mayBe_14 ?_
  refine lv_iand hx hb dX6_mayBe_15 ?_
  exact W.iret (v := (((1 : Int32) <<< ((M.1 4) &&& 31)) - 1) &&& (r10 ^^^ (-1))) hx hb hr (fun t ht hW => ⟨(((1 : Int32) <<< ((M.1 4) &&& 31)) - 1) &&& (r10 ^^^ (-1)), rfl, Option.some.inj hf, ht⟩) t_nil dX6_mayBe_16
set_option maxHeartbeats 4000000 in
set_option maxRecDepth 100000 in
theorem kX6_isKnown (l : Launch) (D : va_G) (cy : Nat → ClassId) (hM : Nat) (aM : Nat → Nat) (sdM : Int64) (pw : Nat) (M : dk_O) (w : Nat → Int32)  (r : Int32) (hf : fX6_isKnown M w = some r) : dk_RdI l yX6_isKnown wsX6_isKnown ({ frames := 2, cells := 0, slots := 0, locals := 44 }) D cy [.ref hM, .ref pw] (wMs cy hM aM sdM M ++ wRw cy pw 21 w) r := by
  refine Met.ofW (cc := cX6_isKnown) (maxL := 2) (ret := (some .boolean)) (by decide) rfl ?_
  intro p e s m args below meth c s₁ B hml hv
  obtain ⟨rfl, hP, hK⟩ := hv
  have hx := B.exec
  have hb := B.bytes
  have hr := B.returns
  have hts := atoms_spec (ws := wsX6_isKnown) B.pre
  have hown : s.vm.findClass RX6 = some m.cls := findClass_of_methodNamed B.named
  have hlocks := B.notSynchronized
  have hl := lv_entry ([.ref hM, .ref pw]) (n := 2) (Nat.le_of_ble_eq_true rfl)
  rw [lg_entry_eq]
  generalize (lg_sl ([.ref hM, .ref pw]) ++ List.replicate (2 - (lg_sl ([.ref hM, .ref pw])).length) Slot.unset).toArray = ls at hl ⊢
  have hl : lv_has ls 2 [(0, .ref hM), (1, .ref pw)] := hl
  unfold fX6_isKnown at hf
  refine lv_aload_n hx hb dX6_isKnown_0 rfl (lv_at hl 0 rfl) ?_
  refine lv_aload_n hx hb dX6_isKnown_1 rfl (lv_at hl 1 rfl) ?_
  obtain ⟨r2, k2, hf⟩ := dk_bind hf
  refine dk_ri (va_runV (As := [.ref pw]) (rest := []) ⟨hx, hb, hml, hown, hts⟩ (kX6_mayBe l D cy hM aM sdM pw M w r2 k2) (cwV 1 hts gX6_isKnown_X6_mayBe rfl rfl rfl (by decide +kernel) ⟨Nat.le_of_ble_eq_true rfl, Nat.le_of_ble_eq_true rfl⟩) (dk_preV hK (hP.sub (ws' := wMs cy hM aM sdM M ++ wRw cy pw 21 w) [0, 1, 2, 3, 4] rfl) (ci := 6) (q0 := 0) rfl rfl) rfl rfl hl.1 rfl (lv_room (Nat.le_of_ble_eq_true rfl)) dX6_isKnown_2 ⟨Nat.zero_le _, Nat.zero_le _⟩) ?_
  obtain ⟨r5, k5, hf⟩ := dk_bind hf
  refine dk_ri (va_runS (As := [.int r2]) (rest := []) ⟨hx, hb, hml, hown, hts⟩ (kX6_ones l D cy r2 r5 k5) (va_cwS 1 hts gX6_isKnown_X6_ones rfl rfl rfl (by decide +kernel) ⟨Nat.le_of_ble_eq_true rfl, Nat.le_of_ble_eq_true rfl⟩) (dk_preS hK (hP.sub (ws' := []) [] rfl)) rfl rfl hl.1 rfl (lv_room (Nat.le_of_ble_eq_true rfl)) dX6_isKnown_5 ⟨Nat.zero_le _, Nat.zero_le _⟩) ?_
  refine lv_iconst (v := 1) hx hb dX6_isKnown_8 (by decide) ?_
  refine dk_cne (tgt := 16) hx hb dX6_isKnown_9 (by decide) hf (fun hf => ?_) (fun hf => ?_)
  · refine lv_iconst (v := 0) hx hb dX6_isKnown_16 (by decide) ?_
    exact W.zret (v := 0) hx hb hr rfl (fun t ht hW => ⟨0, rfl, Option.some.inj hf, ht⟩) t_nil dX6_isKnown_17
  · refine lv_iconst (v := 1) hx hb dX6_isKnown_12 (by decide) ?_
    refine lv_goto (tgt := 17) hx hb dX6_isKnown_13 (by decide) ?_
    exact W.zret (v := 1) hx hb hr rfl (fun t ht hW => ⟨1, rfl, Option.some.inj hf, ht⟩) t_nil dX6_isKnown_17
