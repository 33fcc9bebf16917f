-- printed by wip/gen/ctor.py
theorem iX4_init_X4 : ∀ w ∈ wsX40, w ∈ wsX4_init := fun _ h => List.mem_cons_of_mem _ (List.mem_append_right _ h)
set_option maxHeartbeats 4000000 in
set_option maxRecDepth 100000 in
theorem kX4_init (l : Launch) (D : va_G) (cy : Nat → ClassId) (h : Nat) (sz : Nat) : dk_MuC l yX4_init wsX4_init ({ frames := 1, cells := 1, slots := 40, locals := 12 }) D cy [.ref h] ([(h, .inr (4, [.null, .int 0]))]) (fun (uu : Nat → Nat) => wTx cy h uu dk_Z) sz 1 40 := by
  refine Met.ofW (cc := cX4_init) (maxL := 1) (ret := none) (by decide) rfl ?_
  intro p e s m args below meth c s₁ B hml hv
  obtain ⟨rfl, hsz, hP, hK, hD0⟩ := hv
  have hx := B.exec
  have hb := B.bytes
  have hr := B.returns
  have hts := atoms_spec (ws := wsX4_init) B.pre
  have hown : s.vm.findClass RX4 = some m.cls := findClass_of_methodNamed B.named
  have hlocks := B.notSynchronized
  have hin : meth.name = "<init>" := (name_of_methodNamed B.named B.method).1
  subst hsz
  have hD := hD0.self (sz := s.heap.size)
  generalize hAe : va_A ([(h, .inr (4, [.null, .int 0]))]) s.heap.size = A at hD ⊢
  have hA : ∀ q : Nat, s.heap.size ≤ q → A q := fun q h => by rw [← hAe]; exact Or.inr h
  have hS : va_S A s.heap s.heap [] := va_S.rf
  have hl := lv_entry ([.ref h]) (n := 1) (Nat.le_of_ble_eq_true rfl)
  rw [lg_entry_eq]
  generalize (lg_sl ([.ref h]) ++ List.replicate (1 - (lg_sl ([.ref h])).length) Slot.unset).toArray = ls at hl ⊢
  have hl : lv_has ls 1 [(0, .ref h)] := hl
  refine lv_aload_n hx hb dX4_init_0 rfl (lv_at hl 0 rfl) ?_
  refine W.objInit hx hb hown (hts (.methodLink RX4 3 objectInit) (List.mem_of_getElem? (i := 1) rfl)) (hts (.instanceMethod objectInit) (List.mem_of_getElem? (i := 2) rfl)) (hts (.code objectInit ⟨#[0xb1]⟩ 1 none) (List.mem_of_getElem? (i := 3) rfl)) rfl (by rw [hml]; exact hl.1) rfl dX4_init_1 (Nat.le_of_ble_eq_true rfl) (Nat.le_of_ble_eq_true rfl) ?_
  refine W.eq (g2 := F0 m 4 ls []) rfl ?_
  refine lv_aload_n hx hb dX4_init_4 rfl (lv_at hl 0 rfl) ?_
  refine lv_bipush (v := 40) hx hb dX4_init_5 (by decide) ?_
  refine dk_newa hx hb (hts (.arrayClass .int) (List.mem_of_getElem? (i := 4) rfl)) hK hP hD hS hA (N' := 40) (by decide) (by decide) (Nat.le_of_ble_eq_true rfl) (Nat.le_of_ble_eq_true rfl) (Nat.le_of_ble_eq_true rfl) dX4_init_7 (fun q7 H hP hD hS => ?_)
  have hP : va_P D vwCl ([(h, .inr (4, [.null, .int 0]))] ++ [(q7, .inl (cy 0, 40, .inl (fun _ => 0)))]) H := hP
  have hD : va_D A ([(h, .inr (4, [.null, .int 0]))] ++ [(q7, .inl (cy 0, 40, .inl (fun _ => 0)))]) := hD
  refine W.widen (k := 1) (n := 40) (Nat.le_of_ble_eq_true rfl) (Nat.le_of_ble_eq_true rfl) ?_
  refine va_putF (D := D) (ci := 4) (v := .ref q7) (ty := (.array .int)) (C := RX4) (T := TX4) (N := 2) hx hb hts iX4_init_X4 tyX4 tyX4_ok nmX4 hown hK.1 hP hD hS 0 rfl rfl 0 (by decide) (hts (.fieldLink RX4 9 "DarkPlace$Text" "letters" "[I") (List.mem_of_getElem? (i := 5) rfl)) (fun _ h9 => h9) rfl hin rfl (by decide +kernel) rfl rfl (Nat.le_of_ble_eq_true rfl) dX4_init_9 (fun H locs hP hD hS => ?_)
  have hP : va_P D vwCl ([(h, .inr (4, [.ref q7, .int 0]))] ++ [(q7, .inl (cy 0, 40, .inl (fun _ => 0)))]) H := hP
  have hD : va_D A ([(h, .inr (4, [.ref q7, .int 0]))] ++ [(q7, .inl (cy 0, 40, .inl (fun _ => 0)))]) := hD
  refine lv_aload_n hx hb dX4_init_12 rfl (lv_at hl 0 rfl) ?_
  refine lv_iconst (v := 0) hx hb dX4_init_13 (by decide) ?_
  refine va_put (D := D) (ci := 4) (v := .int 0) (ty := .int) (C := RX4) (T := TX4) (N := 2) hx hb hts iX4_init_X4 tyX4 tyX4_ok nmX4 hown hK.1 hP hD hS 0 rfl rfl 1 (by decide) (hts (.fieldLink RX4 15 "DarkPlace$Text" "length" "I") (List.mem_of_getElem? (i := 6) rfl)) (fun _ h9 => h9) rfl (by decide +kernel) rfl rfl (Nat.le_of_ble_eq_true rfl) dX4_init_14 (fun H locs hP hD hS => ?_)
  have hP : va_P D vwCl ([(h, .inr (4, [.ref q7, .int 0]))] ++ [(q7, .inl (cy 0, 40, .inl (fun _ => 0)))]) H := hP
  have hD : va_D A ([(h, .inr (4, [.ref q7, .int 0]))] ++ [(q7, .inl (cy 0, 40, .inl (fun _ => 0)))]) := hD
  have hP9 : va_P D vwCl (wTx cy h (fun k => q7) dk_Z) H := hP.sub [0, 1] rfl
  have hD9 : va_D A (wTx cy h (fun k => q7) dk_Z) := hD.sub [0, 1] (by decide) rfl
  refine W.widen (k := 1) (n := 40) (Nat.le_of_ble_eq_true rfl) (Nat.le_of_ble_eq_true rfl) ?_
  exact W.vret hx hb hr (fun t ht hW => ⟨⟨(fun k => q7), rfl, trivial, by rw [ht]; exact hP9, hD9⟩, hS.F ht⟩) hS.2.2 dX4_init_17

theorem iX2_init_X2 : ∀ w ∈ wsX20, w ∈ wsX2_init := fun _ h => List.mem_cons_of_mem _ (List.mem_append_right _ h)
set_option maxHeartbeats 4000000 in
set_option maxRecDepth 100000 in
theorem kX2_init (l : Launch) (D : va_G) (cy : Nat → ClassId) (h : Nat) (sz : Nat) : dk_MuC l yX2_init wsX2_init ({ frames := 1, cells := 2, slots := 12, locals := 12 }) D cy [.ref h] ([(h, .inr (2, [.null, .null, .int 0]))]) (fun (uu : Nat → Nat) => wSe cy h uu dk_Z) sz 2 12 := by
  refine Met.ofW (cc := cX2_init) (maxL := 1) (ret := none) (by decide) rfl ?_
  intro p e s m args below meth c s₁ B hml hv
  obtain ⟨rfl, hsz, hP, hK, hD0⟩ := hv
  have hx := B.exec
  have hb := B.bytes
  have hr := B.returns
  have hts := atoms_spec (ws := wsX2_init) B.pre
  have hown : s.vm.findClass RX2 = some m.cls := findClass_of_methodNamed B.named
  have hlocks := B.notSynchronized
  have hin : meth.name = "<init>" := (name_of_methodNamed B.named B.method).1
  subst hsz
  have hD := hD0.self (sz := s.heap.size)
  generalize hAe : va_A ([(h, .inr (2, [.null, .null, .int 0]))]) s.heap.size = A at hD ⊢
  have hA : ∀ q : Nat, s.heap.size ≤ q → A q := fun q h => by rw [← hAe]; exact Or.inr h
  have hS : va_S A s.heap s.heap [] := va_S.rf
  have hl := lv_entry ([.ref h]) (n := 1) (Nat.le_of_ble_eq_true rfl)
  rw [lg_entry_eq]
  generalize (lg_sl ([.ref h]) ++ List.replicate (1 - (lg_sl ([.ref h])).length) Slot.unset).toArray = ls at hl ⊢
  have hl : lv_has ls 1 [(0, .ref h)] := hl
  refine lv_aload_n hx hb dX2_init_0 rfl (lv_at hl 0 rfl) ?_
  refine W.objInit hx hb hown (hts (.methodLink RX2 3 objectInit) (List.mem_of_getElem? (i := 1) rfl)) (hts (.instanceMethod objectInit) (List.mem_of_getElem? (i := 2) rfl)) (hts (.code objectInit ⟨#[0xb1]⟩ 1 none) (List.mem_of_getElem? (i := 3) rfl)) rfl (by rw [hml]; exact hl.1) rfl dX2_init_1 (Nat.le_of_ble_eq_true rfl) (Nat.le_of_ble_eq_true rfl) ?_
  refine W.eq (g2 := F0 m 4 ls []) rfl ?_
  refine lv_aload_n hx hb dX2_init_4 rfl (lv_at hl 0 rfl) ?_
  refine lv_bipush (v := 6) hx hb dX2_init_5 (by decide) ?_
  refine dk_newa hx hb (hts (.arrayClass .int) (List.mem_of_getElem? (i := 4) rfl)) hK hP hD hS hA (N' := 6) (by decide) (by decide) (Nat.le_of_ble_eq_true rfl) (Nat.le_of_ble_eq_true rfl) (Nat.le_of_ble_eq_true rfl) dX2_init_7 (fun q7 H hP hD hS => ?_)
  have hP : va_P D vwCl ([(h, .inr (2, [.null, .null, .int 0]))] ++ [(q7, .inl (cy 0, 6, .inl (fun _ => 0)))]) H := hP
  have hD : va_D A ([(h, .inr (2, [.null, .null, .int 0]))] ++ [(q7, .inl (cy 0, 6, .inl (fun _ => 0)))]) := hD
  refine W.widen (k := 1) (n := 6) (Nat.le_of_ble_eq_true rfl) (Nat.le_of_ble_eq_true rfl) ?_
  refine va_putF (D := D) (ci := 2) (v := .ref q7) (ty := (.array .int)) (C := RX2) (T := TX2) (N := 3) hx hb hts iX2_init_X2 tyX2 tyX2_ok nmX2 hown hK.1 hP hD hS 0 rfl rfl 0 (by decide) (hts (.fieldLink RX2 9 "DarkPlace$Seen" "rounds" "[I") (List.mem_of_getElem? (i := 5) rfl)) (fun _ h9 => h9) rfl hin rfl (by decide +kernel) rfl rfl (Nat.le_of_ble_eq_true rfl) dX2_init_9 (fun H locs hP hD hS => ?_)
  have hP : va_P D vwCl ([(h, .inr (2, [.ref q7, .null, .int 0]))] ++ [(q7, .inl (cy 0, 6, .inl (fun _ => 0)))]) H := hP
  have hD : va_D A ([(h, .inr (2, [.ref q7, .null, .int 0]))] ++ [(q7, .inl (cy 0, 6, .inl (fun _ => 0)))]) := hD
  refine lv_aload_n hx hb dX2_init_12 rfl (lv_at hl 0 rfl) ?_
  refine lv_bipush (v := 6) hx hb dX2_init_13 (by decide) ?_
  refine dk_newa hx hb (hts (.arrayClass .int) (List.mem_of_getElem? (i := 4) rfl)) hK hP hD hS hA (N' := 6) (by decide) (by decide) (Nat.le_of_ble_eq_true rfl) (Nat.le_of_ble_eq_true rfl) (Nat.le_of_ble_eq_true rfl) dX2_init_15 (fun q15 H hP hD hS => ?_)
  have hP : va_P D vwCl ([(h, .inr (2, [.ref q7, .null, .int 0]))] ++ [(q7, .inl (cy 0, 6, .inl (fun _ => 0)))] ++ [(q15, .inl (cy 0, 6, .inl (fun _ => 0)))]) H := hP
  have hD : va_D A ([(h, .inr (2, [.ref q7, .null, .int 0]))] ++ [(q7, .inl (cy 0, 6, .inl (fun _ => 0)))] ++ [(q15, .inl (cy 0, 6, .inl (fun _ => 0)))]) := hD
  refine W.widen (k := 2) (n := 12) (Nat.le_of_ble_eq_true rfl) (Nat.le_of_ble_eq_true rfl) ?_
  refine va_putF (D := D) (ci := 2) (v := .ref q15) (ty := (.array .int)) (C := RX2) (T := TX2) (N := 3) hx hb hts iX2_init_X2 tyX2 tyX2_ok nmX2 hown hK.1 hP hD hS 0 rfl rfl 1 (by decide) (hts (.fieldLink RX2 15 "DarkPlace$Seen" "living" "[I") (List.mem_of_getElem? (i := 6) rfl)) (fun _ h9 => h9) rfl hin rfl (by decide +kernel) rfl rfl (Nat.le_of_ble_eq_true rfl) dX2_init_17 (fun H locs hP hD hS => ?_)
  have hP : va_P D vwCl ([(h, .inr (2, [.ref q7, .ref q15, .int 0]))] ++ [(q7, .inl (cy 0, 6, .inl (fun _ => 0)))] ++ [(q15, .inl (cy 0, 6, .inl (fun _ => 0)))]) H := hP
  have hD : va_D A ([(h, .inr (2, [.ref q7, .ref q15, .int 0]))] ++ [(q7, .inl (cy 0, 6, .inl (fun _ => 0)))] ++ [(q15, .inl (cy 0, 6, .inl (fun _ => 0)))]) := hD
  refine lv_aload_n hx hb dX2_init_20 rfl (lv_at hl 0 rfl) ?_
  refine lv_iconst (v := 0) hx hb dX2_init_21 (by decide) ?_
  refine va_put (D := D) (ci := 2) (v := .int 0) (ty := .int) (C := RX2) (T := TX2) (N := 3) hx hb hts iX2_init_X2 tyX2 tyX2_ok nmX2 hown hK.1 hP hD hS 0 rfl rfl 2 (by decide) (hts (.fieldLink RX2 18 "DarkPlace$Seen" "size" "I") (List.mem_of_getElem? (i := 7) rfl)) (fun _ h9 => h9) rfl (by decide +kernel) rfl rfl (Nat.le_of_ble_eq_true rfl) dX2_init_22 (fun H locs hP hD hS => ?_)
  have hP : va_P D vwCl ([(h, .inr (2, [.ref q7, .ref q15, .int 0]))] ++ [(q7, .inl (cy 0, 6, .inl (fun _ => 0)))] ++ [(q15, .inl (cy 0, 6, .inl (fun _ => 0)))]) H := hP
  have hD : va_D A ([(h, .inr (2, [.ref q7, .ref q15, .int 0]))] ++ [(q7, .inl (cy 0, 6, .inl (fun _ => 0)))] ++ [(q15, .inl (cy 0, 6, .inl (fun _ => 0)))]) := hD
  have hP9 : va_P D vwCl (wSe cy h (fun k => if k = 0 then q7 else q15) dk_Z) H := hP.sub [0, 1, 2] rfl
  have hD9 : va_D A (wSe cy h (fun k => if k = 0 then q7 else q15) dk_Z) := hD.sub [0, 1, 2] (by decide) rfl
  refine W.widen (k := 2) (n := 12) (Nat.le_of_ble_eq_true rfl) (Nat.le_of_ble_eq_true rfl) ?_
  exact W.vret hx hb hr (fun t ht hW => ⟨⟨(fun k => if k = 0 then q7 else q15), rfl, trivial, by rw [ht]; exact hP9, hD9⟩, hS.F ht⟩) hS.2.2 dX2_init_25

theorem iX1_init_X1 : ∀ w ∈ wsX10, w ∈ wsX1_init := fun _ h => List.mem_cons_of_mem _ (List.mem_append_right _ h)
set_option maxHeartbeats 4000000 in
set_option maxRecDepth 100000 in
theorem kX1_init (l : Launch) (D : va_G) (cy : Nat → ClassId) (h : Nat) (sz : Nat) : dk_MuC l yX1_init wsX1_init ({ frames := 1, cells := 3, slots := 26, locals := 12 }) D cy [.ref h] ([(h, .inr (1, [.int 0, .int 0, .int 0, .int 0, .int 0, .null, .null, .int 0, .null]))]) (fun (uu : Nat → Nat) => wNt cy h uu dk_G0) sz 3 26 := by
  refine Met.ofW (cc := cX1_init) (maxL := 1) (ret := none) (by decide) rfl ?_
  intro p e s m args below meth c s₁ B hml hv
  obtain ⟨rfl, hsz, hP, hK, hD0⟩ := hv
  have hx := B.exec
  have hb := B.bytes
  have hr := B.returns
  have hts := atoms_spec (ws := wsX1_init) B.pre
  have hown : s.vm.findClass RX1 = some m.cls := findClass_of_methodNamed B.named
  have hlocks := B.notSynchronized
  have hin : meth.name = "<init>" := (name_of_methodNamed B.named B.method).1
  subst hsz
  have hD := hD0.self (sz := s.heap.size)
  generalize hAe : va_A ([(h, .inr (1, [.int 0, .int 0, .int 0, .int 0, .int 0, .null, .null, .int 0, .null]))]) s.heap.size = A at hD ⊢
  have hA : ∀ q : Nat, s.heap.size ≤ q → A q := fun q h => by rw [← hAe]; exact Or.inr h
  have hS : va_S A s.heap s.heap [] := va_S.rf
  have hl := lv_entry ([.ref h]) (n := 1) (Nat.le_of_ble_eq_true rfl)
  rw [lg_entry_eq]
  generalize (lg_sl ([.ref h]) ++ List.replicate (1 - (lg_sl ([.ref h])).length) Slot.unset).toArray = ls at hl ⊢
  have hl : lv_has ls 1 [(0, .ref h)] := hl
  refine lv_aload_n hx hb dX1_init_0 rfl (lv_at hl 0 rfl) ?_
  refine W.objInit hx hb hown (hts (.methodLink RX1 3 objectInit) (List.mem_of_getElem? (i := 1) rfl)) (hts (.instanceMethod objectInit) (List.mem_of_getElem? (i := 2) rfl)) (hts (.code objectInit ⟨#[0xb1]⟩ 1 none) (List.mem_of_getElem? (i := 3) rfl)) rfl (by rw [hml]; exact hl.1) rfl dX1_init_1 (Nat.le_of_ble_eq_true rfl) (Nat.le_of_ble_eq_true rfl) ?_
  refine W.eq (g2 := F0 m 4 ls []) rfl ?_
  refine lv_aload_n hx hb dX1_init_4 rfl (lv_at hl 0 rfl) ?_
  refine lv_iconst (v := 2) hx hb dX1_init_5 (by decide) ?_
  refine va_put (D := D) (ci := 1) (v := .int 2) (ty := .int) (C := RX1) (T := TX1) (N := 9) hx hb hts iX1_init_X1 tyX1 tyX1_ok nmX1 hown hK.1 hP hD hS 0 rfl rfl 0 (by decide) (hts (.fieldLink RX1 9 "DarkPlace$Net" "places" "I") (List.mem_of_getElem? (i := 4) rfl)) (fun _ h9 => h9) rfl (by decide +kernel) rfl rfl (Nat.le_of_ble_eq_true rfl) dX1_init_6 (fun H locs hP hD hS => ?_)
  have hP : va_P D vwCl ([(h, .inr (1, [.int 2, .int 0, .int 0, .int 0, .int 0, .null, .null, .int 0, .null]))]) H := hP
  have hD : va_D A ([(h, .inr (1, [.int 2, .int 0, .int 0, .int 0, .int 0, .null, .null, .int 0, .null]))]) := hD
  refine lv_aload_n hx hb dX1_init_9 rfl (lv_at hl 0 rfl) ?_
  refine lv_iconst (v := 0) hx hb dX1_init_10 (by decide) ?_
  refine va_put (D := D) (ci := 1) (v := .int 0) (ty := .int) (C := RX1) (T := TX1) (N := 9) hx hb hts iX1_init_X1 tyX1 tyX1_ok nmX1 hown hK.1 hP hD hS 0 rfl rfl 1 (by decide) (hts (.fieldLink RX1 15 "DarkPlace$Net" "home" "I") (List.mem_of_getElem? (i := 5) rfl)) (fun _ h9 => h9) rfl (by decide +kernel) rfl rfl (Nat.le_of_ble_eq_true rfl) dX1_init_11 (fun H locs hP hD hS => ?_)
  have hP : va_P D vwCl ([(h, .inr (1, [.int 2, .int 0, .int 0, .int 0, .int 0, .null, .null, .int 0, .null]))]) H := hP
  have hD : va_D A ([(h, .inr (1, [.int 2, .int 0, .int 0, .int 0, .int 0, .null, .null, .int 0, .null]))]) := hD
  refine lv_aload_n hx hb dX1_init_14 rfl (lv_at hl 0 rfl) ?_
  refine lv_iconst (v := 1) hx hb dX1_init_15 (by decide) ?_
  refine va_put (D := D) (ci := 1) (v := .int 1) (ty := .int) (C := RX1) (T := TX1) (N := 9) hx hb hts iX1_init_X1 tyX1 tyX1_ok nmX1 hown hK.1 hP hD hS 0 rfl rfl 2 (by decide) (hts (.fieldLink RX1 18 "DarkPlace$Net" "hole" "I") (List.mem_of_getElem? (i := 6) rfl)) (fun _ h9 => h9) rfl (by decide +kernel) rfl rfl (Nat.le_of_ble_eq_true rfl) dX1_init_16 (fun H locs hP hD hS => ?_)
  have hP : va_P D vwCl ([(h, .inr (1, [.int 2, .int 0, .int 1, .int 0, .int 0, .null, .null, .int 0, .null]))]) H := hP
  have hD : va_D A ([(h, .inr (1, [.int 2, .int 0, .int 1, .int 0, .int 0, .null, .null, .int 0, .null]))]) := hD
  refine lv_aload_n hx hb dX1_init_19 rfl (lv_at hl 0 rfl) ?_
  refine lv_iconst (v := 1) hx hb dX1_init_20 (by decide) ?_
  refine va_put (D := D) (ci := 1) (v := .int 1) (ty := .int) (C := RX1) (T := TX1) (N := 9) hx hb hts iX1_init_X1 tyX1 tyX1_ok nmX1 hown hK.1 hP hD hS 0 rfl rfl 3 (by decide) (hts (.fieldLink RX1 21 "DarkPlace$Net" "searchers" "I") (List.mem_of_getElem? (i := 7) rfl)) (fun _ h9 => h9) rfl (by decide +kernel) rfl rfl (Nat.le_of_ble_eq_true rfl) dX1_init_21 (fun H locs hP hD hS => ?_)
  have hP : va_P D vwCl ([(h, .inr (1, [.int 2, .int 0, .int 1, .int 1, .int 0, .null, .null, .int 0, .null]))]) H := hP
  have hD : va_D A ([(h, .inr (1, [.int 2, .int 0, .int 1, .int 1, .int 0, .null, .null, .int 0, .null]))]) := hD
  refine lv_aload_n hx hb dX1_init_24 rfl (lv_at hl 0 rfl) ?_
  refine lv_iconst (v := 0) hx hb dX1_init_25 (by decide) ?_
  refine va_put (D := D) (ci := 1) (v := .int 0) (ty := .int) (C := RX1) (T := TX1) (N := 9) hx hb hts iX1_init_X1 tyX1 tyX1_ok nmX1 hown hK.1 hP hD hS 0 rfl rfl 4 (by decide) (hts (.fieldLink RX1 24 "DarkPlace$Net" "edges" "I") (List.mem_of_getElem? (i := 8) rfl)) (fun _ h9 => h9) rfl (by decide +kernel) rfl rfl (Nat.le_of_ble_eq_true rfl) dX1_init_26 (fun H locs hP hD hS => ?_)
  have hP : va_P D vwCl ([(h, .inr (1, [.int 2, .int 0, .int 1, .int 1, .int 0, .null, .null, .int 0, .null]))]) H := hP
  have hD : va_D A ([(h, .inr (1, [.int 2, .int 0, .int 1, .int 1, .int 0, .null, .null, .int 0, .null]))]) := hD
  refine lv_aload_n hx hb dX1_init_29 rfl (lv_at hl 0 rfl) ?_
  refine lv_bipush (v := 10) hx hb dX1_init_30 (by decide) ?_
  refine dk_newa hx hb (hts (.arrayClass .int) (List.mem_of_getElem? (i := 9) rfl)) hK hP hD hS hA (N' := 10) (by decide) (by decide) (Nat.le_of_ble_eq_true rfl) (Nat.le_of_ble_eq_true rfl) (Nat.le_of_ble_eq_true rfl) dX1_init_32 (fun q32 H hP hD hS => ?_)
  have hP : va_P D vwCl ([(h, .inr (1, [.int 2, .int 0, .int 1, .int 1, .int 0, .null, .null, .int 0, .null]))] ++ [(q32, .inl (cy 0, 10, .inl (fun _ => 0)))]) H := hP
  have hD : va_D A ([(h, .inr (1, [.int 2, .int 0, .int 1, .int 1, .int 0, .null, .null, .int 0, .null]))] ++ [(q32, .inl (cy 0, 10, .inl (fun _ => 0)))]) := hD
  refine W.widen (k := 1) (n := 10) (Nat.le_of_ble_eq_true rfl) (Nat.le_of_ble_eq_true rfl) ?_
  refine va_putF (D := D) (ci := 1) (v := .ref q32) (ty := (.array .int)) (C := RX1) (T := TX1) (N := 9) hx hb hts iX1_init_X1 tyX1 tyX1_ok nmX1 hown hK.1 hP hD hS 0 rfl rfl 5 (by decide) (hts (.fieldLink RX1 27 "DarkPlace$Net" "ends" "[I") (List.mem_of_getElem? (i := 10) rfl)) (fun _ h9 => h9) rfl hin rfl (by decide +kernel) rfl rfl (Nat.le_of_ble_eq_true rfl) dX1_init_34 (fun H locs hP hD hS => ?_)
  have hP : va_P D vwCl ([(h, .inr (1, [.int 2, .int 0, .int 1, .int 1, .int 0, .ref q32, .null, .int 0, .null]))] ++ [(q32, .inl (cy 0, 10, .inl (fun _ => 0)))]) H := hP
  have hD : va_D A ([(h, .inr (1, [.int 2, .int 0, .int 1, .int 1, .int 0, .ref q32, .null, .int 0, .null]))] ++ [(q32, .inl (cy 0, 10, .inl (fun _ => 0)))]) := hD
  refine lv_aload_n hx hb dX1_init_37 rfl (lv_at hl 0 rfl) ?_
  refine lv_bipush (v := 8) hx hb dX1_init_38 (by decide) ?_
  refine dk_newa hx hb (hts (.arrayClass .int) (List.mem_of_getElem? (i := 9) rfl)) hK hP hD hS hA (N' := 8) (by decide) (by decide) (Nat.le_of_ble_eq_true rfl) (Nat.le_of_ble_eq_true rfl) (Nat.le_of_ble_eq_true rfl) dX1_init_40 (fun q40 H hP hD hS => ?_)
  have hP : va_P D vwCl ([(h, .inr (1, [.int 2, .int 0, .int 1, .int 1, .int 0, .ref q32, .null, .int 0, .null]))] ++ [(q32, .inl (cy 0, 10, .inl (fun _ => 0)))] ++ [(q40, .inl (cy 0, 8, .inl (fun _ => 0)))]) H := hP
  have hD : va_D A ([(h, .inr (1, [.int 2, .int 0, .int 1, .int 1, .int 0, .ref q32, .null, .int 0, .null]))] ++ [(q32, .inl (cy 0, 10, .inl (fun _ => 0)))] ++ [(q40, .inl (cy 0, 8, .inl (fun _ => 0)))]) := hD
  refine W.widen (k := 2) (n := 18) (Nat.le_of_ble_eq_true rfl) (Nat.le_of_ble_eq_true rfl) ?_
  refine va_putF (D := D) (ci := 1) (v := .ref q40) (ty := (.array .int)) (C := RX1) (T := TX1) (N := 9) hx hb hts iX1_init_X1 tyX1 tyX1_ok nmX1 hown hK.1 hP hD hS 0 rfl rfl 6 (by decide) (hts (.fieldLink RX1 31 "DarkPlace$Net" "edgesAt" "[I") (List.mem_of_getElem? (i := 11) rfl)) (fun _ h9 => h9) rfl hin rfl (by decide +kernel) rfl rfl (Nat.le_of_ble_eq_true rfl) dX1_init_42 (fun H locs hP hD hS => ?_)
  have hP : va_P D vwCl ([(h, .inr (1, [.int 2, .int 0, .int 1, .int 1, .int 0, .ref q32, .ref q40, .int 0, .null]))] ++ [(q32, .inl (cy 0, 10, .inl (fun _ => 0)))] ++ [(q40, .inl (cy 0, 8, .inl (fun _ => 0)))]) H := hP
  have hD : va_D A ([(h, .inr (1, [.int 2, .int 0, .int 1, .int 1, .int 0, .ref q32, .ref q40, .int 0, .null]))] ++ [(q32, .inl (cy 0, 10, .inl (fun _ => 0)))] ++ [(q40, .inl (cy 0, 8, .inl (fun _ => 0)))]) := hD
  refine lv_aload_n hx hb dX1_init_45 rfl (lv_at hl 0 rfl) ?_
  refine lv_iconst (v := 0) hx hb dX1_init_46 (by decide) ?_
  refine va_put (D := D) (ci := 1) (v := .int 0) (ty := .int) (C := RX1) (T := TX1) (N := 9) hx hb hts iX1_init_X1 tyX1 tyX1_ok nmX1 hown hK.1 hP hD hS 0 rfl rfl 7 (by decide) (hts (.fieldLink RX1 34 "DarkPlace$Net" "from" "I") (List.mem_of_getElem? (i := 12) rfl)) (fun _ h9 => h9) rfl (by decide +kernel) rfl rfl (Nat.le_of_ble_eq_true rfl) dX1_init_47 (fun H locs hP hD hS => ?_)
  have hP : va_P D vwCl ([(h, .inr (1, [.int 2, .int 0, .int 1, .int 1, .int 0, .ref q32, .ref q40, .int 0, .null]))] ++ [(q32, .inl (cy 0, 10, .inl (fun _ => 0)))] ++ [(q40, .inl (cy 0, 8, .inl (fun _ => 0)))]) H := hP
  have hD : va_D A ([(h, .inr (1, [.int 2, .int 0, .int 1, .int 1, .int 0, .ref q32, .ref q40, .int 0, .null]))] ++ [(q32, .inl (cy 0, 10, .inl (fun _ => 0)))] ++ [(q40, .inl (cy 0, 8, .inl (fun _ => 0)))]) := hD
  refine lv_aload_n hx hb dX1_init_50 rfl (lv_at hl 0 rfl) ?_
  refine lv_bipush (v := 8) hx hb dX1_init_51 (by decide) ?_
  refine dk_newa hx hb (hts (.arrayClass .int) (List.mem_of_getElem? (i := 9) rfl)) hK hP hD hS hA (N' := 8) (by decide) (by decide) (Nat.le_of_ble_eq_true rfl) (Nat.le_of_ble_eq_true rfl) (Nat.le_of_ble_eq_true rfl) dX1_init_53 (fun q53 H hP hD hS => ?_)
  have hP : va_P D vwCl ([(h, .inr (1, [.int 2, .int 0, .int 1, .int 1, .int 0, .ref q32, .ref q40, .int 0, .null]))] ++ [(q32, .inl (cy 0, 10, .inl (fun _ => 0)))] ++ [(q40, .inl (cy 0, 8, .inl (fun _ => 0)))] ++ [(q53, .inl (cy 0, 8, .inl (fun _ => 0)))]) H := hP
  have hD : va_D A ([(h, .inr (1, [.int 2, .int 0, .int 1, .int 1, .int 0, .ref q32, .ref q40, .int 0, .null]))] ++ [(q32, .inl (cy 0, 10, .inl (fun _ => 0)))] ++ [(q40, .inl (cy 0, 8, .inl (fun _ => 0)))] ++ [(q53, .inl (cy 0, 8, .inl (fun _ => 0)))]) := hD
  refine W.widen (k := 3) (n := 26) (Nat.le_of_ble_eq_true rfl) (Nat.le_of_ble_eq_true rfl) ?_
  refine va_putF (D := D) (ci := 1) (v := .ref q53) (ty := (.array .int)) (C := RX1) (T := TX1) (N := 9) hx hb hts iX1_init_X1 tyX1 tyX1_ok nmX1 hown hK.1 hP hD hS 0 rfl rfl 8 (by decide) (hts (.fieldLink RX1 37 "DarkPlace$Net" "beside" "[I") (List.mem_of_getElem? (i := 13) rfl)) (fun _ h9 => h9) rfl hin rfl (by decide +kernel) rfl rfl (Nat.le_of_ble_eq_true rfl) dX1_init_55 (fun H locs hP hD hS => ?_)
  have hP : va_P D vwCl ([(h, .inr (1, [.int 2, .int 0, .int 1, .int 1, .int 0, .ref q32, .ref q40, .int 0, .ref q53]))] ++ [(q32, .inl (cy 0, 10, .inl (fun _ => 0)))] ++ [(q40, .inl (cy 0, 8, .inl (fun _ => 0)))] ++ [(q53, .inl (cy 0, 8, .inl (fun _ => 0)))]) H := hP
  have hD : va_D A ([(h, .inr (1, [.int 2, .int 0, .int 1, .int 1, .int 0, .ref q32, .ref q40, .int 0, .ref q53]))] ++ [(q32, .inl (cy 0, 10, .inl (fun _ => 0)))] ++ [(q40, .inl (cy 0, 8, .inl (fun _ => 0)))] ++ [(q53, .inl (cy 0, 8, .inl (fun _ => 0)))]) := hD
  have hP9 : va_P D vwCl (wNt cy h (fun k => if k = 5 then q32 else if k = 6 then q40 else q53) dk_G0) H := hP.sub [0, 1, 2, 3] rfl
  have hD9 : va_D A (wNt cy h (fun k => if k = 5 then q32 else if k = 6 then q40 else q53) dk_G0) := hD.sub [0, 1, 2, 3] (by decide) rfl
  refine W.widen (k := 3) (n := 26) (Nat.le_of_ble_eq_true rfl) (Nat.le_of_ble_eq_true rfl) ?_
  exact W.vret hx hb hr (fun t ht hW => ⟨⟨(fun k => if k = 5 then q32 else if k = 6 then q40 else q53), rfl, trivial, by rw [ht]; exact hP9, hD9⟩, hS.F ht⟩) hS.2.2 dX1_init_58

theorem iX3_init_X1 : ∀ w ∈ wsX10, w ∈ wsX3_init := fun _ h => List.mem_cons_of_mem _ (List.mem_append_right _ h)
theorem iX3_init_X3 : ∀ w ∈ wsX30, w ∈ wsX3_init := fun _ h => List.mem_cons_of_mem _ (List.mem_append_left _ (List.mem_append_right _ h))
set_option maxHeartbeats 4000000 in
set_option maxRecDepth 100000 in
theorem kX3_init (l : Launch) (D : va_G) (cy : Nat → ClassId) (h g : Nat) (b : Nat → Nat) (sz : Nat) (G : dk_O) (TI T1 T2 : Nat → Int32) (hf : fX3_begin dk_Z G (G.1 3) (G.1 2) = some (TI, T1, T2)) : dk_MuC l yX3_init wsX3_init ({ frames := 2, cells := 2, slots := 8, locals := 45 }) D cy [.ref h, .ref g] ([(h, .inr (3, [.null, .null, .null, .int 0, .int 0, .int 0, .int 0, .int 0, .int 0]))] ++ wNt cy g b G) (fun (uu : Nat → Nat) => wSt cy h uu g (TI, dk_upA (dk_upA dk_Z.2 1 T1) 2 T2) ++ wNt cy g b G) sz 2 8 := by
  refine Met.ofW (cc := cX3_init) (maxL := 2) (ret := none) (by decide) rfl ?_
  intro p e s m args below meth c s₁ B hml hv
  obtain ⟨rfl, hsz, hP, hK, hD0⟩ := hv
  have hx := B.exec
  have hb := B.bytes
  have hr := B.returns
  have hts := atoms_spec (ws := wsX3_init) B.pre
  have hown : s.vm.findClass RX3 = some m.cls := findClass_of_methodNamed B.named
  have hlocks := B.notSynchronized
  have hin : meth.name = "<init>" := (name_of_methodNamed B.named B.method).1
  subst hsz
  have hD := hD0.self (sz := s.heap.size)
  generalize hAe : va_A ([(h, .inr (3, [.null, .null, .null, .int 0, .int 0, .int 0, .int 0, .int 0, .int 0]))] ++ wNt cy g b G) s.heap.size = A at hD ⊢
  have hA : ∀ q : Nat, s.heap.size ≤ q → A q := fun q h => by rw [← hAe]; exact Or.inr h
  have hS : va_S A s.heap s.heap [] := va_S.rf
  have hl := lv_entry ([.ref h, .ref g]) (n := 2) (Nat.le_of_ble_eq_true rfl)
  rw [lg_entry_eq]
  generalize (lg_sl ([.ref h, .ref g]) ++ List.replicate (2 - (lg_sl ([.ref h, .ref g])).length) Slot.unset).toArray = ls at hl ⊢
  have hl : lv_has ls 2 [(0, .ref h), (1, .ref g)] := hl
  refine lv_aload_n hx hb dX3_init_0 rfl (lv_at hl 0 rfl) ?_
  refine W.objInit hx hb hown (hts (.methodLink RX3 3 objectInit) (List.mem_of_getElem? (i := 1) rfl)) (hts (.instanceMethod objectInit) (List.mem_of_getElem? (i := 2) rfl)) (hts (.code objectInit ⟨#[0xb1]⟩ 1 none) (List.mem_of_getElem? (i := 3) rfl)) rfl (by rw [hml]; exact hl.1) rfl dX3_init_1 (Nat.le_of_ble_eq_true rfl) (Nat.le_of_ble_eq_true rfl) ?_
  refine W.eq (g2 := F0 m 4 ls []) rfl ?_
  refine lv_aload_n hx hb dX3_init_4 rfl (lv_at hl 0 rfl) ?_
  refine lv_iconst (v := 4) hx hb dX3_init_5 (by decide) ?_
  refine dk_newa hx hb (hts (.arrayClass .int) (List.mem_of_getElem? (i := 4) rfl)) hK hP hD hS hA (N' := 4) (by decide) (by decide) (Nat.le_of_ble_eq_true rfl) (Nat.le_of_ble_eq_true rfl) (Nat.le_of_ble_eq_true rfl) dX3_init_6 (fun q6 H hP hD hS => ?_)
  have hP : va_P D vwCl ([(h, .inr (3, [.null, .null, .null, .int 0, .int 0, .int 0, .int 0, .int 0, .int 0]))] ++ wNt cy g b G ++ [(q6, .inl (cy 0, 4, .inl (fun _ => 0)))]) H := hP
  have hD : va_D A ([(h, .inr (3, [.null, .null, .null, .int 0, .int 0, .int 0, .int 0, .int 0, .int 0]))] ++ wNt cy g b G ++ [(q6, .inl (cy 0, 4, .inl (fun _ => 0)))]) := hD
  refine W.widen (k := 1) (n := 4) (Nat.le_of_ble_eq_true rfl) (Nat.le_of_ble_eq_true rfl) ?_
  refine va_putF (D := D) (ci := 3) (v := .ref q6) (ty := (.array .int)) (C := RX3) (T := TX3) (N := 9) hx hb hts iX3_init_X3 tyX3 tyX3_ok nmX3 hown hK.1 hP hD hS 0 rfl rfl 1 (by decide) (hts (.fieldLink RX3 9 "DarkPlace$Stand" "at" "[I") (List.mem_of_getElem? (i := 5) rfl)) (fun _ h9 => h9) rfl hin rfl (by decide +kernel) rfl rfl (Nat.le_of_ble_eq_true rfl) dX3_init_8 (fun H locs hP hD hS => ?_)
  have hP : va_P D vwCl ([(h, .inr (3, [.null, .ref q6, .null, .int 0, .int 0, .int 0, .int 0, .int 0, .int 0]))] ++ wNt cy g b G ++ [(q6, .inl (cy 0, 4, .inl (fun _ => 0)))]) H := hP
  have hD : va_D A ([(h, .inr (3, [.null, .ref q6, .null, .int 0, .int 0, .int 0, .int 0, .int 0, .int 0]))] ++ wNt cy g b G ++ [(q6, .inl (cy 0, 4, .inl (fun _ => 0)))]) := hD
  refine lv_aload_n hx hb dX3_init_11 rfl (lv_at hl 0 rfl) ?_
  refine lv_iconst (v := 4) hx hb dX3_init_12 (by decide) ?_
  refine dk_newa hx hb (hts (.arrayClass .int) (List.mem_of_getElem? (i := 4) rfl)) hK hP hD hS hA (N' := 4) (by decide) (by decide) (Nat.le_of_ble_eq_true rfl) (Nat.le_of_ble_eq_true rfl) (Nat.le_of_ble_eq_true rfl) dX3_init_13 (fun q13 H hP hD hS => ?_)
  have hP : va_P D vwCl ([(h, .inr (3, [.null, .ref q6, .null, .int 0, .int 0, .int 0, .int 0, .int 0, .int 0]))] ++ wNt cy g b G ++ [(q6, .inl (cy 0, 4, .inl (fun _ => 0)))] ++ [(q13, .inl (cy 0, 4, .inl (fun _ => 0)))]) H := hP
  have hD : va_D A ([(h, .inr (3, [.null, .ref q6, .null, .int 0, .int 0, .int 0, .int 0, .int 0, .int 0]))] ++ wNt cy g b G ++ [(q6, .inl (cy 0, 4, .inl (fun _ => 0)))] ++ [(q13, .inl (cy 0, 4, .inl (fun _ => 0)))]) := hD
  refine W.widen (k := 2) (n := 8) (Nat.le_of_ble_eq_true rfl) (Nat.le_of_ble_eq_true rfl) ?_
  refine va_putF (D := D) (ci := 3) (v := .ref q13) (ty := (.array .int)) (C := RX3) (T := TX3) (N := 9) hx hb hts iX3_init_X3 tyX3 tyX3_ok nmX3 hown hK.1 hP hD hS 0 rfl rfl 2 (by decide) (hts (.fieldLink RX3 15 "DarkPlace$Stand" "out" "[I") (List.mem_of_getElem? (i := 6) rfl)) (fun _ h9 => h9) rfl hin rfl (by decide +kernel) rfl rfl (Nat.le_of_ble_eq_true rfl) dX3_init_15 (fun H locs hP hD hS => ?_)
  have hP : va_P D vwCl ([(h, .inr (3, [.null, .ref q6, .ref q13, .int 0, .int 0, .int 0, .int 0, .int 0, .int 0]))] ++ wNt cy g b G ++ [(q6, .inl (cy 0, 4, .inl (fun _ => 0)))] ++ [(q13, .inl (cy 0, 4, .inl (fun _ => 0)))]) H := hP
  have hD : va_D A ([(h, .inr (3, [.null, .ref q6, .ref q13, .int 0, .int 0, .int 0, .int 0, .int 0, .int 0]))] ++ wNt cy g b G ++ [(q6, .inl (cy 0, 4, .inl (fun _ => 0)))] ++ [(q13, .inl (cy 0, 4, .inl (fun _ => 0)))]) := hD
  refine lv_aload_n hx hb dX3_init_18 rfl (lv_at hl 0 rfl) ?_
  refine lv_iconst (v := 0) hx hb dX3_init_19 (by decide) ?_
  refine va_put (D := D) (ci := 3) (v := .int 0) (ty := .int) (C := RX3) (T := TX3) (N := 9) hx hb hts iX3_init_X3 tyX3 tyX3_ok nmX3 hown hK.1 hP hD hS 0 rfl rfl 3 (by decide) (hts (.fieldLink RX3 18 "DarkPlace$Stand" "searchers" "I") (List.mem_of_getElem? (i := 7) rfl)) (fun _ h9 => h9) rfl (by decide +kernel) rfl rfl (Nat.le_of_ble_eq_true rfl) dX3_init_20 (fun H locs hP hD hS => ?_)
  have hP : va_P D vwCl ([(h, .inr (3, [.null, .ref q6, .ref q13, .int 0, .int 0, .int 0, .int 0, .int 0, .int 0]))] ++ wNt cy g b G ++ [(q6, .inl (cy 0, 4, .inl (fun _ => 0)))] ++ [(q13, .inl (cy 0, 4, .inl (fun _ => 0)))]) H := hP
  have hD : va_D A ([(h, .inr (3, [.null, .ref q6, .ref q13, .int 0, .int 0, .int 0, .int 0, .int 0, .int 0]))] ++ wNt cy g b G ++ [(q6, .inl (cy 0, 4, .inl (fun _ => 0)))] ++ [(q13, .inl (cy 0, 4, .inl (fun _ => 0)))]) := hD
  refine lv_aload_n hx hb dX3_init_23 rfl (lv_at hl 0 rfl) ?_
  refine lv_iconst (v := 0) hx hb dX3_init_24 (by decide) ?_
  refine va_put (D := D) (ci := 3) (v := .int 0) (ty := .int) (C := RX3) (T := TX3) (N := 9) hx hb hts iX3_init_X3 tyX3 tyX3_ok nmX3 hown hK.1 hP hD hS 0 rfl rfl 4 (by decide) (hts (.fieldLink RX3 22 "DarkPlace$Stand" "hole" "I") (List.mem_of_getElem? (i := 8) rfl)) (fun _ h9 => h9) rfl (by decide +kernel) rfl rfl (Nat.le_of_ble_eq_true rfl) dX3_init_25 (fun H locs hP hD hS => ?_)
  have hP : va_P D vwCl ([(h, .inr (3, [.null, .ref q6, .ref q13, .int 0, .int 0, .int 0, .int 0, .int 0, .int 0]))] ++ wNt cy g b G ++ [(q6, .inl (cy 0, 4, .inl (fun _ => 0)))] ++ [(q13, .inl (cy 0, 4, .inl (fun _ => 0)))]) H := hP
  have hD : va_D A ([(h, .inr (3, [.null, .ref q6, .ref q13, .int 0, .int 0, .int 0, .int 0, .int 0, .int 0]))] ++ wNt cy g b G ++ [(q6, .inl (cy 0, 4, .inl (fun _ => 0)))] ++ [(q13, .inl (cy 0, 4, .inl (fun _ => 0)))]) := hD
  refine lv_aload_n hx hb dX3_init_28 rfl (lv_at hl 0 rfl) ?_
  refine lv_iconst (v := 0) hx hb dX3_init_29 (by decide) ?_
  refine va_put (D := D) (ci := 3) (v := .int 0) (ty := .int) (C := RX3) (T := TX3) (N := 9) hx hb hts iX3_init_X3 tyX3 tyX3_ok nmX3 hown hK.1 hP hD hS 0 rfl rfl 5 (by decide) (hts (.fieldLink RX3 25 "DarkPlace$Stand" "moves" "I") (List.mem_of_getElem? (i := 9) rfl)) (fun _ h9 => h9) rfl (by decide +kernel) rfl rfl (Nat.le_of_ble_eq_true rfl) dX3_init_30 (fun H locs hP hD hS => ?_)
  have hP : va_P D vwCl ([(h, .inr (3, [.null, .ref q6, .ref q13, .int 0, .int 0, .int 0, .int 0, .int 0, .int 0]))] ++ wNt cy g b G ++ [(q6, .inl (cy 0, 4, .inl (fun _ => 0)))] ++ [(q13, .inl (cy 0, 4, .inl (fun _ => 0)))]) H := hP
  have hD : va_D A ([(h, .inr (3, [.null, .ref q6, .ref q13, .int 0, .int 0, .int 0, .int 0, .int 0, .int 0]))] ++ wNt cy g b G ++ [(q6, .inl (cy 0, 4, .inl (fun _ => 0)))] ++ [(q13, .inl (cy 0, 4, .inl (fun _ => 0)))]) := hD
  refine lv_aload_n hx hb dX3_init_33 rfl (lv_at hl 0 rfl) ?_
  refine lv_iconst (v := 0) hx hb dX3_init_34 (by decide) ?_
  refine va_put (D := D) (ci := 3) (v := .int 0) (ty := .int) (C := RX3) (T := TX3) (N := 9) hx hb hts iX3_init_X3 tyX3 tyX3_ok nmX3 hown hK.1 hP hD hS 0 rfl rfl 6 (by decide) (hts (.fieldLink RX3 28 "DarkPlace$Stand" "unseen" "I") (List.mem_of_getElem? (i := 10) rfl)) (fun _ h9 => h9) rfl (by decide +kernel) rfl rfl (Nat.le_of_ble_eq_true rfl) dX3_init_35 (fun H locs hP hD hS => ?_)
  have hP : va_P D vwCl ([(h, .inr (3, [.null, .ref q6, .ref q13, .int 0, .int 0, .int 0, .int 0, .int 0, .int 0]))] ++ wNt cy g b G ++ [(q6, .inl (cy 0, 4, .inl (fun _ => 0)))] ++ [(q13, .inl (cy 0, 4, .inl (fun _ => 0)))]) H := hP
  have hD : va_D A ([(h, .inr (3, [.null, .ref q6, .ref q13, .int 0, .int 0, .int 0, .int 0, .int 0, .int 0]))] ++ wNt cy g b G ++ [(q6, .inl (cy 0, 4, .inl (fun _ => 0)))] ++ [(q13, .inl (cy 0, 4, .inl (fun _ => 0)))]) := hD
  refine lv_aload_n hx hb dX3_init_38 rfl (lv_at hl 0 rfl) ?_
  refine lv_iconst (v := 0) hx hb dX3_init_39 (by decide) ?_
  refine va_put (D := D) (ci := 3) (v := .int 0) (ty := .int) (C := RX3) (T := TX3) (N := 9) hx hb hts iX3_init_X3 tyX3 tyX3_ok nmX3 hown hK.1 hP hD hS 0 rfl rfl 7 (by decide) (hts (.fieldLink RX3 31 "DarkPlace$Stand" "safe" "I") (List.mem_of_getElem? (i := 11) rfl)) (fun _ h9 => h9) rfl (by decide +kernel) rfl rfl (Nat.le_of_ble_eq_true rfl) dX3_init_40 (fun H locs hP hD hS => ?_)
  have hP : va_P D vwCl ([(h, .inr (3, [.null, .ref q6, .ref q13, .int 0, .int 0, .int 0, .int 0, .int 0, .int 0]))] ++ wNt cy g b G ++ [(q6, .inl (cy 0, 4, .inl (fun _ => 0)))] ++ [(q13, .inl (cy 0, 4, .inl (fun _ => 0)))]) H := hP
  have hD : va_D A ([(h, .inr (3, [.null, .ref q6, .ref q13, .int 0, .int 0, .int 0, .int 0, .int 0, .int 0]))] ++ wNt cy g b G ++ [(q6, .inl (cy 0, 4, .inl (fun _ => 0)))] ++ [(q13, .inl (cy 0, 4, .inl (fun _ => 0)))]) := hD
  refine lv_aload_n hx hb dX3_init_43 rfl (lv_at hl 0 rfl) ?_
  refine lv_iconst (v := 0) hx hb dX3_init_44 (by decide) ?_
  refine va_put (D := D) (ci := 3) (v := .int 0) (ty := .int) (C := RX3) (T := TX3) (N := 9) hx hb hts iX3_init_X3 tyX3 tyX3_ok nmX3 hown hK.1 hP hD hS 0 rfl rfl 8 (by decide) (hts (.fieldLink RX3 34 "DarkPlace$Stand" "visited" "I") (List.mem_of_getElem? (i := 12) rfl)) (fun _ h9 => h9) rfl (by decide +kernel) rfl rfl (Nat.le_of_ble_eq_true rfl) dX3_init_45 (fun H locs hP hD hS => ?_)
  have hP : va_P D vwCl ([(h, .inr (3, [.null, .ref q6, .ref q13, .int 0, .int 0, .int 0, .int 0, .int 0, .int 0]))] ++ wNt cy g b G ++ [(q6, .inl (cy 0, 4, .inl (fun _ => 0)))] ++ [(q13, .inl (cy 0, 4, .inl (fun _ => 0)))]) H := hP
  have hD : va_D A ([(h, .inr (3, [.null, .ref q6, .ref q13, .int 0, .int 0, .int 0, .int 0, .int 0, .int 0]))] ++ wNt cy g b G ++ [(q6, .inl (cy 0, 4, .inl (fun _ => 0)))] ++ [(q13, .inl (cy 0, 4, .inl (fun _ => 0)))]) := hD
  refine lv_aload_n hx hb dX3_init_48 rfl (lv_at hl 0 rfl) ?_
  refine lv_aload_n hx hb dX3_init_49 rfl (lv_at hl 1 rfl) ?_
  refine va_putF (D := D) (ci := 3) (v := .ref g) (ty := (.object "DarkPlace$Net")) (C := RX3) (T := TX3) (N := 9) hx hb hts iX3_init_X3 tyX3 tyX3_ok nmX3 hown hK.1 hP hD hS 0 rfl rfl 0 (by decide) (hts (.fieldLink RX3 37 "DarkPlace$Stand" "net" "LDarkPlace$Net;") (List.mem_of_getElem? (i := 13) rfl)) (fun _ h9 => h9) rfl hin rfl (by decide +kernel) rfl rfl (Nat.le_of_ble_eq_true rfl) dX3_init_50 (fun H locs hP hD hS => ?_)
  have hP : va_P D vwCl ([(h, .inr (3, [.ref g, .ref q6, .ref q13, .int 0, .int 0, .int 0, .int 0, .int 0, .int 0]))] ++ wNt cy g b G ++ [(q6, .inl (cy 0, 4, .inl (fun _ => 0)))] ++ [(q13, .inl (cy 0, 4, .inl (fun _ => 0)))]) H := hP
  have hD : va_D A ([(h, .inr (3, [.ref g, .ref q6, .ref q13, .int 0, .int 0, .int 0, .int 0, .int 0, .int 0]))] ++ wNt cy g b G ++ [(q6, .inl (cy 0, 4, .inl (fun _ => 0)))] ++ [(q13, .inl (cy 0, 4, .inl (fun _ => 0)))]) := hD
  refine lv_aload_n hx hb dX3_init_53 rfl (lv_at hl 0 rfl) ?_
  refine lv_aload_n hx hb dX3_init_54 rfl (lv_at hl 1 rfl) ?_
  refine va_getN (D := D) (ci := 1) (v := .int (G.1 3)) (C := RX1) (T := TX1) (N := 9) hx hb hts iX3_init_X1 hown hK.1 hP 1 rfl rfl 3 (by decide) (va_Nw.use rfl (hK.2 (.fieldLinkNest "DarkPlace$Stand" 41 "DarkPlace$Net" "searchers" "I" "DarkPlace") (List.mem_of_getElem? (i := 7) rfl))) (fun _ h9 => h9) rfl dX3_init_55 ?_
  refine lv_aload_n hx hb dX3_init_58 rfl (lv_at hl 1 rfl) ?_
  refine va_getN (D := D) (ci := 1) (v := .int (G.1 2)) (C := RX1) (T := TX1) (N := 9) hx hb hts iX3_init_X1 hown hK.1 hP 1 rfl rfl 2 (by decide) (va_Nw.use rfl (hK.2 (.fieldLinkNest "DarkPlace$Stand" 44 "DarkPlace$Net" "hole" "I" "DarkPlace") (List.mem_of_getElem? (i := 5) rfl))) (fun _ h9 => h9) rfl dX3_init_59 ?_
  have hPc := hP.sub (ws' := wSt cy h (fun k => if k = 1 then q6 else q13) g dk_Z ++ wNt cy g b G) [0, 5, 6, 1, 2, 3, 4] rfl
  have hDc := hD.sub (ws' := wSt cy h (fun k => if k = 1 then q6 else q13) g dk_Z ++ wNt cy g b G) [0, 5, 6, 1, 2, 3, 4] (by decide) rfl
  have hFc := va_free (wc := wSt cy h (fun k => if k = 1 then q6 else q13) g dk_Z ++ wNt cy g b G) hD hS hA [0, 5, 6, 1, 2, 3, 4] rfl
  refine va_callv (va_runV (As := [.int (G.1 3), .int (G.1 2)]) (rest := []) ⟨hx, hb, hml, hown, hts⟩ (kX3_begin l D cy h (fun k => if k = 1 then q6 else q13) g b H.size dk_Z G (G.1 3) (G.1 2) TI T1 T2 hf) (cwV 2 hts gX3_init_X3_begin rfl rfl rfl (by decide +kernel) ⟨(Nat.le_of_ble_eq_true rfl), (Nat.le_of_ble_eq_true rfl)⟩) (dk_premV hK hPc hDc (ci := 3) (q0 := 0) rfl rfl) rfl rfl hl.1 rfl (lv_room (Nat.le_of_ble_eq_true rfl)) dX3_init_62 ⟨(Nat.le_of_ble_eq_true rfl), (Nat.le_of_ble_eq_true rfl)⟩) hS (fun q _ h => hFc q h) hFc (fun u t H1 locs ht hvm hw hB hz1 hk1 hS => ?_)
  obtain ⟨hP1, hD1⟩ := hB
  rw [ht] at hP1
  obtain ⟨hP, hD⟩ := va_join (wr := ([] : va_W)) (w1 := wSt cy h (fun k => if k = 1 then q6 else q13) g (TI, dk_upA (dk_upA dk_Z.2 1 T1) 2 T2) ++ wNt cy g b G) hP hD [0, 5, 6, 1, 2, 3, 4] [] rfl rfl (by decide) (by decide) hk1 hFc hP1 hD1
  generalize H1 = H at hP hS ⊢
  have hP : va_P D vwCl (wSt cy h (fun k => if k = 1 then q6 else q13) g (TI, dk_upA (dk_upA dk_Z.2 1 T1) 2 T2) ++ wNt cy g b G) H := hP
  have hD : va_D A (wSt cy h (fun k => if k = 1 then q6 else q13) g (TI, dk_upA (dk_upA dk_Z.2 1 T1) 2 T2) ++ wNt cy g b G) := hD
  refine W.widen (k := 2) (n := 8) (Nat.le_of_ble_eq_true rfl) (Nat.le_of_ble_eq_true rfl) ?_
  have hP9 : va_P D vwCl (wSt cy h (fun k => if k = 1 then q6 else q13) g (TI, dk_upA (dk_upA dk_Z.2 1 T1) 2 T2) ++ wNt cy g b G) H := hP.sub [0, 1, 2, 3, 4, 5, 6] rfl
  have hD9 : va_D A (wSt cy h (fun k => if k = 1 then q6 else q13) g (TI, dk_upA (dk_upA dk_Z.2 1 T1) 2 T2) ++ wNt cy g b G) := hD.sub [0, 1, 2, 3, 4, 5, 6] (by decide) rfl
  refine W.widen (k := 2) (n := 8) (Nat.le_of_ble_eq_true rfl) (Nat.le_of_ble_eq_true rfl) ?_
  exact W.vret hx hb hr (fun t ht hW => ⟨⟨(fun k => if k = 1 then q6 else q13), rfl, trivial, by rw [ht]; exact hP9, hD9⟩, hS.F ht⟩) hS.2.2 dX3_init_65
