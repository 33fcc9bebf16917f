/-! the constructor of Acts: a loop that makes 14 Stands -/
def dk_pl (cy : Nat → ClassId) (n : Nat) (s : Nat → Nat) (a : Nat → Nat → Nat) (g : Nat) (T : dk_O) : va_W := (List.range n).flatMap (fun k => wSt cy (s k) (a k) g T)
def dk_u1 {α : Type} (f : Nat → α) (k : Nat) (x : α) : Nat → α := fun j => if j = k then x else f j
theorem dk_flat {α β : Type} {f g : α → List β} : ∀ {L : List α}, (∀ k, k ∈ L → f k = g k) → L.flatMap f = L.flatMap g
  | [], _ => rfl
  | a :: L, h => by rw [List.flatMap_cons, List.flatMap_cons, h a List.mem_cons_self, dk_flat (fun k hk => h k (List.mem_cons_of_mem _ hk))]
theorem dk_pl_succ {cy : Nat → ClassId} {n : Nat} {s : Nat → Nat} {a : Nat → Nat → Nat} {g : Nat} {T : dk_O} {q : Nat} {u : Nat → Nat} : dk_pl cy (n + 1) (dk_u1 s n q) (dk_u1 a n u) g T = dk_pl cy n s a g T ++ wSt cy q u g T := by
  unfold dk_pl
  rw [List.range_succ, List.flatMap_append]
  congr 1
  · refine dk_flat (fun k hk => ?_)
    have : k ≠ n := by have := List.mem_range.mp hk; omega
    simp only [dk_u1, this, if_false]
  · simp [dk_u1]
theorem iX0_init_X0 : ∀ w ∈ wsX00, w ∈ wsX0_init := fun _ h => List.mem_cons_of_mem _ (List.mem_append_left _ (List.mem_append_left _ (List.mem_append_right _ h)))
theorem iX0_init_X3 : ∀ w ∈ wsX30, w ∈ wsX0_init := fun _ h => List.mem_cons_of_mem _ (List.mem_append_left _ (List.mem_append_right _ h))
set_option maxHeartbeats 4000000 in
set_option maxRecDepth 100000 in
theorem kX0_init (l : Launch) (D : va_G) (cy : Nat → ClassId) (h g : Nat) (b : Nat → Nat) (sz : Nat) (G : dk_O) (TI T1 T2 : Nat → Int32) (hf : fX3_begin dk_Z G (G.1 3) (G.1 2) = some (TI, T1, T2)) : dk_MuCO l yX0_init wsX0_init ({ frames := 3, cells := 43, slots := 252, locals := 66 }) D cy [.ref h, .ref g] ([(h, .inr (0, [.null, .int 0]))] ++ wNt cy g b G) (fun (uu : Nat × dk_S) => wAo h uu.1 dk_Z ++ wPo cy uu.1 14 uu.2.1 ++ wNt cy g b G ++ wPl cy uu.2.1 uu.2.2 g (fun _ => (TI, dk_upA (dk_upA dk_Z.2 1 T1) 2 T2))) sz 43 252 := by
  refine Met.ofW (cc := cX0_init) (maxL := 3) (ret := none) (by decide) rfl ?_
  intro p e s m args below meth c s₁ B hml hv
  obtain ⟨rfl, ⟨hsz, hP, hK, hD0⟩, hAO⟩ := hv
  have hx := B.exec
  have hb := B.bytes
  have hr := B.returns
  have hts := atoms_spec (ws := wsX0_init) B.pre
  have hown : s.vm.findClass RX0 = some m.cls := findClass_of_methodNamed B.named
  have hlocks := B.notSynchronized
  have hin : meth.name = "<init>" := (name_of_methodNamed B.named B.method).1
  subst hsz
  have hD := hD0.self (sz := s.heap.size)
  generalize hAe : va_A ([(h, .inr (0, [.null, .int 0]))] ++ wNt cy g b G) s.heap.size = A at hD ⊢
  have hA : ∀ q : Nat, s.heap.size ≤ q → A q := fun q h => by rw [← hAe]; exact Or.inr h
  have hS : va_S A s.heap s.heap [] := va_S.rf
  have hl := lv_entry ([.ref h, .ref g]) (n := 3) (Nat.le_of_ble_eq_true rfl)
  rw [lg_entry_eq]
  generalize (lg_sl ([.ref h, .ref g]) ++ List.replicate (3 - (lg_sl ([.ref h, .ref g])).length) Slot.unset).toArray = ls at hl ⊢
  have hl : lv_has ls 3 [(0, .ref h), (1, .ref g)] := hl
  have loop : ∀ d k (sC : Nat → Nat) (aC : Nat → Nat → Nat) (q5 : Nat) (H : Heap) (locs : List Loc) (ls : Array Slot), k + d = 14 → va_P D vwCl (([(h, .inr (0, [.ref q5, .int 0]))] ++ [(q5, .inl (cy 2, 14, .inr (.inr (.inr (.inr (fun i => if i < k then some (sC i) else none))))))] ++ wNt cy g b G) ++ dk_pl cy k sC aC g (TI, dk_upA (dk_upA dk_Z.2 1 T1) 2 T2)) H → va_D A (([(h, .inr (0, [.ref q5, .int 0]))] ++ [(q5, .inl (cy 2, 14, .inr (.inr (.inr (.inr (fun i => if i < k then some (sC i) else none))))))] ++ wNt cy g b G) ++ dk_pl cy k sC aC g (TI, dk_upA (dk_upA dk_Z.2 1 T1) 2 T2)) → va_S A s.heap H locs → lv_has ls 3 [(2, .int (nI k)), (0, .ref h), (1, .ref g)] → W p l e (headSpec wsX0_init ({ frames := 3, cells := 43, slots := 252, locals := 66 })).room s m ([.ref h, .ref g] : List Value).toArray below meth c H locs (1 + 3 * k) (14 + 17 * k) (MQ below (va_Qv (fun (_ : Nat × dk_S) => True) (fun (uu : Nat × dk_S) (t : State) => va_P D vwCl (wAo h uu.1 dk_Z ++ wPo cy uu.1 14 uu.2.1 ++ wNt cy g b G ++ wPl cy uu.2.1 uu.2.2 g (fun _ => (TI, dk_upA (dk_upA dk_Z.2 1 T1) 2 T2))) t.heap ∧ va_D A (wAo h uu.1 dk_Z ++ wPo cy uu.1 14 uu.2.1 ++ wNt cy g b G ++ wPl cy uu.2.1 uu.2.2 g (fun _ => (TI, dk_upA (dk_upA dk_Z.2 1 T1) 2 T2)))) A) ([.ref h, .ref g] : List Value).toArray s 43 252 A) (F0 m 20 ls []) := by
    intro d
    induction d with
    | zero =>
      intro k sC aC q5 H locs ls hk hP hD hS hl
      have hk : k = 14 := by omega
      subst hk
      refine lv_iload_n hx hb dX0_init_20 rfl (lv_at hl 0 rfl) ?_
      refine lv_bipush (v := 14) hx hb dX0_init_21 (by decide) ?_
      refine lv_icmp_ge (tgt := 46) hx hb dX0_init_23 (by decide) (fun _ => ?_) (fun q => absurd (by decide) q)
      have hP9 : va_P D vwCl (wAo h q5 dk_Z ++ wPo cy q5 14 sC ++ wNt cy g b G ++ wPl cy sC aC g (fun _ => (TI, dk_upA (dk_upA dk_Z.2 1 T1) 2 T2))) H := dk_arrP (i := 1) (f' := fun k => some (sC k)) hP rfl (fun k hk => if_pos hk)
      have hD9 : va_D A (wAo h q5 dk_Z ++ wPo cy q5 14 sC ++ wNt cy g b G ++ wPl cy sC aC g (fun _ => (TI, dk_upA (dk_upA dk_Z.2 1 T1) 2 T2))) := dk_arrD (i := 1) (b := q5) (e' := .inl (cy 2, 14, .inr (.inr (.inr (.inr (fun k => some (sC k))))))) hD rfl
      exact W.vret hx hb hr (fun t ht hW => ⟨⟨(q5, sC, aC), rfl, trivial, by rw [ht]; exact hP9, hD9⟩, hS.F ht⟩) hS.2.2 dX0_init_46
    | succ d ih =>
      intro k sC aC q5 H locs ls hk hP hD hS hl
      refine lv_iload_n hx hb dX0_init_20 rfl (lv_at hl 0 rfl) ?_
      refine lv_bipush (v := 14) hx hb dX0_init_21 (by decide) ?_
      refine lv_icmp_ge (tgt := 46) hx hb dX0_init_23 (by decide) (fun q => absurd q (show ¬ (14 : Int32) ≤ nI k from nI_ge (b := 14) (by omega) (by omega))) (fun _ => ?_)
      refine lv_aload_n hx hb dX0_init_26 rfl (lv_at hl 1 rfl) ?_
      refine va_get (D := D) (ci := 0) (v := .ref q5) (C := RX0) (T := TX0) (N := 2) hx hb hts iX0_init_X0 hown hK.1 hP 0 rfl rfl 0 (by decide) (hts (.fieldLink RX0 11 "DarkPlace$Acts" "before" "[LDarkPlace$Stand;") (List.mem_of_getElem? (i := 5) rfl)) (fun _ h9 => h9) rfl dX0_init_27 ?_
      refine lv_iload_n hx hb dX0_init_30 rfl (lv_at hl 0 rfl) ?_
      refine va_new (ci := 3) (fs := [.null, .null, .null, .int 0, .int 0, .int 0, .int 0, .int 0, .int 0]) (C := RX3) (T := TX3) (N := 9) hx hb hts iX0_init_X3 tyX3 tyX3_ok hown (hts (.classLink RX0 9 RX3) (List.mem_of_getElem? (i := 4) rfl)) (hts (.instantiable RX3 9) (List.mem_of_getElem? (i := 7) rfl)) (hts (.initialized RX3) (List.mem_of_getElem? (i := 8) rfl)) hK.1 hP hD hS hA rfl (fun j hj => by rcases (show j = 0 ∨ j = 1 ∨ j = 2 ∨ j = 3 ∨ j = 4 ∨ j = 5 ∨ j = 6 ∨ j = 7 ∨ j = 8 by omega) with rfl | rfl | rfl | rfl | rfl | rfl | rfl | rfl | rfl <;> rfl) (show 1 + 3 * k + 1 ≤ 43 by omega) (show 14 + 17 * k + 9 ≤ 252 by omega) dX0_init_31 (fun q31 H hP hD hS => ?_)
      have hP := hP.swap
      have hD := hD.swap
      refine lv_dup hx hb dX0_init_34 rfl ?_
      refine lv_aload_n hx hb dX0_init_35 rfl (lv_at hl 2 rfl) ?_
      have hPc := hP.sub (ws' := [(q31, .inr (3, [.null, .null, .null, .int 0, .int 0, .int 0, .int 0, .int 0, .int 0]))] ++ wNt cy g b G) [6, 2, 3, 4, 5] rfl
      have hDc := hD.sub (ws' := [(q31, .inr (3, [.null, .null, .null, .int 0, .int 0, .int 0, .int 0, .int 0, .int 0]))] ++ wNt cy g b G) [6, 2, 3, 4, 5] (by decide) rfl
      have hFc := va_free (wc := [(q31, .inr (3, [.null, .null, .null, .int 0, .int 0, .int 0, .int 0, .int 0, .int 0]))] ++ wNt cy g b G) hD hS hA [6, 2, 3, 4, 5] rfl
      refine va_callv (va_runI (As := [.ref g]) (rest := [.ref q31, .int (nI k), .ref q5]) ⟨hx, hb, hml, hown, hts⟩ (kX3_init l D cy q31 g b H.size G TI T1 T2 hf) (cwI 1 hts gX0_init_X3_init rfl rfl rfl (hts (.initialized RX3) (List.mem_of_getElem? (i := 8) rfl)) (hts (.methodLink RX0 21 yX3_init) (List.mem_of_getElem? (i := 9) rfl)) (hts (.instanceMethod yX3_init) (List.mem_of_getElem? (i := 10) rfl)) rfl (by decide +kernel) ⟨Nat.le_of_ble_eq_true rfl, Nat.le_of_ble_eq_true rfl⟩) (dk_premS hK hPc hDc) rfl rfl hl.1 rfl (lv_room (Nat.le_of_ble_eq_true rfl)) dX0_init_36 ⟨show 1 + 3 * k + 1 + 2 ≤ 43 by omega, show 14 + 17 * k + 9 + 8 ≤ 252 by omega⟩) hS (fun q _ h => hFc q h) hFc (fun u36 t H1 locs ht hvm hw hB hz1 hk1 hS => ?_)
      obtain ⟨hP1, hD1⟩ := hB
      rw [ht] at hP1
      obtain ⟨hP, hD⟩ := va_joinQ (wr := [(h, .inr (0, [.ref q5, .int 0]))] ++ [(q5, .inl (cy 2, 14, .inr (.inr (.inr (.inr (fun i => if i < k then some (sC i) else none))))))]) (w1 := wSt cy q31 u36 g (TI, dk_upA (dk_upA dk_Z.2 1 T1) 2 T2) ++ wNt cy g b G) (pl := dk_pl cy k sC aC g (TI, dk_upA (dk_upA dk_Z.2 1 T1) 2 T2)) hP hD [6, 2, 3, 4, 5] [0, 1] rfl rfl (by decide) (by decide) hk1 hFc hP1 hD1
      generalize H1 = H at hP hS ⊢
      refine dk_astq hx hb hK hP hD hS 1 2 rfl rfl k rfl ⟨by omega, by omega⟩ dX0_init_39 (fun H locs hP hD hS => ?_)
      have hP := dk_arrP (i := 1) (b := q5) (n := 14) (cA := cy 2) (f := va_up (fun i => if i < k then some (sC i) else none) k (some q31)) (f' := fun i => if i < k + 1 then some (dk_u1 sC k q31 i) else none) hP rfl (fun i hi => by
        unfold va_up dk_u1
        by_cases z : i = k
        · simp [z]
        · by_cases w : i < k
          · simp [z, w, show i < k + 1 by omega]
          · simp [z, w, show ¬ i < k + 1 by omega])
      have hD := dk_arrD (i := 1) (b := q5) (e' := .inl (cy 2, 14, .inr (.inr (.inr (.inr (fun i => if i < k + 1 then some (dk_u1 sC k q31 i) else none)))))) hD rfl
      have hP : va_P D vwCl (([(h, .inr (0, [.ref q5, .int 0]))] ++ [(q5, .inl (cy 2, 14, .inr (.inr (.inr (.inr (fun i => if i < k + 1 then some (dk_u1 sC k q31 i) else none))))))] ++ wNt cy g b G ++ wSt cy q31 u36 g (TI, dk_upA (dk_upA dk_Z.2 1 T1) 2 T2)) ++ dk_pl cy k sC aC g (TI, dk_upA (dk_upA dk_Z.2 1 T1) 2 T2)) H := hP.part (X := [(h, .inr (0, [.ref q5, .int 0]))] ++ [(q5, .inl (cy 2, 14, .inr (.inr (.inr (.inr (fun i => if i < k + 1 then some (dk_u1 sC k q31 i) else none))))))] ++ (wSt cy q31 u36 g (TI, dk_upA (dk_upA dk_Z.2 1 T1) 2 T2) ++ wNt cy g b G)) [0, 1, 5, 6, 7, 8, 2, 3, 4] rfl
      have hD : va_D A (([(h, .inr (0, [.ref q5, .int 0]))] ++ [(q5, .inl (cy 2, 14, .inr (.inr (.inr (.inr (fun i => if i < k + 1 then some (dk_u1 sC k q31 i) else none))))))] ++ wNt cy g b G ++ wSt cy q31 u36 g (TI, dk_upA (dk_upA dk_Z.2 1 T1) 2 T2)) ++ dk_pl cy k sC aC g (TI, dk_upA (dk_upA dk_Z.2 1 T1) 2 T2)) := hD.part (X := [(h, .inr (0, [.ref q5, .int 0]))] ++ [(q5, .inl (cy 2, 14, .inr (.inr (.inr (.inr (fun i => if i < k + 1 then some (dk_u1 sC k q31 i) else none))))))] ++ (wSt cy q31 u36 g (TI, dk_upA (dk_upA dk_Z.2 1 T1) 2 T2) ++ wNt cy g b G)) [0, 1, 5, 6, 7, 8, 2, 3, 4] (by decide) rfl
      have hP := hP.swap
      have hD := hD.swap
      rw [List.append_assoc, ← dk_pl_succ] at hP hD
      refine lv_iinc (v := nI (k + 1)) (lv' := [(2, .int (nI (k + 1))), (0, .ref h), (1, .ref g)]) hx hb dX0_init_40 hl (k := 0) rfl (by rw [← nI_1]; rfl) (by decide) rfl (fun ls hl => ?_)
      refine lv_goto (tgt := 20) hx hb dX0_init_43 (by decide) ?_
      have ee := ih (k + 1) (dk_u1 sC k q31) (dk_u1 aC k u36) q5 _ _ ls (by omega) hP hD hS hl
      rw [show 1 + 3 * (k + 1) = 1 + 3 * k + 1 + 2 by omega, show 14 + 17 * (k + 1) = 14 + 17 * k + 9 + 8 by omega] at ee
      exact ee
  refine lv_aload_n hx hb dX0_init_0 rfl (lv_at hl 0 rfl) ?_
  refine W.objInit hx hb hown (hts (.methodLink RX0 3 objectInit) (List.mem_of_getElem? (i := 1) rfl)) (hts (.instanceMethod objectInit) (List.mem_of_getElem? (i := 2) rfl)) (hts (.code objectInit ⟨#[0xb1]⟩ 1 none) (List.mem_of_getElem? (i := 3) rfl)) rfl (by rw [hml]; exact hl.1) rfl dX0_init_1 (Nat.le_of_ble_eq_true rfl) (Nat.le_of_ble_eq_true rfl) ?_
  refine W.eq (g2 := F0 m 4 ls []) rfl ?_
  refine lv_aload_n hx hb dX0_init_4 rfl (lv_at hl 0 rfl) ?_
  refine lv_bipush (v := 14) hx hb dX0_init_5 (by decide) ?_
  refine dk_newq hx hb hown (hts (.classLink RX0 9 RX3) (List.mem_of_getElem? (i := 4) rfl)) hAO hK hP hD hS hA (N' := 14) (by decide) (by decide) (Nat.le_of_ble_eq_true rfl) (Nat.le_of_ble_eq_true rfl) (Nat.le_of_ble_eq_true rfl) dX0_init_7 (fun q7 H hP hD hS => ?_)
  have hP : va_P D vwCl ([(h, .inr (0, [.null, .int 0]))] ++ wNt cy g b G ++ [(q7, .inl (cy 2, 14, .inr (.inr (.inr (.inr (fun _ => none))))))]) H := hP
  have hD : va_D A ([(h, .inr (0, [.null, .int 0]))] ++ wNt cy g b G ++ [(q7, .inl (cy 2, 14, .inr (.inr (.inr (.inr (fun _ => none))))))]) := hD
  refine va_putF (D := D) (ci := 0) (v := .ref q7) (ty := (.array (.object "DarkPlace$Stand"))) (C := RX0) (T := TX0) (N := 2) hx hb hts iX0_init_X0 tyX0 tyX0_ok nmX0 hown hK.1 hP hD hS 0 rfl rfl 0 (by decide) (hts (.fieldLink RX0 11 "DarkPlace$Acts" "before" "[LDarkPlace$Stand;") (List.mem_of_getElem? (i := 5) rfl)) (fun _ h9 => h9) rfl hin rfl (by decide +kernel) rfl rfl (Nat.le_of_ble_eq_true rfl) dX0_init_10 (fun H locs hP hD hS => ?_)
  refine lv_aload_n hx hb dX0_init_13 rfl (lv_at hl 0 rfl) ?_
  refine lv_iconst (v := 0) hx hb dX0_init_14 (by decide) ?_
  have hP : va_P D vwCl ([(h, .inr (0, [.ref q7, .int 0]))] ++ wNt cy g b G ++ [(q7, .inl (cy 2, 14, .inr (.inr (.inr (.inr (fun _ => none))))))]) H := hP
  have hD : va_D A ([(h, .inr (0, [.ref q7, .int 0]))] ++ wNt cy g b G ++ [(q7, .inl (cy 2, 14, .inr (.inr (.inr (.inr (fun _ => none))))))]) := hD
  refine va_put (D := D) (ci := 0) (v := .int 0) (ty := .int) (C := RX0) (T := TX0) (N := 2) hx hb hts iX0_init_X0 tyX0 tyX0_ok nmX0 hown hK.1 hP hD hS 0 rfl rfl 1 (by decide) (hts (.fieldLink RX0 17 "DarkPlace$Acts" "size" "I") (List.mem_of_getElem? (i := 6) rfl)) (fun _ h9 => h9) rfl (by decide +kernel) rfl rfl (Nat.le_of_ble_eq_true rfl) dX0_init_15 (fun H locs hP hD hS => ?_)
  refine lv_iconst (v := 0) hx hb dX0_init_18 (by decide) ?_
  refine lv_istore_n (lv' := [(2, .int 0), (0, .ref h), (1, .ref g)]) hx hb dX0_init_19 rfl hl (by decide) rfl (fun ls hl => ?_)
  have hP : va_P D vwCl ([(h, .inr (0, [.ref q7, .int 0]))] ++ [(q7, .inl (cy 2, 14, .inr (.inr (.inr (.inr (fun _ => none))))))] ++ wNt cy g b G) H := hP.sub [0, 5, 1, 2, 3, 4] rfl
  have hD : va_D A ([(h, .inr (0, [.ref q7, .int 0]))] ++ [(q7, .inl (cy 2, 14, .inr (.inr (.inr (.inr (fun _ => none))))))] ++ wNt cy g b G) := hD.sub [0, 5, 1, 2, 3, 4] (by decide) rfl
  have hP := dk_arrP (i := 1) (b := q7) (n := 14) (cA := cy 2) (f := fun _ => none) (f' := fun i => if i < 0 then some ((fun _ => 0) i) else none) hP rfl (fun i _ => by simp)
  have hD := dk_arrD (i := 1) (b := q7) (e' := .inl (cy 2, 14, .inr (.inr (.inr (.inr (fun i => if i < 0 then some ((fun _ => 0) i) else none)))))) hD rfl
  exact loop 14 0 (fun _ => 0) (fun _ _ => 0) q7 _ _ ls (by omega) (by rw [show dk_pl cy 0 (fun _ => 0) (fun _ _ => 0) g (TI, dk_upA (dk_upA dk_Z.2 1 T1) 2 T2) = [] from rfl, List.append_nil]; exact hP) (by rw [show dk_pl cy 0 (fun _ => 0) (fun _ _ => 0) g (TI, dk_upA (dk_upA dk_Z.2 1 T1) 2 T2) = [] from rfl, List.append_nil]; exact hD) hS hl
