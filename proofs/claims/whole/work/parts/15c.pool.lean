/-! Acts.remember and Acts.takeBack: one of the pool's objects, by its number -/
def pl_r (f : Nat → va_W) (k : Nat) : va_W := (List.range k).flatMap f ++ ((List.range 14).drop (k + 1)).flatMap f
theorem pl_rng : ∀ k, k < 14 → List.range 14 = List.range k ++ k :: (List.range 14).drop (k + 1) := by decide
theorem pl_split (f : Nat → va_W) {k : Nat} (hk : k < 14) : (List.range 14).flatMap f = (List.range k).flatMap f ++ (f k ++ ((List.range 14).drop (k + 1)).flatMap f) := by
  have h := congrArg (fun l => List.flatMap f l) (pl_rng k hk)
  simp only [List.flatMap_append, List.flatMap_cons] at h
  exact h
theorem pl_out {D : va_G} {cl : List vw_C} {X : va_W} {f : Nat → va_W} {k : Nat} {H : Heap} (hk : k < 14) (hP : va_P D cl (X ++ (List.range 14).flatMap f) H) : va_P D cl ((X ++ f k) ++ pl_r f k) H := by
  rw [pl_split f hk, show X ++ ((List.range k).flatMap f ++ (f k ++ ((List.range 14).drop (k + 1)).flatMap f)) = ((X ++ (List.range k).flatMap f) ++ f k) ++ ((List.range 14).drop (k + 1)).flatMap f by simp only [List.append_assoc]] at hP
  have h := hP.swap
  rw [show ((X ++ (List.range k).flatMap f) ++ ((List.range 14).drop (k + 1)).flatMap f) ++ f k = (X ++ pl_r f k) ++ f k by unfold pl_r; simp only [List.append_assoc]] at h
  exact h.swap
theorem pl_outD {A : Nat → Prop} {X : va_W} {f : Nat → va_W} {k : Nat} (hk : k < 14) (hP : va_D A (X ++ (List.range 14).flatMap f)) : va_D A ((X ++ f k) ++ pl_r f k) := by
  rw [pl_split f hk, show X ++ ((List.range k).flatMap f ++ (f k ++ ((List.range 14).drop (k + 1)).flatMap f)) = ((X ++ (List.range k).flatMap f) ++ f k) ++ ((List.range 14).drop (k + 1)).flatMap f by simp only [List.append_assoc]] at hP
  have h := hP.swap
  rw [show ((X ++ (List.range k).flatMap f) ++ ((List.range 14).drop (k + 1)).flatMap f) ++ f k = (X ++ pl_r f k) ++ f k by unfold pl_r; simp only [List.append_assoc]] at h
  exact h.swap
theorem pl_in {D : va_G} {cl : List vw_C} {X : va_W} {f : Nat → va_W} {k : Nat} {H : Heap} (hk : k < 14) (hP : va_P D cl ((X ++ f k) ++ pl_r f k) H) : va_P D cl (X ++ (List.range 14).flatMap f) H := by
  have h := hP.swap
  rw [show (X ++ pl_r f k) ++ f k = ((X ++ (List.range k).flatMap f) ++ ((List.range 14).drop (k + 1)).flatMap f) ++ f k by unfold pl_r; simp only [List.append_assoc]] at h
  have h2 := h.swap
  rw [pl_split f hk, show X ++ ((List.range k).flatMap f ++ (f k ++ ((List.range 14).drop (k + 1)).flatMap f)) = ((X ++ (List.range k).flatMap f) ++ f k) ++ ((List.range 14).drop (k + 1)).flatMap f by simp only [List.append_assoc]]
  exact h2
theorem pl_inD {A : Nat → Prop} {X : va_W} {f : Nat → va_W} {k : Nat} (hk : k < 14) (hP : va_D A ((X ++ f k) ++ pl_r f k)) : va_D A (X ++ (List.range 14).flatMap f) := by
  have h := hP.swap
  rw [show (X ++ pl_r f k) ++ f k = ((X ++ (List.range k).flatMap f) ++ ((List.range 14).drop (k + 1)).flatMap f) ++ f k by unfold pl_r; simp only [List.append_assoc]] at h
  have h2 := h.swap
  rw [pl_split f hk, show X ++ ((List.range k).flatMap f ++ (f k ++ ((List.range 14).drop (k + 1)).flatMap f)) = ((X ++ (List.range k).flatMap f) ++ f k) ++ ((List.range 14).drop (k + 1)).flatMap f by simp only [List.append_assoc]]
  exact h2
theorem pl_fm {f f' : Nat → va_W} {l : List Nat} (h : ∀ j, j ∈ l → f j = f' j) : l.flatMap f = l.flatMap f' := by
  rw [List.flatMap_def, List.flatMap_def, List.map_congr_left h]
theorem pl_dr : ∀ k, k < 14 → k ∉ (List.range 14).drop (k + 1) := by decide
theorem pl_rc {f f' : Nat → va_W} {k : Nat} (hk : k < 14) (h : ∀ j, j ≠ k → f j = f' j) : pl_r f k = pl_r f' k := by
  unfold pl_r
  rw [pl_fm (f := f) (f' := f') (l := List.range k) (fun j hj => h j (by have := List.mem_range.mp hj; omega)), pl_fm (f := f) (f' := f') (l := (List.range 14).drop (k + 1)) (fun j hj => h j (fun e => pl_dr k hk (e ▸ hj)))]
theorem upB_s {B : Nat → dk_O} {k : Nat} {T : dk_O} : dk_upB B k T k = T := if_pos rfl
theorem upB_n {B : Nat → dk_O} {k j : Nat} {T : dk_O} (h : j ≠ k) : dk_upB B k T j = B j := if_neg h
/-- an object of the pool has changed -/
theorem pl_put {D : va_G} {X : va_W} {cy : Nat → ClassId} {s : Nat → Nat} {a : Nat → Nat → Nat} {g : Nat} {B : Nat → dk_O} {k : Nat} {T : dk_O} {H : Heap} {A : Nat → Prop} (hk : k < 14) (hP : va_P D vwCl ((X ++ wSt cy (s k) (a k) g T) ++ pl_r (fun j => wSt cy (s j) (a j) g (B j)) k) H) (hD : va_D A ((X ++ wSt cy (s k) (a k) g T) ++ pl_r (fun j => wSt cy (s j) (a j) g (B j)) k)) : va_P D vwCl (X ++ wPl cy s a g (dk_upB B k T)) H ∧ va_D A (X ++ wPl cy s a g (dk_upB B k T)) := by
  have e : pl_r (fun j => wSt cy (s j) (a j) g (B j)) k = pl_r (fun j => wSt cy (s j) (a j) g (dk_upB B k T j)) k := pl_rc hk (fun j hj => by rw [upB_n hj])
  rw [e] at hP hD
  constructor
  · exact pl_in (f := fun j => wSt cy (s j) (a j) g (dk_upB B k T j)) hk (by show va_P D vwCl ((X ++ wSt cy (s k) (a k) g (dk_upB B k T k)) ++ _) H; rw [upB_s]; exact hP)
  · exact pl_inD (f := fun j => wSt cy (s j) (a j) g (dk_upB B k T j)) hk (by show va_D A ((X ++ wSt cy (s k) (a k) g (dk_upB B k T k)) ++ _); rw [upB_s]; exact hD)
theorem pl_same {D : va_G} {X : va_W} {cy : Nat → ClassId} {s : Nat → Nat} {a : Nat → Nat → Nat} {g : Nat} {B : Nat → dk_O} {k : Nat} {H : Heap} {A : Nat → Prop} (hk : k < 14) (hP : va_P D vwCl ((X ++ wSt cy (s k) (a k) g (B k)) ++ pl_r (fun j => wSt cy (s j) (a j) g (B j)) k) H) (hD : va_D A ((X ++ wSt cy (s k) (a k) g (B k)) ++ pl_r (fun j => wSt cy (s j) (a j) g (B j)) k)) : va_P D vwCl (X ++ wPl cy s a g B) H ∧ va_D A (X ++ wPl cy s a g B) :=
  ⟨pl_in (f := fun j => wSt cy (s j) (a j) g (B j)) hk hP, pl_inD (f := fun j => wSt cy (s j) (a j) g (B j)) hk hD⟩
theorem iX0_remember_X0 : ∀ w ∈ wsX00, w ∈ wsX0_remember := fun _ h => List.mem_cons_of_mem _ (List.mem_append_left _ (List.mem_append_right _ h))
theorem iX0_takeBack_X0 : ∀ w ∈ wsX00, w ∈ wsX0_takeBack := fun _ h => List.mem_cons_of_mem _ (List.mem_append_left _ (List.mem_append_right _ h))
set_option maxHeartbeats 4000000 in
set_option maxRecDepth 100000 in
theorem kX0_remember (l : Launch) (D : va_G) (cy : Nat → ClassId) (hC : Nat) (bC : Nat) (sC : Nat → Nat) (aC : Nat → Nat → Nat) (gC : Nat) (hT : Nat) (aT : Nat → Nat) (gT : Nat) (sz : Nat) (C : dk_O) (CB : Nat → dk_O) (T : dk_O) (oC_I : (Nat → Int32)) (oC_B : (Nat → dk_O)) (hf : fX0_remember C CB T = some (oC_I, oC_B)) : dk_MuVA l yX0_remember wsX0_remember ({ frames := 1, cells := 0, slots := 0, locals := 22 }) D cy [.ref hC, .ref hT] (wAo hC bC C ++ wPo cy bC 14 sC ++ wSt cy hT aT gT T ++ wPl cy sC aC gC CB) (fun uu => wAo hC bC (oC_I, C.2) ++ wPo cy bC 14 uu.1 ++ wSt cy hT aT gT T ++ wPl cy uu.1 uu.2 gC oC_B) sz := by
  refine Met.ofW (cc := cX0_remember) (maxL := 2) (ret := none) (by decide) rfl ?_
  intro p e s m args below meth c s₁ B hml hv
  obtain ⟨rfl, hsz, hP, hK, hD0⟩ := hv
  have hx := B.exec
  have hb := B.bytes
  have hr := B.returns
  have hts := atoms_spec (ws := wsX0_remember) B.pre
  have hown : s.vm.findClass RX0 = some m.cls := findClass_of_methodNamed B.named
  have hlocks := B.notSynchronized
  subst hsz
  have hD := hD0.self (sz := s.heap.size)
  generalize hAe : va_A (wAo hC bC C ++ wPo cy bC 14 sC ++ wSt cy hT aT gT T ++ wPl cy sC aC gC CB) s.heap.size = A at hD ⊢
  have hA : ∀ q : Nat, s.heap.size ≤ q → A q := fun q h => by rw [← hAe]; exact Or.inr h
  have hS : va_S A s.heap s.heap [] := va_S.rf
  have hl := lv_entry ([.ref hC, .ref hT]) (n := 2) (Nat.le_of_ble_eq_true rfl)
  rw [lg_entry_eq]
  generalize (lg_sl ([.ref hC, .ref hT]) ++ List.replicate (2 - (lg_sl ([.ref hC, .ref hT])).length) Slot.unset).toArray = ls at hl ⊢
  have hl : lv_has ls 2 [(0, .ref hC), (1, .ref hT)] := hl
  have L13 : ∀ (s1 : Nat → Nat) (a1 : Nat → Nat → Nat) (I1 : Nat → Int32) (B1 : Nat → dk_O) (H : Heap) (locs : List Loc) (ls : Array Slot), va_P D vwCl (wAo hC bC (I1, C.2) ++ wPo cy bC 14 s1 ++ wSt cy hT aT gT T ++ wPl cy s1 a1 gC B1) H → va_D A (wAo hC bC (I1, C.2) ++ wPo cy bC 14 s1 ++ wSt cy hT aT gT T ++ wPl cy s1 a1 gC B1) → va_S A s.heap H locs → lv_has ls 2 [(0, .ref hC), (1, .ref hT)] → fX0_remember_k (I1, C.2) B1 T = some (oC_I, oC_B) → W p l e (headSpec wsX0_remember ({ frames := 1, cells := 0, slots := 0, locals := 22 })).room s m ([.ref hC, .ref hT]).toArray below meth c H locs 0 0 (MQ below (va_Qv (fun (_ : dk_S) => True) (dk_BA D (fun uu => wAo hC bC (oC_I, C.2) ++ wPo cy bC 14 uu.1 ++ wSt cy hT aT gT T ++ wPl cy uu.1 uu.2 gC oC_B) A) A) ([.ref hC, .ref hT]).toArray s 0 0 A) (F0 m 13 ls []) := by
    intro s1 a1 I1 B1 H locs ls hP hD hS hl hf
    unfold fX0_remember_k at hf
    dsimp only at hf
    obtain ⟨hq, hf⟩ := dk_guardT hf
    obtain ⟨k, hk, hkI⟩ := vp_in_of (n := 14) (vp_in_iff.mpr ⟨hq.1, hq.2⟩) (by decide)
    have hc : (I1 1).toNatClampNeg = k := by rw [hkI]; exact nI_clamp (by omega)
    rw [hc] at hf
    obtain ⟨⟨ib, ab, bb⟩, kb, hf⟩ := dk_bind hf
    dsimp only at hf
    refine lv_aload_n hx hb dX0_remember_13 rfl (lv_at hl 0 rfl) ?_
    refine va_get (D := D) (ci := 0) (v := .ref bC) (C := RX0) (T := TX0) (N := 2) hx hb hts iX0_remember_X0 hown hK.1 hP 0 rfl rfl 0 (by decide) (hts (.fieldLink RX0 11 "DarkPlace$Acts" "before" "[LDarkPlace$Stand;") (List.mem_of_getElem? (i := 2) rfl)) (fun _ h9 => h9) rfl dX0_remember_14 ?_
    refine lv_aload_n hx hb dX0_remember_17 rfl (lv_at hl 0 rfl) ?_
    refine va_get (D := D) (ci := 0) (v := .int (I1 1)) (C := RX0) (T := TX0) (N := 2) hx hb hts iX0_remember_X0 hown hK.1 hP 0 rfl rfl 1 (by decide) (hts (.fieldLink RX0 17 "DarkPlace$Acts" "size" "I") (List.mem_of_getElem? (i := 1) rfl)) (fun _ h9 => h9) rfl dX0_remember_18 ?_
    refine dk_aald (f := s1) hx hb hK.1 hP 1 2 rfl rfl k hkI ⟨hk, by decide⟩ dX0_remember_21 ?_
    refine lv_aload_n hx hb dX0_remember_22 rfl (lv_at hl 1 rfl) ?_
    have hP2 : va_P D vwCl ((wAo hC bC (I1, C.2) ++ wPo cy bC 14 s1 ++ wSt cy hT aT gT T ++ wSt cy (s1 k) (a1 k) gC (B1 k)) ++ pl_r (fun j => wSt cy (s1 j) (a1 j) gC (B1 j)) k) H := pl_out (f := fun j => wSt cy (s1 j) (a1 j) gC (B1 j)) hk hP
    have hD2 : va_D A ((wAo hC bC (I1, C.2) ++ wPo cy bC 14 s1 ++ wSt cy hT aT gT T ++ wSt cy (s1 k) (a1 k) gC (B1 k)) ++ pl_r (fun j => wSt cy (s1 j) (a1 j) gC (B1 j)) k) := pl_outD (f := fun j => wSt cy (s1 j) (a1 j) gC (B1 j)) hk hD
    have hPc := hP2.sub (ws' := wSt cy (s1 k) (a1 k) gC (B1 k) ++ wSt cy hT aT gT T) [5, 6, 7, 2, 3, 4] rfl
    have hDc := hD2.sub (ws' := wSt cy (s1 k) (a1 k) gC (B1 k) ++ wSt cy hT aT gT T) [5, 6, 7, 2, 3, 4] (by decide) rfl
    have hFc := va_free (wc := wSt cy (s1 k) (a1 k) gC (B1 k) ++ wSt cy hT aT gT T) hD2 hS hA [5, 6, 7, 2, 3, 4] rfl
    refine va_callv (va_runV (As := [.ref hT]) (rest := []) ⟨hx, hb, hml, hown, hts⟩ (kX3_become l D cy (s1 k) (a1 k) gC hT aT gT H.size (B1 k) T ib ab bb kb) (cwV 1 hts gX0_remember_X3_become rfl rfl rfl (by decide +kernel) ⟨Nat.le_of_ble_eq_true rfl, Nat.le_of_ble_eq_true rfl⟩) (dk_premV hK hPc hDc (ci := 3) (q0 := 0) rfl rfl) rfl rfl hl.1 rfl (lv_room (Nat.le_of_ble_eq_true rfl)) dX0_remember_23 ⟨Nat.zero_le _, Nat.zero_le _⟩) hS (fun q _ h => hFc q h) hFc (fun u t H1 locs ht hvm hw hB hz1 hk1 hS => ?_)
    obtain ⟨hP1, hD1⟩ := hB
    rw [ht] at hP1
    obtain ⟨hP, hD⟩ := va_joinQ (wr := wAo hC bC (I1, C.2) ++ wPo cy bC 14 s1) (w1 := wSt cy (s1 k) (a1 k) gC (ib, dk_upA (dk_upA (B1 k).2 1 ab) 2 bb) ++ wSt cy hT aT gT T) (pl := pl_r (fun j => wSt cy (s1 j) (a1 j) gC (B1 j)) k) hP2 hD2 [5, 6, 7, 2, 3, 4] [0, 1] rfl rfl (by decide) (by decide) hk1 hFc hP1 hD1
    generalize H1 = H at hP hS ⊢
    have hP : va_P D vwCl ((wAo hC bC (I1, C.2) ++ wPo cy bC 14 s1 ++ wSt cy hT aT gT T ++ wSt cy (s1 k) (a1 k) gC (ib, dk_upA (dk_upA (B1 k).2 1 ab) 2 bb)) ++ pl_r (fun j => wSt cy (s1 j) (a1 j) gC (B1 j)) k) H := hP.part (cx := wAo hC bC (I1, C.2) ++ wPo cy bC 14 s1 ++ wSt cy hT aT gT T ++ wSt cy (s1 k) (a1 k) gC (ib, dk_upA (dk_upA (B1 k).2 1 ab) 2 bb)) [0, 1, 5, 6, 7, 2, 3, 4] rfl
    have hD : va_D A ((wAo hC bC (I1, C.2) ++ wPo cy bC 14 s1 ++ wSt cy hT aT gT T ++ wSt cy (s1 k) (a1 k) gC (ib, dk_upA (dk_upA (B1 k).2 1 ab) 2 bb)) ++ pl_r (fun j => wSt cy (s1 j) (a1 j) gC (B1 j)) k) := hD.part (cx := wAo hC bC (I1, C.2) ++ wPo cy bC 14 s1 ++ wSt cy hT aT gT T ++ wSt cy (s1 k) (a1 k) gC (ib, dk_upA (dk_upA (B1 k).2 1 ab) 2 bb)) [0, 1, 5, 6, 7, 2, 3, 4] (by decide) rfl
    obtain ⟨hP, hD⟩ := pl_put hk hP hD
    refine lv_aload_n hx hb dX0_remember_26 rfl (lv_at hl 0 rfl) ?_
    refine lv_dup hx hb dX0_remember_27 rfl ?_
    refine va_get (D := D) (ci := 0) (v := .int (I1 1)) (C := RX0) (T := TX0) (N := 2) hx hb hts iX0_remember_X0 hown hK.1 hP 0 rfl rfl 1 (by decide) (hts (.fieldLink RX0 17 "DarkPlace$Acts" "size" "I") (List.mem_of_getElem? (i := 1) rfl)) (fun _ h9 => h9) rfl dX0_remember_28 ?_
    refine lv_iconst (v := 1) hx hb dX0_remember_31 (by decide) ?_
    refine lv_iadd hx hb dX0_remember_32 ?_
    refine va_put (D := D) (ci := 0) (v := .int ((I1 1) + 1)) (ty := .int) (C := RX0) (T := TX0) (N := 2) hx hb hts iX0_remember_X0 tyX0 tyX0_ok nmX0 hown hK.1 hP hD hS 0 rfl rfl 1 (by decide) (hts (.fieldLink RX0 17 "DarkPlace$Acts" "size" "I") (List.mem_of_getElem? (i := 1) rfl)) (fun _ h9 => h9) rfl (by decide +kernel) rfl rfl (Nat.le_of_ble_eq_true rfl) dX0_remember_33 (fun H locs hP hD hS => ?_)
    have e := Option.some.inj hf
    simp only [Prod.mk.injEq] at e
    obtain ⟨e0, e1⟩ := e
    subst e0
    subst e1
    exact W.vret hx hb hr (fun t ht hW => ⟨⟨(s1, a1), rfl, trivial, by rw [ht]; exact hP, hD⟩, hS.F ht⟩) hS.2.2 dX0_remember_36
  unfold fX0_remember at hf
  refine lv_aload_n hx hb dX0_remember_0 rfl (lv_at hl 0 rfl) ?_
  refine va_get (D := D) (ci := 0) (v := .int (C.1 1)) (C := RX0) (T := TX0) (N := 2) hx hb hts iX0_remember_X0 hown hK.1 hP 0 rfl rfl 1 (by decide) (hts (.fieldLink RX0 17 "DarkPlace$Acts" "size" "I") (List.mem_of_getElem? (i := 1) rfl)) (fun _ h9 => h9) rfl dX0_remember_1 ?_
  refine lv_bipush (v := 14) hx hb dX0_remember_4 (by decide) ?_
  refine dk_clt (tgt := 13) hx hb dX0_remember_6 (by decide) hf (fun hf => ?_) (fun hf => ?_)
  · exact L13 sC aC C.1 CB _ _ _ hP hD hS hl hf
  · refine lv_aload_n hx hb dX0_remember_9 rfl (lv_at hl 0 rfl) ?_
    obtain ⟨⟨ia, ba⟩, ka, hf⟩ := dk_bind hf
    dsimp only at hf
    have hPc := hP.part (cx := wAo hC bC C ++ wPo cy bC 14 sC) [0, 1] rfl
    have hDc := hD.part (cx := wAo hC bC C ++ wPo cy bC 14 sC) [0, 1] (by decide) rfl
    have hFc := va_freeP (cx := wAo hC bC C ++ wPo cy bC 14 sC) hD hS hA [0, 1] rfl
    refine va_callv (va_runV (As := []) (rest := []) ⟨hx, hb, hml, hown, hts⟩ (kX0_forgetFirst l D cy hC bC sC aC gC s.heap.size C CB ia ba ka) (cwV 0 hts gX0_remember_X0_forgetFirst rfl rfl rfl (by decide +kernel) ⟨Nat.le_of_ble_eq_true rfl, Nat.le_of_ble_eq_true rfl⟩) (dk_premV hK hPc hDc (ci := 0) (q0 := 0) rfl rfl) rfl rfl hl.1 rfl (lv_room (Nat.le_of_ble_eq_true rfl)) dX0_remember_10 ⟨Nat.zero_le _, Nat.zero_le _⟩) hS (fun q _ h => hFc q h) hFc (fun u t H1 locs ht hvm hw hB hz1 hk1 hS => ?_)
    obtain ⟨sa, aa⟩ := u
    obtain ⟨hP1, hD1⟩ := hB
    rw [ht] at hP1
    obtain ⟨hP, hD⟩ := va_joinP (wr := wSt cy hT aT gT T) (rx := wAo hC bC (ia, C.2) ++ wPo cy bC 14 sa) hP hD [0, 1] [2, 3, 4] rfl rfl (by decide) (by decide) hk1 hFc hP1 hD1
    generalize H1 = H at hP hS ⊢
    have hP : va_P D vwCl (wAo hC bC (ia, C.2) ++ wPo cy bC 14 sa ++ wSt cy hT aT gT T ++ wPl cy sa aa gC ba) H := hP.part (cx := wAo hC bC (ia, C.2) ++ wPo cy bC 14 sa ++ wSt cy hT aT gT T) [3, 4, 0, 1, 2] rfl
    have hD : va_D A (wAo hC bC (ia, C.2) ++ wPo cy bC 14 sa ++ wSt cy hT aT gT T ++ wPl cy sa aa gC ba) := hD.part (cx := wAo hC bC (ia, C.2) ++ wPo cy bC 14 sa ++ wSt cy hT aT gT T) [3, 4, 0, 1, 2] (by decide) rfl
    exact L13 sa aa ia ba _ _ _ hP hD hS hl hf
set_option maxHeartbeats 4000000 in
set_option maxRecDepth 100000 in
theorem kX0_takeBack (l : Launch) (D : va_G) (cy : Nat → ClassId) (hC : Nat) (bC : Nat) (sC : Nat → Nat) (aC : Nat → Nat → Nat) (gC : Nat) (hT : Nat) (aT : Nat → Nat) (gT : Nat) (sz : Nat) (C : dk_O) (CB : Nat → dk_O) (T : dk_O) (r : Int32) (oC_I : (Nat → Int32)) (oT_I : (Nat → Int32)) (oT_1 : (Nat → Int32)) (oT_2 : (Nat → Int32)) (hf : fX0_takeBack C CB T = some (r, oC_I, oT_I, oT_1, oT_2)) : dk_MuI l yX0_takeBack wsX0_takeBack ({ frames := 1, cells := 0, slots := 0, locals := 22 }) D cy [.ref hC, .ref hT] (wAo hC bC C ++ wPo cy bC 14 sC ++ wSt cy hT aT gT T ++ wPl cy sC aC gC CB) (wAo hC bC (oC_I, C.2) ++ wPo cy bC 14 sC ++ wSt cy hT aT gT (oT_I, dk_upA (dk_upA T.2 1 oT_1) 2 oT_2) ++ wPl cy sC aC gC CB) sz r := by
  refine Met.ofW (cc := cX0_takeBack) (maxL := 2) (ret := (some .int)) (by decide) rfl ?_
  intro p e s m args below meth c s₁ B hml hv
  obtain ⟨rfl, hsz, hP, hK, hD0⟩ := hv
  have hx := B.exec
  have hb := B.bytes
  have hr := B.returns
  have hts := atoms_spec (ws := wsX0_takeBack) B.pre
  have hown : s.vm.findClass RX0 = some m.cls := findClass_of_methodNamed B.named
  have hlocks := B.notSynchronized
  subst hsz
  have hD := hD0.self (sz := s.heap.size)
  generalize hAe : va_A (wAo hC bC C ++ wPo cy bC 14 sC ++ wSt cy hT aT gT T ++ wPl cy sC aC gC CB) s.heap.size = A at hD ⊢
  have hA : ∀ q : Nat, s.heap.size ≤ q → A q := fun q h => by rw [← hAe]; exact Or.inr h
  have hS : va_S A s.heap s.heap [] := va_S.rf
  have hl := lv_entry ([.ref hC, .ref hT]) (n := 2) (Nat.le_of_ble_eq_true rfl)
  rw [lg_entry_eq]
  generalize (lg_sl ([.ref hC, .ref hT]) ++ List.replicate (2 - (lg_sl ([.ref hC, .ref hT])).length) Slot.unset).toArray = ls at hl ⊢
  have hl : lv_has ls 2 [(0, .ref hC), (1, .ref hT)] := hl
  unfold fX0_takeBack at hf
  refine lv_aload_n hx hb dX0_takeBack_0 rfl (lv_at hl 0 rfl) ?_
  refine va_get (D := D) (ci := 0) (v := .int (C.1 1)) (C := RX0) (T := TX0) (N := 2) hx hb hts iX0_takeBack_X0 hown hK.1 hP 0 rfl rfl 1 (by decide) (hts (.fieldLink RX0 17 "DarkPlace$Acts" "size" "I") (List.mem_of_getElem? (i := 1) rfl)) (fun _ h9 => h9) rfl dX0_takeBack_1 ?_
  refine dk_ile (tgt := 30) hx hb dX0_takeBack_4 (by decide) hf (fun hf => ?_) (fun hf => ?_)
  · refine lv_aload_n hx hb dX0_takeBack_30 rfl (lv_at hl 0 rfl) ?_
    refine va_get (D := D) (ci := 0) (v := .int (C.1 1)) (C := RX0) (T := TX0) (N := 2) hx hb hts iX0_takeBack_X0 hown hK.1 hP 0 rfl rfl 1 (by decide) (hts (.fieldLink RX0 17 "DarkPlace$Acts" "size" "I") (List.mem_of_getElem? (i := 1) rfl)) (fun _ h9 => h9) rfl dX0_takeBack_31 ?_
    have e := Option.some.inj hf
    simp only [Prod.mk.injEq] at e
    obtain ⟨e0, e1, e2, e3, e4⟩ := e
    subst e1
    subst e2
    subst e3
    subst e4
    exact W.iret (v := C.1 1) hx hb hr (fun t ht hW => ⟨⟨C.1 1, (), rfl, e0, by rw [ht]; exact hP, hD⟩, hS.F ht⟩) hS.2.2 dX0_takeBack_34
  · obtain ⟨hq, hf⟩ := dk_guardT hf
    obtain ⟨k, hk, hkI⟩ := vp_in_of (n := 14) (vp_in_iff.mpr ⟨hq.1, hq.2⟩) (by decide)
    have hc : ((C.1 1) - 1).toNatClampNeg = k := by rw [hkI]; exact nI_clamp (by omega)
    rw [hc] at hf
    obtain ⟨⟨ib, ab, bb⟩, kb, hf⟩ := dk_bind hf
    dsimp only at hf
    refine lv_aload_n hx hb dX0_takeBack_7 rfl (lv_at hl 0 rfl) ?_
    refine lv_dup hx hb dX0_takeBack_8 rfl ?_
    refine va_get (D := D) (ci := 0) (v := .int (C.1 1)) (C := RX0) (T := TX0) (N := 2) hx hb hts iX0_takeBack_X0 hown hK.1 hP 0 rfl rfl 1 (by decide) (hts (.fieldLink RX0 17 "DarkPlace$Acts" "size" "I") (List.mem_of_getElem? (i := 1) rfl)) (fun _ h9 => h9) rfl dX0_takeBack_9 ?_
    refine lv_iconst (v := 1) hx hb dX0_takeBack_12 (by decide) ?_
    refine lv_isub hx hb dX0_takeBack_13 ?_
    refine va_put (D := D) (ci := 0) (v := .int ((C.1 1) - 1)) (ty := .int) (C := RX0) (T := TX0) (N := 2) hx hb hts iX0_takeBack_X0 tyX0 tyX0_ok nmX0 hown hK.1 hP hD hS 0 rfl rfl 1 (by decide) (hts (.fieldLink RX0 17 "DarkPlace$Acts" "size" "I") (List.mem_of_getElem? (i := 1) rfl)) (fun _ h9 => h9) rfl (by decide +kernel) rfl rfl (Nat.le_of_ble_eq_true rfl) dX0_takeBack_14 (fun H locs hP hD hS => ?_)
    have hP : va_P D vwCl (wAo hC bC (upd C.1 1 ((C.1 1) - 1), C.2) ++ wPo cy bC 14 sC ++ wSt cy hT aT gT T ++ wPl cy sC aC gC CB) H := hP
    have hD : va_D A (wAo hC bC (upd C.1 1 ((C.1 1) - 1), C.2) ++ wPo cy bC 14 sC ++ wSt cy hT aT gT T ++ wPl cy sC aC gC CB) := hD
    refine lv_aload_n hx hb dX0_takeBack_17 rfl (lv_at hl 1 rfl) ?_
    refine lv_aload_n hx hb dX0_takeBack_18 rfl (lv_at hl 0 rfl) ?_
    refine va_get (D := D) (ci := 0) (v := .ref bC) (C := RX0) (T := TX0) (N := 2) hx hb hts iX0_takeBack_X0 hown hK.1 hP 0 rfl rfl 0 (by decide) (hts (.fieldLink RX0 11 "DarkPlace$Acts" "before" "[LDarkPlace$Stand;") (List.mem_of_getElem? (i := 2) rfl)) (fun _ h9 => h9) rfl dX0_takeBack_19 ?_
    refine lv_aload_n hx hb dX0_takeBack_22 rfl (lv_at hl 0 rfl) ?_
    refine va_get (D := D) (ci := 0) (v := .int ((C.1 1) - 1)) (C := RX0) (T := TX0) (N := 2) hx hb hts iX0_takeBack_X0 hown hK.1 hP 0 rfl rfl 1 (by decide) (hts (.fieldLink RX0 17 "DarkPlace$Acts" "size" "I") (List.mem_of_getElem? (i := 1) rfl)) (fun _ h9 => h9) rfl dX0_takeBack_23 ?_
    refine dk_aald (f := sC) hx hb hK.1 hP 1 2 rfl rfl k hkI ⟨hk, by decide⟩ dX0_takeBack_26 ?_
    have hP2 : va_P D vwCl ((wAo hC bC (upd C.1 1 ((C.1 1) - 1), C.2) ++ wPo cy bC 14 sC ++ wSt cy hT aT gT T ++ wSt cy (sC k) (aC k) gC (CB k)) ++ pl_r (fun j => wSt cy (sC j) (aC j) gC (CB j)) k) H := pl_out (f := fun j => wSt cy (sC j) (aC j) gC (CB j)) hk hP
    have hD2 : va_D A ((wAo hC bC (upd C.1 1 ((C.1 1) - 1), C.2) ++ wPo cy bC 14 sC ++ wSt cy hT aT gT T ++ wSt cy (sC k) (aC k) gC (CB k)) ++ pl_r (fun j => wSt cy (sC j) (aC j) gC (CB j)) k) := pl_outD (f := fun j => wSt cy (sC j) (aC j) gC (CB j)) hk hD
    have hPc := hP2.sub (ws' := wSt cy hT aT gT T ++ wSt cy (sC k) (aC k) gC (CB k)) [2, 3, 4, 5, 6, 7] rfl
    have hDc := hD2.sub (ws' := wSt cy hT aT gT T ++ wSt cy (sC k) (aC k) gC (CB k)) [2, 3, 4, 5, 6, 7] (by decide) rfl
    have hFc := va_free (wc := wSt cy hT aT gT T ++ wSt cy (sC k) (aC k) gC (CB k)) hD2 hS hA [2, 3, 4, 5, 6, 7] rfl
    refine va_callv (va_runV (As := [.ref (sC k)]) (rest := []) ⟨hx, hb, hml, hown, hts⟩ (kX3_become l D cy hT aT gT (sC k) (aC k) gC H.size T (CB k) ib ab bb kb) (cwV 1 hts gX0_takeBack_X3_become rfl rfl rfl (by decide +kernel) ⟨Nat.le_of_ble_eq_true rfl, Nat.le_of_ble_eq_true rfl⟩) (dk_premV hK hPc hDc (ci := 3) (q0 := 0) rfl rfl) rfl rfl hl.1 rfl (lv_room (Nat.le_of_ble_eq_true rfl)) dX0_takeBack_27 ⟨Nat.zero_le _, Nat.zero_le _⟩) hS (fun q _ h => hFc q h) hFc (fun u t H1 locs ht hvm hw hB hz1 hk1 hS => ?_)
    obtain ⟨hP1, hD1⟩ := hB
    rw [ht] at hP1
    obtain ⟨hP, hD⟩ := va_joinQ (wr := wAo hC bC (upd C.1 1 ((C.1 1) - 1), C.2) ++ wPo cy bC 14 sC) (w1 := wSt cy hT aT gT (ib, dk_upA (dk_upA T.2 1 ab) 2 bb) ++ wSt cy (sC k) (aC k) gC (CB k)) (pl := pl_r (fun j => wSt cy (sC j) (aC j) gC (CB j)) k) hP2 hD2 [2, 3, 4, 5, 6, 7] [0, 1] rfl rfl (by decide) (by decide) hk1 hFc hP1 hD1
    generalize H1 = H at hP hS ⊢
    have hP : va_P D vwCl ((wAo hC bC (upd C.1 1 ((C.1 1) - 1), C.2) ++ wPo cy bC 14 sC ++ wSt cy hT aT gT (ib, dk_upA (dk_upA T.2 1 ab) 2 bb) ++ wSt cy (sC k) (aC k) gC (CB k)) ++ pl_r (fun j => wSt cy (sC j) (aC j) gC (CB j)) k) H := hP.part (cx := wAo hC bC (upd C.1 1 ((C.1 1) - 1), C.2) ++ wPo cy bC 14 sC ++ wSt cy hT aT gT (ib, dk_upA (dk_upA T.2 1 ab) 2 bb) ++ wSt cy (sC k) (aC k) gC (CB k)) [0, 1, 2, 3, 4, 5, 6, 7] rfl
    have hD : va_D A ((wAo hC bC (upd C.1 1 ((C.1 1) - 1), C.2) ++ wPo cy bC 14 sC ++ wSt cy hT aT gT (ib, dk_upA (dk_upA T.2 1 ab) 2 bb) ++ wSt cy (sC k) (aC k) gC (CB k)) ++ pl_r (fun j => wSt cy (sC j) (aC j) gC (CB j)) k) := hD.part (cx := wAo hC bC (upd C.1 1 ((C.1 1) - 1), C.2) ++ wPo cy bC 14 sC ++ wSt cy hT aT gT (ib, dk_upA (dk_upA T.2 1 ab) 2 bb) ++ wSt cy (sC k) (aC k) gC (CB k)) [0, 1, 2, 3, 4, 5, 6, 7] (by decide) rfl
    obtain ⟨hP, hD⟩ := pl_same hk hP hD
    refine lv_aload_n hx hb dX0_takeBack_30 rfl (lv_at hl 0 rfl) ?_
    refine va_get (D := D) (ci := 0) (v := .int ((C.1 1) - 1)) (C := RX0) (T := TX0) (N := 2) hx hb hts iX0_takeBack_X0 hown hK.1 hP 0 rfl rfl 1 (by decide) (hts (.fieldLink RX0 17 "DarkPlace$Acts" "size" "I") (List.mem_of_getElem? (i := 1) rfl)) (fun _ h9 => h9) rfl dX0_takeBack_31 ?_
    have e := Option.some.inj hf
    simp only [Prod.mk.injEq] at e
    obtain ⟨e0, e1, e2, e3, e4⟩ := e
    subst e1
    subst e2
    subst e3
    subst e4
    exact W.iret (v := (C.1 1) - 1) hx hb hr (fun t ht hW => ⟨⟨(C.1 1) - 1, (), rfl, e0, by rw [ht]; exact hP, hD⟩, hS.F ht⟩) hS.2.2 dX0_takeBack_34
