/-! Acts.forgetFirst: the row of references goes round by one -/
def fg_s (s : Nat → Nat) (i : Nat) : Nat → Nat := fun j => if j + 1 < i then s (j + 1) else s j
def fg_r {α : Type} (s : Nat → α) : Nat → α := fun j => if j < 13 then s (j + 1) else if j = 13 then s 0 else s j
theorem fg_step (s : Nat → Nat) (k : Nat) : va_up (fun j => some (fg_s s (k + 1) j)) k (some (s (k + 1))) = fun j => some (fg_s s (k + 2) j) := by
  funext j
  unfold va_up fg_s
  by_cases e : j = k
  · subst e; simp
  · simp only [e, if_false]
    by_cases l : j + 1 < k + 1
    · rw [if_pos l, if_pos (by omega)]
    · rw [if_neg l, if_neg (by omega)]
theorem fg_first (s : Nat → Nat) : (fun j => some (s j)) = fun j => some (fg_s s 1 j) := by
  funext j
  unfold fg_s
  rw [if_neg (by omega)]
theorem fg_last (s : Nat → Nat) : va_up (fun j => some (fg_s s 14 j)) 13 (some (s 0)) = fun j => some (fg_r s j) := by
  funext j
  unfold va_up fg_s fg_r
  by_cases e : j = 13
  · subst e; simp
  · simp only [e, if_false]
    by_cases l : j < 13
    · rw [if_pos (by omega), if_pos l]
    · rw [if_neg (by omega), if_neg l]
theorem iX0_forgetFirst_X0 : ∀ w ∈ wsX00, w ∈ wsX0_forgetFirst := fun _ h => List.mem_cons_of_mem _ (List.mem_append_right _ h)
set_option maxHeartbeats 4000000 in
set_option maxRecDepth 100000 in
theorem kX0_forgetFirst (l : Launch) (D : va_G) (cy : Nat → ClassId) (hC : Nat) (bC : Nat) (sC : Nat → Nat) (aC : Nat → Nat → Nat) (gC : Nat) (sz : Nat) (C : dk_O) (CB : Nat → dk_O) (oC_I : (Nat → Int32)) (oC_B : (Nat → dk_O)) (hf : fX0_forgetFirst C CB = some (oC_I, oC_B)) : dk_MuVA l yX0_forgetFirst wsX0_forgetFirst ({ frames := 0, cells := 0, slots := 0, locals := 0 }) D cy [.ref hC] (wAo hC bC C ++ wPo cy bC 14 sC ++ wPl cy sC aC gC CB) (fun uu => wAo hC bC (oC_I, C.2) ++ wPo cy bC 14 uu.1 ++ wPl cy uu.1 uu.2 gC oC_B) sz := by
  refine Met.ofW (cc := cX0_forgetFirst) (maxL := 3) (ret := none) (by decide) rfl ?_
  intro p e s m args below meth c s₁ B hml hv
  obtain ⟨rfl, hsz, hP, hK, hD0⟩ := hv
  have hx := B.exec
  have hb := B.bytes
  have hr := B.returns
  have hts := atoms_spec (ws := wsX0_forgetFirst) B.pre
  have hown : s.vm.findClass RX0 = some m.cls := findClass_of_methodNamed B.named
  have hlocks := B.notSynchronized
  subst hsz
  have hD := hD0.self (sz := s.heap.size)
  generalize hAe : va_A (wAo hC bC C ++ wPo cy bC 14 sC ++ wPl cy sC aC gC CB) s.heap.size = A at hD ⊢
  have hA : ∀ q : Nat, s.heap.size ≤ q → A q := fun q h => by rw [← hAe]; exact Or.inr h
  have hS : va_S A s.heap s.heap [] := va_S.rf
  have hl := lv_entry ([.ref hC]) (n := 3) (Nat.le_of_ble_eq_true rfl)
  rw [lg_entry_eq]
  generalize (lg_sl ([.ref hC]) ++ List.replicate (3 - (lg_sl ([.ref hC])).length) Slot.unset).toArray = ls at hl ⊢
  have hl : lv_has ls 3 [(0, .ref hC)] := hl
  obtain ⟨R, hR⟩ : ∃ R : va_W, R = (wSt cy (sC 0) (aC 0) gC (CB 0) ++ (wSt cy (sC 1) (aC 1) gC (CB 1) ++ (wSt cy (sC 2) (aC 2) gC (CB 2) ++ (wSt cy (sC 3) (aC 3) gC (CB 3) ++ (wSt cy (sC 4) (aC 4) gC (CB 4) ++ (wSt cy (sC 5) (aC 5) gC (CB 5) ++ (wSt cy (sC 6) (aC 6) gC (CB 6) ++ (wSt cy (sC 7) (aC 7) gC (CB 7) ++ (wSt cy (sC 8) (aC 8) gC (CB 8) ++ (wSt cy (sC 9) (aC 9) gC (CB 9) ++ (wSt cy (sC 10) (aC 10) gC (CB 10) ++ (wSt cy (sC 11) (aC 11) gC (CB 11) ++ (wSt cy (sC 12) (aC 12) gC (CB 12) ++ (wSt cy (sC 13) (aC 13) gC (CB 13))))))))))))))) := ⟨_, rfl⟩
  have hv0 : R[0]? = some (sC 0, .inr (3, [.ref gC, .ref (aC 0 1), .ref (aC 0 2), .int ((CB 0).1 3), .int ((CB 0).1 4), .int ((CB 0).1 5), .int ((CB 0).1 6), .int ((CB 0).1 7), .int ((CB 0).1 8)])) := by rw [hR]; rfl
  have hv1 : R[3]? = some (sC 1, .inr (3, [.ref gC, .ref (aC 1 1), .ref (aC 1 2), .int ((CB 1).1 3), .int ((CB 1).1 4), .int ((CB 1).1 5), .int ((CB 1).1 6), .int ((CB 1).1 7), .int ((CB 1).1 8)])) := by rw [hR]; rfl
  have hv2 : R[6]? = some (sC 2, .inr (3, [.ref gC, .ref (aC 2 1), .ref (aC 2 2), .int ((CB 2).1 3), .int ((CB 2).1 4), .int ((CB 2).1 5), .int ((CB 2).1 6), .int ((CB 2).1 7), .int ((CB 2).1 8)])) := by rw [hR]; rfl
  have hv3 : R[9]? = some (sC 3, .inr (3, [.ref gC, .ref (aC 3 1), .ref (aC 3 2), .int ((CB 3).1 3), .int ((CB 3).1 4), .int ((CB 3).1 5), .int ((CB 3).1 6), .int ((CB 3).1 7), .int ((CB 3).1 8)])) := by rw [hR]; rfl
  have hv4 : R[12]? = some (sC 4, .inr (3, [.ref gC, .ref (aC 4 1), .ref (aC 4 2), .int ((CB 4).1 3), .int ((CB 4).1 4), .int ((CB 4).1 5), .int ((CB 4).1 6), .int ((CB 4).1 7), .int ((CB 4).1 8)])) := by rw [hR]; rfl
  have hv5 : R[15]? = some (sC 5, .inr (3, [.ref gC, .ref (aC 5 1), .ref (aC 5 2), .int ((CB 5).1 3), .int ((CB 5).1 4), .int ((CB 5).1 5), .int ((CB 5).1 6), .int ((CB 5).1 7), .int ((CB 5).1 8)])) := by rw [hR]; rfl
  have hv6 : R[18]? = some (sC 6, .inr (3, [.ref gC, .ref (aC 6 1), .ref (aC 6 2), .int ((CB 6).1 3), .int ((CB 6).1 4), .int ((CB 6).1 5), .int ((CB 6).1 6), .int ((CB 6).1 7), .int ((CB 6).1 8)])) := by rw [hR]; rfl
  have hv7 : R[21]? = some (sC 7, .inr (3, [.ref gC, .ref (aC 7 1), .ref (aC 7 2), .int ((CB 7).1 3), .int ((CB 7).1 4), .int ((CB 7).1 5), .int ((CB 7).1 6), .int ((CB 7).1 7), .int ((CB 7).1 8)])) := by rw [hR]; rfl
  have hv8 : R[24]? = some (sC 8, .inr (3, [.ref gC, .ref (aC 8 1), .ref (aC 8 2), .int ((CB 8).1 3), .int ((CB 8).1 4), .int ((CB 8).1 5), .int ((CB 8).1 6), .int ((CB 8).1 7), .int ((CB 8).1 8)])) := by rw [hR]; rfl
  have hv9 : R[27]? = some (sC 9, .inr (3, [.ref gC, .ref (aC 9 1), .ref (aC 9 2), .int ((CB 9).1 3), .int ((CB 9).1 4), .int ((CB 9).1 5), .int ((CB 9).1 6), .int ((CB 9).1 7), .int ((CB 9).1 8)])) := by rw [hR]; rfl
  have hv10 : R[30]? = some (sC 10, .inr (3, [.ref gC, .ref (aC 10 1), .ref (aC 10 2), .int ((CB 10).1 3), .int ((CB 10).1 4), .int ((CB 10).1 5), .int ((CB 10).1 6), .int ((CB 10).1 7), .int ((CB 10).1 8)])) := by rw [hR]; rfl
  have hv11 : R[33]? = some (sC 11, .inr (3, [.ref gC, .ref (aC 11 1), .ref (aC 11 2), .int ((CB 11).1 3), .int ((CB 11).1 4), .int ((CB 11).1 5), .int ((CB 11).1 6), .int ((CB 11).1 7), .int ((CB 11).1 8)])) := by rw [hR]; rfl
  have hv12 : R[36]? = some (sC 12, .inr (3, [.ref gC, .ref (aC 12 1), .ref (aC 12 2), .int ((CB 12).1 3), .int ((CB 12).1 4), .int ((CB 12).1 5), .int ((CB 12).1 6), .int ((CB 12).1 7), .int ((CB 12).1 8)])) := by rw [hR]; rfl
  have hv13 : R[39]? = some (sC 13, .inr (3, [.ref gC, .ref (aC 13 1), .ref (aC 13 2), .int ((CB 13).1 3), .int ((CB 13).1 4), .int ((CB 13).1 5), .int ((CB 13).1 6), .int ((CB 13).1 7), .int ((CB 13).1 8)])) := by rw [hR]; rfl
  have hP : va_P D vwCl (wAo hC bC C ++ (wPo cy bC 14 sC ++ R)) s.heap := by rw [hR]; exact hP
  have hD : va_D A (wAo hC bC C ++ (wPo cy bC 14 sC ++ R)) := by rw [hR]; exact hD
  refine lv_aload_n hx hb dX0_forgetFirst_0 rfl (lv_at hl 0 rfl) ?_
  refine va_get (D := D) (ci := 0) (v := .ref bC) (C := RX0) (T := TX0) (N := 2) hx hb hts iX0_forgetFirst_X0 hown hK.1 hP 0 rfl rfl 0 (by decide) (hts (.fieldLink RX0 11 "DarkPlace$Acts" "before" "[LDarkPlace$Stand;") (List.mem_of_getElem? (i := 1) rfl)) (fun _ h9 => h9) rfl dX0_forgetFirst_1 ?_
  refine lv_iconst (v := 0) hx hb dX0_forgetFirst_4 (by decide) ?_
  refine dk_aald hx hb hK.1 hP 1 2 rfl rfl 0 rfl (by decide) dX0_forgetFirst_5 ?_
  refine lv_astore_n (lv' := [(1, .ref (sC 0)), (0, .ref hC)]) hx hb dX0_forgetFirst_6 rfl hl (by decide) rfl (fun ls hl => ?_)
  refine lv_iconst (v := 1) hx hb dX0_forgetFirst_7 (by decide) ?_
  refine lv_istore_n (lv' := [(2, .int 1), (1, .ref (sC 0)), (0, .ref hC)]) hx hb dX0_forgetFirst_8 rfl hl (by decide) rfl (fun ls hl => ?_)
  have hP : va_P D vwCl (wAo hC bC C ++ (wPo cy bC 14 (fg_s sC 1) ++ R)) s.heap := by
    have e : wPo cy bC 14 (fg_s sC 1) = wPo cy bC 14 sC := by unfold wPo; rw [← fg_first sC]
    rw [e]; exact hP
  have hD : va_D A (wAo hC bC C ++ (wPo cy bC 14 (fg_s sC 1) ++ R)) := by
    have e : wPo cy bC 14 (fg_s sC 1) = wPo cy bC 14 sC := by unfold wPo; rw [← fg_first sC]
    rw [e]; exact hD
  refine lv_iload_n hx hb dX0_forgetFirst_9 rfl (lv_at hl 0 rfl) ?_
  refine lv_bipush (v := 14) hx hb dX0_forgetFirst_10 (by decide) ?_
  refine lv_icmp_ge (tgt := 35) hx hb dX0_forgetFirst_12 (by decide) (fun q => absurd q (by decide)) (fun _ => ?_)
  refine lv_aload_n hx hb dX0_forgetFirst_15 rfl (lv_at hl 2 rfl) ?_
  refine va_get (D := D) (ci := 0) (v := .ref bC) (C := RX0) (T := TX0) (N := 2) hx hb hts iX0_forgetFirst_X0 hown hK.1 hP 0 rfl rfl 0 (by decide) (hts (.fieldLink RX0 11 "DarkPlace$Acts" "before" "[LDarkPlace$Stand;") (List.mem_of_getElem? (i := 1) rfl)) (fun _ h9 => h9) rfl dX0_forgetFirst_16 ?_
  refine lv_iload_n hx hb dX0_forgetFirst_19 rfl (lv_at hl 0 rfl) ?_
  refine lv_iconst (v := 1) hx hb dX0_forgetFirst_20 (by decide) ?_
  refine lv_isub hx hb dX0_forgetFirst_21 ?_
  refine lv_aload_n hx hb dX0_forgetFirst_22 rfl (lv_at hl 2 rfl) ?_
  refine va_get (D := D) (ci := 0) (v := .ref bC) (C := RX0) (T := TX0) (N := 2) hx hb hts iX0_forgetFirst_X0 hown hK.1 hP 0 rfl rfl 0 (by decide) (hts (.fieldLink RX0 11 "DarkPlace$Acts" "before" "[LDarkPlace$Stand;") (List.mem_of_getElem? (i := 1) rfl)) (fun _ h9 => h9) rfl dX0_forgetFirst_23 ?_
  refine lv_iload_n hx hb dX0_forgetFirst_26 rfl (lv_at hl 0 rfl) ?_
  refine dk_aald (f := fg_s sC 1) hx hb hK.1 hP 1 2 rfl rfl 1 rfl (by decide) dX0_forgetFirst_27 ?_
  refine W.eq (g2 := F0 m 28 ls [.ref (sC 1), .int 0, .ref bC]) (by simp only [fg_s]; rfl) ?_
  refine va_astq hx hb hK.1 hP hD hS 1 2 5 3 (r := (RX3, TX3, 9)) rfl rfl hv1 rfl (by rw [vp_in_iff]; decide) dX0_forgetFirst_28 (fun H locs hP hD hS => ?_)
  have hP : va_P D vwCl (wAo hC bC C ++ (wPo cy bC 14 (fg_s sC 2) ++ R)) H := by
    have e : wPo cy bC 14 (fg_s sC 2) = [(bC, .inl (cy 2, 14, .inr (.inr (.inr (.inr (va_up (fun j => some (fg_s sC 1 j)) 0 (some (sC 1))))))))] := by unfold wPo; rw [fg_step sC 0]
    rw [e]; exact hP
  have hD : va_D A (wAo hC bC C ++ (wPo cy bC 14 (fg_s sC 2) ++ R)) := by
    have e : wPo cy bC 14 (fg_s sC 2) = [(bC, .inl (cy 2, 14, .inr (.inr (.inr (.inr (va_up (fun j => some (fg_s sC 1 j)) 0 (some (sC 1))))))))] := by unfold wPo; rw [fg_step sC 0]
    rw [e]; exact hD
  refine lv_iinc (v := 2) (lv' := [(2, .int 2), (1, .ref (sC 0)), (0, .ref hC)]) hx hb dX0_forgetFirst_29 hl (k := 0) rfl (by decide) (by decide) rfl (fun ls hl => ?_)
  refine lv_goto (tgt := 9) hx hb dX0_forgetFirst_32 (by decide) ?_
  refine lv_iload_n hx hb dX0_forgetFirst_9 rfl (lv_at hl 0 rfl) ?_
  refine lv_bipush (v := 14) hx hb dX0_forgetFirst_10 (by decide) ?_
  refine lv_icmp_ge (tgt := 35) hx hb dX0_forgetFirst_12 (by decide) (fun q => absurd q (by decide)) (fun _ => ?_)
  refine lv_aload_n hx hb dX0_forgetFirst_15 rfl (lv_at hl 2 rfl) ?_
  refine va_get (D := D) (ci := 0) (v := .ref bC) (C := RX0) (T := TX0) (N := 2) hx hb hts iX0_forgetFirst_X0 hown hK.1 hP 0 rfl rfl 0 (by decide) (hts (.fieldLink RX0 11 "DarkPlace$Acts" "before" "[LDarkPlace$Stand;") (List.mem_of_getElem? (i := 1) rfl)) (fun _ h9 => h9) rfl dX0_forgetFirst_16 ?_
  refine lv_iload_n hx hb dX0_forgetFirst_19 rfl (lv_at hl 0 rfl) ?_
  refine lv_iconst (v := 1) hx hb dX0_forgetFirst_20 (by decide) ?_
  refine lv_isub hx hb dX0_forgetFirst_21 ?_
  refine lv_aload_n hx hb dX0_forgetFirst_22 rfl (lv_at hl 2 rfl) ?_
  refine va_get (D := D) (ci := 0) (v := .ref bC) (C := RX0) (T := TX0) (N := 2) hx hb hts iX0_forgetFirst_X0 hown hK.1 hP 0 rfl rfl 0 (by decide) (hts (.fieldLink RX0 11 "DarkPlace$Acts" "before" "[LDarkPlace$Stand;") (List.mem_of_getElem? (i := 1) rfl)) (fun _ h9 => h9) rfl dX0_forgetFirst_23 ?_
  refine lv_iload_n hx hb dX0_forgetFirst_26 rfl (lv_at hl 0 rfl) ?_
  refine dk_aald (f := fg_s sC 2) hx hb hK.1 hP 1 2 rfl rfl 2 rfl (by decide) dX0_forgetFirst_27 ?_
  refine W.eq (g2 := F0 m 28 ls [.ref (sC 2), .int 1, .ref bC]) (by simp only [fg_s]; rfl) ?_
  refine va_astq hx hb hK.1 hP hD hS 1 2 8 3 (r := (RX3, TX3, 9)) rfl rfl hv2 rfl (by rw [vp_in_iff]; decide) dX0_forgetFirst_28 (fun H locs hP hD hS => ?_)
  have hP : va_P D vwCl (wAo hC bC C ++ (wPo cy bC 14 (fg_s sC 3) ++ R)) H := by
    have e : wPo cy bC 14 (fg_s sC 3) = [(bC, .inl (cy 2, 14, .inr (.inr (.inr (.inr (va_up (fun j => some (fg_s sC 2 j)) 1 (some (sC 2))))))))] := by unfold wPo; rw [fg_step sC 1]
    rw [e]; exact hP
  have hD : va_D A (wAo hC bC C ++ (wPo cy bC 14 (fg_s sC 3) ++ R)) := by
    have e : wPo cy bC 14 (fg_s sC 3) = [(bC, .inl (cy 2, 14, .inr (.inr (.inr (.inr (va_up (fun j => some (fg_s sC 2 j)) 1 (some (sC 2))))))))] := by unfold wPo; rw [fg_step sC 1]
    rw [e]; exact hD
  refine lv_iinc (v := 3) (lv' := [(2, .int 3), (1, .ref (sC 0)), (0, .ref hC)]) hx hb dX0_forgetFirst_29 hl (k := 0) rfl (by decide) (by decide) rfl (fun ls hl => ?_)
  refine lv_goto (tgt := 9) hx hb dX0_forgetFirst_32 (by decide) ?_
  refine lv_iload_n hx hb dX0_forgetFirst_9 rfl (lv_at hl 0 rfl) ?_
  refine lv_bipush (v := 14) hx hb dX0_forgetFirst_10 (by decide) ?_
  refine lv_icmp_ge (tgt := 35) hx hb dX0_forgetFirst_12 (by decide) (fun q => absurd q (by decide)) (fun _ => ?_)
  refine lv_aload_n hx hb dX0_forgetFirst_15 rfl (lv_at hl 2 rfl) ?_
  refine va_get (D := D) (ci := 0) (v := .ref bC) (C := RX0) (T := TX0) (N := 2) hx hb hts iX0_forgetFirst_X0 hown hK.1 hP 0 rfl rfl 0 (by decide) (hts (.fieldLink RX0 11 "DarkPlace$Acts" "before" "[LDarkPlace$Stand;") (List.mem_of_getElem? (i := 1) rfl)) (fun _ h9 => h9) rfl dX0_forgetFirst_16 ?_
  refine lv_iload_n hx hb dX0_forgetFirst_19 rfl (lv_at hl 0 rfl) ?_
  refine lv_iconst (v := 1) hx hb dX0_forgetFirst_20 (by decide) ?_
  refine lv_isub hx hb dX0_forgetFirst_21 ?_
  refine lv_aload_n hx hb dX0_forgetFirst_22 rfl (lv_at hl 2 rfl) ?_
  refine va_get (D := D) (ci := 0) (v := .ref bC) (C := RX0) (T := TX0) (N := 2) hx hb hts iX0_forgetFirst_X0 hown hK.1 hP 0 rfl rfl 0 (by decide) (hts (.fieldLink RX0 11 "DarkPlace$Acts" "before" "[LDarkPlace$Stand;") (List.mem_of_getElem? (i := 1) rfl)) (fun _ h9 => h9) rfl dX0_forgetFirst_23 ?_
  refine lv_iload_n hx hb dX0_forgetFirst_26 rfl (lv_at hl 0 rfl) ?_
  refine dk_aald (f := fg_s sC 3) hx hb hK.1 hP 1 2 rfl rfl 3 rfl (by decide) dX0_forgetFirst_27 ?_
  refine W.eq (g2 := F0 m 28 ls [.ref (sC 3), .int 2, .ref bC]) (by simp only [fg_s]; rfl) ?_
  refine va_astq hx hb hK.1 hP hD hS 1 2 11 3 (r := (RX3, TX3, 9)) rfl rfl hv3 rfl (by rw [vp_in_iff]; decide) dX0_forgetFirst_28 (fun H locs hP hD hS => ?_)
  have hP : va_P D vwCl (wAo hC bC C ++ (wPo cy bC 14 (fg_s sC 4) ++ R)) H := by
    have e : wPo cy bC 14 (fg_s sC 4) = [(bC, .inl (cy 2, 14, .inr (.inr (.inr (.inr (va_up (fun j => some (fg_s sC 3 j)) 2 (some (sC 3))))))))] := by unfold wPo; rw [fg_step sC 2]
    rw [e]; exact hP
  have hD : va_D A (wAo hC bC C ++ (wPo cy bC 14 (fg_s sC 4) ++ R)) := by
    have e : wPo cy bC 14 (fg_s sC 4) = [(bC, .inl (cy 2, 14, .inr (.inr (.inr (.inr (va_up (fun j => some (fg_s sC 3 j)) 2 (some (sC 3))))))))] := by unfold wPo; rw [fg_step sC 2]
    rw [e]; exact hD
  refine lv_iinc (v := 4) (lv' := [(2, .int 4), (1, .ref (sC 0)), (0, .ref hC)]) hx hb dX0_forgetFirst_29 hl (k := 0) rfl (by decide) (by decide) rfl (fun ls hl => ?_)
  refine lv_goto (tgt := 9) hx hb dX0_forgetFirst_32 (by decide) ?_
  refine lv_iload_n hx hb dX0_forgetFirst_9 rfl (lv_at hl 0 rfl) ?_
  refine lv_bipush (v := 14) hx hb dX0_forgetFirst_10 (by decide) ?_
  refine lv_icmp_ge (tgt := 35) hx hb dX0_forgetFirst_12 (by decide) (fun q => absurd q (by decide)) (fun _ => ?_)
  refine lv_aload_n hx hb dX0_forgetFirst_15 rfl (lv_at hl 2 rfl) ?_
  refine va_get (D := D) (ci := 0) (v := .ref bC) (C := RX0) (T := TX0) (N := 2) hx hb hts iX0_forgetFirst_X0 hown hK.1 hP 0 rfl rfl 0 (by decide) (hts (.fieldLink RX0 11 "DarkPlace$Acts" "before" "[LDarkPlace$Stand;") (List.mem_of_getElem? (i := 1) rfl)) (fun _ h9 => h9) rfl dX0_forgetFirst_16 ?_
  refine lv_iload_n hx hb dX0_forgetFirst_19 rfl (lv_at hl 0 rfl) ?_
  refine lv_iconst (v := 1) hx hb dX0_forgetFirst_20 (by decide) ?_
  refine lv_isub hx hb dX0_forgetFirst_21 ?_
  refine lv_aload_n hx hb dX0_forgetFirst_22 rfl (lv_at hl 2 rfl) ?_
  refine va_get (D := D) (ci := 0) (v := .ref bC) (C := RX0) (T := TX0) (N := 2) hx hb hts iX0_forgetFirst_X0 hown hK.1 hP 0 rfl rfl 0 (by decide) (hts (.fieldLink RX0 11 "DarkPlace$Acts" "before" "[LDarkPlace$Stand;") (List.mem_of_getElem? (i := 1) rfl)) (fun _ h9 => h9) rfl dX0_forgetFirst_23 ?_
  refine lv_iload_n hx hb dX0_forgetFirst_26 rfl (lv_at hl 0 rfl) ?_
  refine dk_aald (f := fg_s sC 4) hx hb hK.1 hP 1 2 rfl rfl 4 rfl (by decide) dX0_forgetFirst_27 ?_
  refine W.eq (g2 := F0 m 28 ls [.ref (sC 4), .int 3, .ref bC]) (by simp only [fg_s]; rfl) ?_
  refine va_astq hx hb hK.1 hP hD hS 1 2 14 3 (r := (RX3, TX3, 9)) rfl rfl hv4 rfl (by rw [vp_in_iff]; decide) dX0_forgetFirst_28 (fun H locs hP hD hS => ?_)
  have hP : va_P D vwCl (wAo hC bC C ++ (wPo cy bC 14 (fg_s sC 5) ++ R)) H := by
    have e : wPo cy bC 14 (fg_s sC 5) = [(bC, .inl (cy 2, 14, .inr (.inr (.inr (.inr (va_up (fun j => some (fg_s sC 4 j)) 3 (some (sC 4))))))))] := by unfold wPo; rw [fg_step sC 3]
    rw [e]; exact hP
  have hD : va_D A (wAo hC bC C ++ (wPo cy bC 14 (fg_s sC 5) ++ R)) := by
    have e : wPo cy bC 14 (fg_s sC 5) = [(bC, .inl (cy 2, 14, .inr (.inr (.inr (.inr (va_up (fun j => some (fg_s sC 4 j)) 3 (some (sC 4))))))))] := by unfold wPo; rw [fg_step sC 3]
    rw [e]; exact hD
  refine lv_iinc (v := 5) (lv' := [(2, .int 5), (1, .ref (sC 0)), (0, .ref hC)]) hx hb dX0_forgetFirst_29 hl (k := 0) rfl (by decide) (by decide) rfl (fun ls hl => ?_)
  refine lv_goto (tgt := 9) hx hb dX0_forgetFirst_32 (by decide) ?_
  refine lv_iload_n hx hb dX0_forgetFirst_9 rfl (lv_at hl 0 rfl) ?_
  refine lv_bipush (v := 14) hx hb dX0_forgetFirst_10 (by decide) ?_
  refine lv_icmp_ge (tgt := 35) hx hb dX0_forgetFirst_12 (by decide) (fun q => absurd q (by decide)) (fun _ => ?_)
  refine lv_aload_n hx hb dX0_forgetFirst_15 rfl (lv_at hl 2 rfl) ?_
  refine va_get (D := D) (ci := 0) (v := .ref bC) (C := RX0) (T := TX0) (N := 2) hx hb hts iX0_forgetFirst_X0 hown hK.1 hP 0 rfl rfl 0 (by decide) (hts (.fieldLink RX0 11 "DarkPlace$Acts" "before" "[LDarkPlace$Stand;") (List.mem_of_getElem? (i := 1) rfl)) (fun _ h9 => h9) rfl dX0_forgetFirst_16 ?_
  refine lv_iload_n hx hb dX0_forgetFirst_19 rfl (lv_at hl 0 rfl) ?_
  refine lv_iconst (v := 1) hx hb dX0_forgetFirst_20 (by decide) ?_
  refine lv_isub hx hb dX0_forgetFirst_21 ?_
  refine lv_aload_n hx hb dX0_forgetFirst_22 rfl (lv_at hl 2 rfl) ?_
  refine va_get (D := D) (ci := 0) (v := .ref bC) (C := RX0) (T := TX0) (N := 2) hx hb hts iX0_forgetFirst_X0 hown hK.1 hP 0 rfl rfl 0 (by decide) (hts (.fieldLink RX0 11 "DarkPlace$Acts" "before" "[LDarkPlace$Stand;") (List.mem_of_getElem? (i := 1) rfl)) (fun _ h9 => h9) rfl dX0_forgetFirst_23 ?_
  refine lv_iload_n hx hb dX0_forgetFirst_26 rfl (lv_at hl 0 rfl) ?_
  refine dk_aald (f := fg_s sC 5) hx hb hK.1 hP 1 2 rfl rfl 5 rfl (by decide) dX0_forgetFirst_27 ?_
  refine W.eq (g2 := F0 m 28 ls [.ref (sC 5), .int 4, .ref bC]) (by simp only [fg_s]; rfl) ?_
  refine va_astq hx hb hK.1 hP hD hS 1 2 17 3 (r := (RX3, TX3, 9)) rfl rfl hv5 rfl (by rw [vp_in_iff]; decide) dX0_forgetFirst_28 (fun H locs hP hD hS => ?_)
  have hP : va_P D vwCl (wAo hC bC C ++ (wPo cy bC 14 (fg_s sC 6) ++ R)) H := by
    have e : wPo cy bC 14 (fg_s sC 6) = [(bC, .inl (cy 2, 14, .inr (.inr (.inr (.inr (va_up (fun j => some (fg_s sC 5 j)) 4 (some (sC 5))))))))] := by unfold wPo; rw [fg_step sC 4]
    rw [e]; exact hP
  have hD : va_D A (wAo hC bC C ++ (wPo cy bC 14 (fg_s sC 6) ++ R)) := by
    have e : wPo cy bC 14 (fg_s sC 6) = [(bC, .inl (cy 2, 14, .inr (.inr (.inr (.inr (va_up (fun j => some (fg_s sC 5 j)) 4 (some (sC 5))))))))] := by unfold wPo; rw [fg_step sC 4]
    rw [e]; exact hD
  refine lv_iinc (v := 6) (lv' := [(2, .int 6), (1, .ref (sC 0)), (0, .ref hC)]) hx hb dX0_forgetFirst_29 hl (k := 0) rfl (by decide) (by decide) rfl (fun ls hl => ?_)
  refine lv_goto (tgt := 9) hx hb dX0_forgetFirst_32 (by decide) ?_
  refine lv_iload_n hx hb dX0_forgetFirst_9 rfl (lv_at hl 0 rfl) ?_
  refine lv_bipush (v := 14) hx hb dX0_forgetFirst_10 (by decide) ?_
  refine lv_icmp_ge (tgt := 35) hx hb dX0_forgetFirst_12 (by decide) (fun q => absurd q (by decide)) (fun _ => ?_)
  refine lv_aload_n hx hb dX0_forgetFirst_15 rfl (lv_at hl 2 rfl) ?_
  refine va_get (D := D) (ci := 0) (v := .ref bC) (C := RX0) (T := TX0) (N := 2) hx hb hts iX0_forgetFirst_X0 hown hK.1 hP 0 rfl rfl 0 (by decide) (hts (.fieldLink RX0 11 "DarkPlace$Acts" "before" "[LDarkPlace$Stand;") (List.mem_of_getElem? (i := 1) rfl)) (fun _ h9 => h9) rfl dX0_forgetFirst_16 ?_
  refine lv_iload_n hx hb dX0_forgetFirst_19 rfl (lv_at hl 0 rfl) ?_
  refine lv_iconst (v := 1) hx hb dX0_forgetFirst_20 (by decide) ?_
  refine lv_isub hx hb dX0_forgetFirst_21 ?_
  refine lv_aload_n hx hb dX0_forgetFirst_22 rfl (lv_at hl 2 rfl) ?_
  refine va_get (D := D) (ci := 0) (v := .ref bC) (C := RX0) (T := TX0) (N := 2) hx hb hts iX0_forgetFirst_X0 hown hK.1 hP 0 rfl rfl 0 (by decide) (hts (.fieldLink RX0 11 "DarkPlace$Acts" "before" "[LDarkPlace$Stand;") (List.mem_of_getElem? (i := 1) rfl)) (fun _ h9 => h9) rfl dX0_forgetFirst_23 ?_
  refine lv_iload_n hx hb dX0_forgetFirst_26 rfl (lv_at hl 0 rfl) ?_
  refine dk_aald (f := fg_s sC 6) hx hb hK.1 hP 1 2 rfl rfl 6 rfl (by decide) dX0_forgetFirst_27 ?_
  refine W.eq (g2 := F0 m 28 ls [.ref (sC 6), .int 5, .ref bC]) (by simp only [fg_s]; rfl) ?_
  refine va_astq hx hb hK.1 hP hD hS 1 2 20 3 (r := (RX3, TX3, 9)) rfl rfl hv6 rfl (by rw [vp_in_iff]; decide) dX0_forgetFirst_28 (fun H locs hP hD hS => ?_)
  have hP : va_P D vwCl (wAo hC bC C ++ (wPo cy bC 14 (fg_s sC 7) ++ R)) H := by
    have e : wPo cy bC 14 (fg_s sC 7) = [(bC, .inl (cy 2, 14, .inr (.inr (.inr (.inr (va_up (fun j => some (fg_s sC 6 j)) 5 (some (sC 6))))))))] := by unfold wPo; rw [fg_step sC 5]
    rw [e]; exact hP
  have hD : va_D A (wAo hC bC C ++ (wPo cy bC 14 (fg_s sC 7) ++ R)) := by
    have e : wPo cy bC 14 (fg_s sC 7) = [(bC, .inl (cy 2, 14, .inr (.inr (.inr (.inr (va_up (fun j => some (fg_s sC 6 j)) 5 (some (sC 6))))))))] := by unfold wPo; rw [fg_step sC 5]
    rw [e]; exact hD
  refine lv_iinc (v := 7) (lv' := [(2, .int 7), (1, .ref (sC 0)), (0, .ref hC)]) hx hb dX0_forgetFirst_29 hl (k := 0) rfl (by decide) (by decide) rfl (fun ls hl => ?_)
  refine lv_goto (tgt := 9) hx hb dX0_forgetFirst_32 (by decide) ?_
  refine lv_iload_n hx hb dX0_forgetFirst_9 rfl (lv_at hl 0 rfl) ?_
  refine lv_bipush (v := 14) hx hb dX0_forgetFirst_10 (by decide) ?_
  refine lv_icmp_ge (tgt := 35) hx hb dX0_forgetFirst_12 (by decide) (fun q => absurd q (by decide)) (fun _ => ?_)
  refine lv_aload_n hx hb dX0_forgetFirst_15 rfl (lv_at hl 2 rfl) ?_
  refine va_get (D := D) (ci := 0) (v := .ref bC) (C := RX0) (T := TX0) (N := 2) hx hb hts iX0_forgetFirst_X0 hown hK.1 hP 0 rfl rfl 0 (by decide) (hts (.fieldLink RX0 11 "DarkPlace$Acts" "before" "[LDarkPlace$Stand;") (List.mem_of_getElem? (i := 1) rfl)) (fun _ h9 => h9) rfl dX0_forgetFirst_16 ?_
  refine lv_iload_n hx hb dX0_forgetFirst_19 rfl (lv_at hl 0 rfl) ?_
  refine lv_iconst (v := 1) hx hb dX0_forgetFirst_20 (by decide) ?_
  refine lv_isub hx hb dX0_forgetFirst_21 ?_
  refine lv_aload_n hx hb dX0_forgetFirst_22 rfl (lv_at hl 2 rfl) ?_
  refine va_get (D := D) (ci := 0) (v := .ref bC) (C := RX0) (T := TX0) (N := 2) hx hb hts iX0_forgetFirst_X0 hown hK.1 hP 0 rfl rfl 0 (by decide) (hts (.fieldLink RX0 11 "DarkPlace$Acts" "before" "[LDarkPlace$Stand;") (List.mem_of_getElem? (i := 1) rfl)) (fun _ h9 => h9) rfl dX0_forgetFirst_23 ?_
  refine lv_iload_n hx hb dX0_forgetFirst_26 rfl (lv_at hl 0 rfl) ?_
  refine dk_aald (f := fg_s sC 7) hx hb hK.1 hP 1 2 rfl rfl 7 rfl (by decide) dX0_forgetFirst_27 ?_
  refine W.eq (g2 := F0 m 28 ls [.ref (sC 7), .int 6, .ref bC]) (by simp only [fg_s]; rfl) ?_
  refine va_astq hx hb hK.1 hP hD hS 1 2 23 3 (r := (RX3, TX3, 9)) rfl rfl hv7 rfl (by rw [vp_in_iff]; decide) dX0_forgetFirst_28 (fun H locs hP hD hS => ?_)
  have hP : va_P D vwCl (wAo hC bC C ++ (wPo cy bC 14 (fg_s sC 8) ++ R)) H := by
    have e : wPo cy bC 14 (fg_s sC 8) = [(bC, .inl (cy 2, 14, .inr (.inr (.inr (.inr (va_up (fun j => some (fg_s sC 7 j)) 6 (some (sC 7))))))))] := by unfold wPo; rw [fg_step sC 6]
    rw [e]; exact hP
  have hD : va_D A (wAo hC bC C ++ (wPo cy bC 14 (fg_s sC 8) ++ R)) := by
    have e : wPo cy bC 14 (fg_s sC 8) = [(bC, .inl (cy 2, 14, .inr (.inr (.inr (.inr (va_up (fun j => some (fg_s sC 7 j)) 6 (some (sC 7))))))))] := by unfold wPo; rw [fg_step sC 6]
    rw [e]; exact hD
  refine lv_iinc (v := 8) (lv' := [(2, .int 8), (1, .ref (sC 0)), (0, .ref hC)]) hx hb dX0_forgetFirst_29 hl (k := 0) rfl (by decide) (by decide) rfl (fun ls hl => ?_)
  refine lv_goto (tgt := 9) hx hb dX0_forgetFirst_32 (by decide) ?_
  refine lv_iload_n hx hb dX0_forgetFirst_9 rfl (lv_at hl 0 rfl) ?_
  refine lv_bipush (v := 14) hx hb dX0_forgetFirst_10 (by decide) ?_
  refine lv_icmp_ge (tgt := 35) hx hb dX0_forgetFirst_12 (by decide) (fun q => absurd q (by decide)) (fun _ => ?_)
  refine lv_aload_n hx hb dX0_forgetFirst_15 rfl (lv_at hl 2 rfl) ?_
  refine va_get (D := D) (ci := 0) (v := .ref bC) (C := RX0) (T := TX0) (N := 2) hx hb hts iX0_forgetFirst_X0 hown hK.1 hP 0 rfl rfl 0 (by decide) (hts (.fieldLink RX0 11 "DarkPlace$Acts" "before" "[LDarkPlace$Stand;") (List.mem_of_getElem? (i := 1) rfl)) (fun _ h9 => h9) rfl dX0_forgetFirst_16 ?_
  refine lv_iload_n hx hb dX0_forgetFirst_19 rfl (lv_at hl 0 rfl) ?_
  refine lv_iconst (v := 1) hx hb dX0_forgetFirst_20 (by decide) ?_
  refine lv_isub hx hb dX0_forgetFirst_21 ?_
  refine lv_aload_n hx hb dX0_forgetFirst_22 rfl (lv_at hl 2 rfl) ?_
  refine va_get (D := D) (ci := 0) (v := .ref bC) (C := RX0) (T := TX0) (N := 2) hx hb hts iX0_forgetFirst_X0 hown hK.1 hP 0 rfl rfl 0 (by decide) (hts (.fieldLink RX0 11 "DarkPlace$Acts" "before" "[LDarkPlace$Stand;") (List.mem_of_getElem? (i := 1) rfl)) (fun _ h9 => h9) rfl dX0_forgetFirst_23 ?_
  refine lv_iload_n hx hb dX0_forgetFirst_26 rfl (lv_at hl 0 rfl) ?_
  refine dk_aald (f := fg_s sC 8) hx hb hK.1 hP 1 2 rfl rfl 8 rfl (by decide) dX0_forgetFirst_27 ?_
  refine W.eq (g2 := F0 m 28 ls [.ref (sC 8), .int 7, .ref bC]) (by simp only [fg_s]; rfl) ?_
  refine va_astq hx hb hK.1 hP hD hS 1 2 26 3 (r := (RX3, TX3, 9)) rfl rfl hv8 rfl (by rw [vp_in_iff]; decide) dX0_forgetFirst_28 (fun H locs hP hD hS => ?_)
  have hP : va_P D vwCl (wAo hC bC C ++ (wPo cy bC 14 (fg_s sC 9) ++ R)) H := by
    have e : wPo cy bC 14 (fg_s sC 9) = [(bC, .inl (cy 2, 14, .inr (.inr (.inr (.inr (va_up (fun j => some (fg_s sC 8 j)) 7 (some (sC 8))))))))] := by unfold wPo; rw [fg_step sC 7]
    rw [e]; exact hP
  have hD : va_D A (wAo hC bC C ++ (wPo cy bC 14 (fg_s sC 9) ++ R)) := by
    have e : wPo cy bC 14 (fg_s sC 9) = [(bC, .inl (cy 2, 14, .inr (.inr (.inr (.inr (va_up (fun j => some (fg_s sC 8 j)) 7 (some (sC 8))))))))] := by unfold wPo; rw [fg_step sC 7]
    rw [e]; exact hD
  refine lv_iinc (v := 9) (lv' := [(2, .int 9), (1, .ref (sC 0)), (0, .ref hC)]) hx hb dX0_forgetFirst_29 hl (k := 0) rfl (by decide) (by decide) rfl (fun ls hl => ?_)
  refine lv_goto (tgt := 9) hx hb dX0_forgetFirst_32 (by decide) ?_
  refine lv_iload_n hx hb dX0_forgetFirst_9 rfl (lv_at hl 0 rfl) ?_
  refine lv_bipush (v := 14) hx hb dX0_forgetFirst_10 (by decide) ?_
  refine lv_icmp_ge (tgt := 35) hx hb dX0_forgetFirst_12 (by decide) (fun q => absurd q (by decide)) (fun _ => ?_)
  refine lv_aload_n hx hb dX0_forgetFirst_15 rfl (lv_at hl 2 rfl) ?_
  refine va_get (D := D) (ci := 0) (v := .ref bC) (C := RX0) (T := TX0) (N := 2) hx hb hts iX0_forgetFirst_X0 hown hK.1 hP 0 rfl rfl 0 (by decide) (hts (.fieldLink RX0 11 "DarkPlace$Acts" "before" "[LDarkPlace$Stand;") (List.mem_of_getElem? (i := 1) rfl)) (fun _ h9 => h9) rfl dX0_forgetFirst_16 ?_
  refine lv_iload_n hx hb dX0_forgetFirst_19 rfl (lv_at hl 0 rfl) ?_
  refine lv_iconst (v := 1) hx hb dX0_forgetFirst_20 (by decide) ?_
  refine lv_isub hx hb dX0_forgetFirst_21 ?_
  refine lv_aload_n hx hb dX0_forgetFirst_22 rfl (lv_at hl 2 rfl) ?_
  refine va_get (D := D) (ci := 0) (v := .ref bC) (C := RX0) (T := TX0) (N := 2) hx hb hts iX0_forgetFirst_X0 hown hK.1 hP 0 rfl rfl 0 (by decide) (hts (.fieldLink RX0 11 "DarkPlace$Acts" "before" "[LDarkPlace$Stand;") (List.mem_of_getElem? (i := 1) rfl)) (fun _ h9 => h9) rfl dX0_forgetFirst_23 ?_
  refine lv_iload_n hx hb dX0_forgetFirst_26 rfl (lv_at hl 0 rfl) ?_
  refine dk_aald (f := fg_s sC 9) hx hb hK.1 hP 1 2 rfl rfl 9 rfl (by decide) dX0_forgetFirst_27 ?_
  refine W.eq (g2 := F0 m 28 ls [.ref (sC 9), .int 8, .ref bC]) (by simp only [fg_s]; rfl) ?_
  refine va_astq hx hb hK.1 hP hD hS 1 2 29 3 (r := (RX3, TX3, 9)) rfl rfl hv9 rfl (by rw [vp_in_iff]; decide) dX0_forgetFirst_28 (fun H locs hP hD hS => ?_)
  have hP : va_P D vwCl (wAo hC bC C ++ (wPo cy bC 14 (fg_s sC 10) ++ R)) H := by
    have e : wPo cy bC 14 (fg_s sC 10) = [(bC, .inl (cy 2, 14, .inr (.inr (.inr (.inr (va_up (fun j => some (fg_s sC 9 j)) 8 (some (sC 9))))))))] := by unfold wPo; rw [fg_step sC 8]
    rw [e]; exact hP
  have hD : va_D A (wAo hC bC C ++ (wPo cy bC 14 (fg_s sC 10) ++ R)) := by
    have e : wPo cy bC 14 (fg_s sC 10) = [(bC, .inl (cy 2, 14, .inr (.inr (.inr (.inr (va_up (fun j => some (fg_s sC 9 j)) 8 (some (sC 9))))))))] := by unfold wPo; rw [fg_step sC 8]
    rw [e]; exact hD
  refine lv_iinc (v := 10) (lv' := [(2, .int 10), (1, .ref (sC 0)), (0, .ref hC)]) hx hb dX0_forgetFirst_29 hl (k := 0) rfl (by decide) (by decide) rfl (fun ls hl => ?_)
  refine lv_goto (tgt := 9) hx hb dX0_forgetFirst_32 (by decide) ?_
  refine lv_iload_n hx hb dX0_forgetFirst_9 rfl (lv_at hl 0 rfl) ?_
  refine lv_bipush (v := 14) hx hb dX0_forgetFirst_10 (by decide) ?_
  refine lv_icmp_ge (tgt := 35) hx hb dX0_forgetFirst_12 (by decide) (fun q => absurd q (by decide)) (fun _ => ?_)
  refine lv_aload_n hx hb dX0_forgetFirst_15 rfl (lv_at hl 2 rfl) ?_
  refine va_get (D := D) (ci := 0) (v := .ref bC) (C := RX0) (T := TX0) (N := 2) hx hb hts iX0_forgetFirst_X0 hown hK.1 hP 0 rfl rfl 0 (by decide) (hts (.fieldLink RX0 11 "DarkPlace$Acts" "before" "[LDarkPlace$Stand;") (List.mem_of_getElem? (i := 1) rfl)) (fun _ h9 => h9) rfl dX0_forgetFirst_16 ?_
  refine lv_iload_n hx hb dX0_forgetFirst_19 rfl (lv_at hl 0 rfl) ?_
  refine lv_iconst (v := 1) hx hb dX0_forgetFirst_20 (by decide) ?_
  refine lv_isub hx hb dX0_forgetFirst_21 ?_
  refine lv_aload_n hx hb dX0_forgetFirst_22 rfl (lv_at hl 2 rfl) ?_
  refine va_get (D := D) (ci := 0) (v := .ref bC) (C := RX0) (T := TX0) (N := 2) hx hb hts iX0_forgetFirst_X0 hown hK.1 hP 0 rfl rfl 0 (by decide) (hts (.fieldLink RX0 11 "DarkPlace$Acts" "before" "[LDarkPlace$Stand;") (List.mem_of_getElem? (i := 1) rfl)) (fun _ h9 => h9) rfl dX0_forgetFirst_23 ?_
  refine lv_iload_n hx hb dX0_forgetFirst_26 rfl (lv_at hl 0 rfl) ?_
  refine dk_aald (f := fg_s sC 10) hx hb hK.1 hP 1 2 rfl rfl 10 rfl (by decide) dX0_forgetFirst_27 ?_
  refine W.eq (g2 := F0 m 28 ls [.ref (sC 10), .int 9, .ref bC]) (by simp only [fg_s]; rfl) ?_
  refine va_astq hx hb hK.1 hP hD hS 1 2 32 3 (r := (RX3, TX3, 9)) rfl rfl hv10 rfl (by rw [vp_in_iff]; decide) dX0_forgetFirst_28 (fun H locs hP hD hS => ?_)
  have hP : va_P D vwCl (wAo hC bC C ++ (wPo cy bC 14 (fg_s sC 11) ++ R)) H := by
    have e : wPo cy bC 14 (fg_s sC 11) = [(bC, .inl (cy 2, 14, .inr (.inr (.inr (.inr (va_up (fun j => some (fg_s sC 10 j)) 9 (some (sC 10))))))))] := by unfold wPo; rw [fg_step sC 9]
    rw [e]; exact hP
  have hD : va_D A (wAo hC bC C ++ (wPo cy bC 14 (fg_s sC 11) ++ R)) := by
    have e : wPo cy bC 14 (fg_s sC 11) = [(bC, .inl (cy 2, 14, .inr (.inr (.inr (.inr (va_up (fun j => some (fg_s sC 10 j)) 9 (some (sC 10))))))))] := by unfold wPo; rw [fg_step sC 9]
    rw [e]; exact hD
  refine lv_iinc (v := 11) (lv' := [(2, .int 11), (1, .ref (sC 0)), (0, .ref hC)]) hx hb dX0_forgetFirst_29 hl (k := 0) rfl (by decide) (by decide) rfl (fun ls hl => ?_)
  refine lv_goto (tgt := 9) hx hb dX0_forgetFirst_32 (by decide) ?_
  refine lv_iload_n hx hb dX0_forgetFirst_9 rfl (lv_at hl 0 rfl) ?_
  refine lv_bipush (v := 14) hx hb dX0_forgetFirst_10 (by decide) ?_
  refine lv_icmp_ge (tgt := 35) hx hb dX0_forgetFirst_12 (by decide) (fun q => absurd q (by decide)) (fun _ => ?_)
  refine lv_aload_n hx hb dX0_forgetFirst_15 rfl (lv_at hl 2 rfl) ?_
  refine va_get (D := D) (ci := 0) (v := .ref bC) (C := RX0) (T := TX0) (N := 2) hx hb hts iX0_forgetFirst_X0 hown hK.1 hP 0 rfl rfl 0 (by decide) (hts (.fieldLink RX0 11 "DarkPlace$Acts" "before" "[LDarkPlace$Stand;") (List.mem_of_getElem? (i := 1) rfl)) (fun _ h9 => h9) rfl dX0_forgetFirst_16 ?_
  refine lv_iload_n hx hb dX0_forgetFirst_19 rfl (lv_at hl 0 rfl) ?_
  refine lv_iconst (v := 1) hx hb dX0_forgetFirst_20 (by decide) ?_
  refine lv_isub hx hb dX0_forgetFirst_21 ?_
  refine lv_aload_n hx hb dX0_forgetFirst_22 rfl (lv_at hl 2 rfl) ?_
  refine va_get (D := D) (ci := 0) (v := .ref bC) (C := RX0) (T := TX0) (N := 2) hx hb hts iX0_forgetFirst_X0 hown hK.1 hP 0 rfl rfl 0 (by decide) (hts (.fieldLink RX0 11 "DarkPlace$Acts" "before" "[LDarkPlace$Stand;") (List.mem_of_getElem? (i := 1) rfl)) (fun _ h9 => h9) rfl dX0_forgetFirst_23 ?_
  refine lv_iload_n hx hb dX0_forgetFirst_26 rfl (lv_at hl 0 rfl) ?_
  refine dk_aald (f := fg_s sC 11) hx hb hK.1 hP 1 2 rfl rfl 11 rfl (by decide) dX0_forgetFirst_27 ?_
  refine W.eq (g2 := F0 m 28 ls [.ref (sC 11), .int 10, .ref bC]) (by simp only [fg_s]; rfl) ?_
  refine va_astq hx hb hK.1 hP hD hS 1 2 35 3 (r := (RX3, TX3, 9)) rfl rfl hv11 rfl (by rw [vp_in_iff]; decide) dX0_forgetFirst_28 (fun H locs hP hD hS => ?_)
  have hP : va_P D vwCl (wAo hC bC C ++ (wPo cy bC 14 (fg_s sC 12) ++ R)) H := by
    have e : wPo cy bC 14 (fg_s sC 12) = [(bC, .inl (cy 2, 14, .inr (.inr (.inr (.inr (va_up (fun j => some (fg_s sC 11 j)) 10 (some (sC 11))))))))] := by unfold wPo; rw [fg_step sC 10]
    rw [e]; exact hP
  have hD : va_D A (wAo hC bC C ++ (wPo cy bC 14 (fg_s sC 12) ++ R)) := by
    have e : wPo cy bC 14 (fg_s sC 12) = [(bC, .inl (cy 2, 14, .inr (.inr (.inr (.inr (va_up (fun j => some (fg_s sC 11 j)) 10 (some (sC 11))))))))] := by unfold wPo; rw [fg_step sC 10]
    rw [e]; exact hD
  refine lv_iinc (v := 12) (lv' := [(2, .int 12), (1, .ref (sC 0)), (0, .ref hC)]) hx hb dX0_forgetFirst_29 hl (k := 0) rfl (by decide) (by decide) rfl (fun ls hl => ?_)
  refine lv_goto (tgt := 9) hx hb dX0_forgetFirst_32 (by decide) ?_
  refine lv_iload_n hx hb dX0_forgetFirst_9 rfl (lv_at hl 0 rfl) ?_
  refine lv_bipush (v := 14) hx hb dX0_forgetFirst_10 (by decide) ?_
  refine lv_icmp_ge (tgt := 35) hx hb dX0_forgetFirst_12 (by decide) (fun q => absurd q (by decide)) (fun _ => ?_)
  refine lv_aload_n hx hb dX0_forgetFirst_15 rfl (lv_at hl 2 rfl) ?_
  refine va_get (D := D) (ci := 0) (v := .ref bC) (C := RX0) (T := TX0) (N := 2) hx hb hts iX0_forgetFirst_X0 hown hK.1 hP 0 rfl rfl 0 (by decide) (hts (.fieldLink RX0 11 "DarkPlace$Acts" "before" "[LDarkPlace$Stand;") (List.mem_of_getElem? (i := 1) rfl)) (fun _ h9 => h9) rfl dX0_forgetFirst_16 ?_
  refine lv_iload_n hx hb dX0_forgetFirst_19 rfl (lv_at hl 0 rfl) ?_
  refine lv_iconst (v := 1) hx hb dX0_forgetFirst_20 (by decide) ?_
  refine lv_isub hx hb dX0_forgetFirst_21 ?_
  refine lv_aload_n hx hb dX0_forgetFirst_22 rfl (lv_at hl 2 rfl) ?_
  refine va_get (D := D) (ci := 0) (v := .ref bC) (C := RX0) (T := TX0) (N := 2) hx hb hts iX0_forgetFirst_X0 hown hK.1 hP 0 rfl rfl 0 (by decide) (hts (.fieldLink RX0 11 "DarkPlace$Acts" "before" "[LDarkPlace$Stand;") (List.mem_of_getElem? (i := 1) rfl)) (fun _ h9 => h9) rfl dX0_forgetFirst_23 ?_
  refine lv_iload_n hx hb dX0_forgetFirst_26 rfl (lv_at hl 0 rfl) ?_
  refine dk_aald (f := fg_s sC 12) hx hb hK.1 hP 1 2 rfl rfl 12 rfl (by decide) dX0_forgetFirst_27 ?_
  refine W.eq (g2 := F0 m 28 ls [.ref (sC 12), .int 11, .ref bC]) (by simp only [fg_s]; rfl) ?_
  refine va_astq hx hb hK.1 hP hD hS 1 2 38 3 (r := (RX3, TX3, 9)) rfl rfl hv12 rfl (by rw [vp_in_iff]; decide) dX0_forgetFirst_28 (fun H locs hP hD hS => ?_)
  have hP : va_P D vwCl (wAo hC bC C ++ (wPo cy bC 14 (fg_s sC 13) ++ R)) H := by
    have e : wPo cy bC 14 (fg_s sC 13) = [(bC, .inl (cy 2, 14, .inr (.inr (.inr (.inr (va_up (fun j => some (fg_s sC 12 j)) 11 (some (sC 12))))))))] := by unfold wPo; rw [fg_step sC 11]
    rw [e]; exact hP
  have hD : va_D A (wAo hC bC C ++ (wPo cy bC 14 (fg_s sC 13) ++ R)) := by
    have e : wPo cy bC 14 (fg_s sC 13) = [(bC, .inl (cy 2, 14, .inr (.inr (.inr (.inr (va_up (fun j => some (fg_s sC 12 j)) 11 (some (sC 12))))))))] := by unfold wPo; rw [fg_step sC 11]
    rw [e]; exact hD
  refine lv_iinc (v := 13) (lv' := [(2, .int 13), (1, .ref (sC 0)), (0, .ref hC)]) hx hb dX0_forgetFirst_29 hl (k := 0) rfl (by decide) (by decide) rfl (fun ls hl => ?_)
  refine lv_goto (tgt := 9) hx hb dX0_forgetFirst_32 (by decide) ?_
  refine lv_iload_n hx hb dX0_forgetFirst_9 rfl (lv_at hl 0 rfl) ?_
  refine lv_bipush (v := 14) hx hb dX0_forgetFirst_10 (by decide) ?_
  refine lv_icmp_ge (tgt := 35) hx hb dX0_forgetFirst_12 (by decide) (fun q => absurd q (by decide)) (fun _ => ?_)
  refine lv_aload_n hx hb dX0_forgetFirst_15 rfl (lv_at hl 2 rfl) ?_
  refine va_get (D := D) (ci := 0) (v := .ref bC) (C := RX0) (T := TX0) (N := 2) hx hb hts iX0_forgetFirst_X0 hown hK.1 hP 0 rfl rfl 0 (by decide) (hts (.fieldLink RX0 11 "DarkPlace$Acts" "before" "[LDarkPlace$Stand;") (List.mem_of_getElem? (i := 1) rfl)) (fun _ h9 => h9) rfl dX0_forgetFirst_16 ?_
  refine lv_iload_n hx hb dX0_forgetFirst_19 rfl (lv_at hl 0 rfl) ?_
  refine lv_iconst (v := 1) hx hb dX0_forgetFirst_20 (by decide) ?_
  refine lv_isub hx hb dX0_forgetFirst_21 ?_
  refine lv_aload_n hx hb dX0_forgetFirst_22 rfl (lv_at hl 2 rfl) ?_
  refine va_get (D := D) (ci := 0) (v := .ref bC) (C := RX0) (T := TX0) (N := 2) hx hb hts iX0_forgetFirst_X0 hown hK.1 hP 0 rfl rfl 0 (by decide) (hts (.fieldLink RX0 11 "DarkPlace$Acts" "before" "[LDarkPlace$Stand;") (List.mem_of_getElem? (i := 1) rfl)) (fun _ h9 => h9) rfl dX0_forgetFirst_23 ?_
  refine lv_iload_n hx hb dX0_forgetFirst_26 rfl (lv_at hl 0 rfl) ?_
  refine dk_aald (f := fg_s sC 13) hx hb hK.1 hP 1 2 rfl rfl 13 rfl (by decide) dX0_forgetFirst_27 ?_
  refine W.eq (g2 := F0 m 28 ls [.ref (sC 13), .int 12, .ref bC]) (by simp only [fg_s]; rfl) ?_
  refine va_astq hx hb hK.1 hP hD hS 1 2 41 3 (r := (RX3, TX3, 9)) rfl rfl hv13 rfl (by rw [vp_in_iff]; decide) dX0_forgetFirst_28 (fun H locs hP hD hS => ?_)
  have hP : va_P D vwCl (wAo hC bC C ++ (wPo cy bC 14 (fg_s sC 14) ++ R)) H := by
    have e : wPo cy bC 14 (fg_s sC 14) = [(bC, .inl (cy 2, 14, .inr (.inr (.inr (.inr (va_up (fun j => some (fg_s sC 13 j)) 12 (some (sC 13))))))))] := by unfold wPo; rw [fg_step sC 12]
    rw [e]; exact hP
  have hD : va_D A (wAo hC bC C ++ (wPo cy bC 14 (fg_s sC 14) ++ R)) := by
    have e : wPo cy bC 14 (fg_s sC 14) = [(bC, .inl (cy 2, 14, .inr (.inr (.inr (.inr (va_up (fun j => some (fg_s sC 13 j)) 12 (some (sC 13))))))))] := by unfold wPo; rw [fg_step sC 12]
    rw [e]; exact hD
  refine lv_iinc (v := 14) (lv' := [(2, .int 14), (1, .ref (sC 0)), (0, .ref hC)]) hx hb dX0_forgetFirst_29 hl (k := 0) rfl (by decide) (by decide) rfl (fun ls hl => ?_)
  refine lv_goto (tgt := 9) hx hb dX0_forgetFirst_32 (by decide) ?_
  refine lv_iload_n hx hb dX0_forgetFirst_9 rfl (lv_at hl 0 rfl) ?_
  refine lv_bipush (v := 14) hx hb dX0_forgetFirst_10 (by decide) ?_
  refine lv_icmp_ge (tgt := 35) hx hb dX0_forgetFirst_12 (by decide) (fun _ => ?_) (fun q => absurd (by decide) q)
  refine lv_aload_n hx hb dX0_forgetFirst_35 rfl (lv_at hl 2 rfl) ?_
  refine va_get (D := D) (ci := 0) (v := .ref bC) (C := RX0) (T := TX0) (N := 2) hx hb hts iX0_forgetFirst_X0 hown hK.1 hP 0 rfl rfl 0 (by decide) (hts (.fieldLink RX0 11 "DarkPlace$Acts" "before" "[LDarkPlace$Stand;") (List.mem_of_getElem? (i := 1) rfl)) (fun _ h9 => h9) rfl dX0_forgetFirst_36 ?_
  refine lv_bipush (v := 13) hx hb dX0_forgetFirst_39 (by decide) ?_
  refine lv_aload_n hx hb dX0_forgetFirst_41 rfl (lv_at hl 1 rfl) ?_
  refine va_astq hx hb hK.1 hP hD hS 1 2 2 3 (r := (RX3, TX3, 9)) rfl rfl hv0 rfl (by rw [vp_in_iff]; decide) dX0_forgetFirst_42 (fun H locs hP hD hS => ?_)
  have hP : va_P D vwCl (wAo hC bC C ++ (wPo cy bC 14 (fg_r sC) ++ R)) H := by
    have e : wPo cy bC 14 (fg_r sC) = [(bC, .inl (cy 2, 14, .inr (.inr (.inr (.inr (va_up (fun j => some (fg_s sC 14 j)) 13 (some (sC 0))))))))] := by unfold wPo; rw [fg_last sC]
    rw [e]; exact hP
  have hD : va_D A (wAo hC bC C ++ (wPo cy bC 14 (fg_r sC) ++ R)) := by
    have e : wPo cy bC 14 (fg_r sC) = [(bC, .inl (cy 2, 14, .inr (.inr (.inr (.inr (va_up (fun j => some (fg_s sC 14 j)) 13 (some (sC 0))))))))] := by unfold wPo; rw [fg_last sC]
    rw [e]; exact hD
  refine lv_aload_n hx hb dX0_forgetFirst_43 rfl (lv_at hl 2 rfl) ?_
  refine lv_bipush (v := 13) hx hb dX0_forgetFirst_44 (by decide) ?_
  refine va_put (D := D) (ci := 0) (v := .int 13) (ty := .int) (C := RX0) (T := TX0) (N := 2) hx hb hts iX0_forgetFirst_X0 tyX0 tyX0_ok nmX0 hown hK.1 hP hD hS 0 rfl rfl 1 (by decide) (hts (.fieldLink RX0 17 "DarkPlace$Acts" "size" "I") (List.mem_of_getElem? (i := 2) rfl)) (fun _ h9 => h9) rfl (by decide +kernel) rfl rfl (Nat.le_of_ble_eq_true rfl) dX0_forgetFirst_46 (fun H locs hP hD hS => ?_)
  have hP : va_P D vwCl (wAo hC bC (upd C.1 1 13, C.2) ++ (wPo cy bC 14 (fg_r sC) ++ R)) H := hP
  have hD : va_D A (wAo hC bC (upd C.1 1 13, C.2) ++ (wPo cy bC 14 (fg_r sC) ++ R)) := hD
  subst hR
  unfold fX0_forgetFirst at hf
  have e := Option.some.inj hf
  simp only [Prod.mk.injEq] at e
  obtain ⟨e0, e1⟩ := e
  subst e0
  subst e1
  have hP : va_P D vwCl (wAo hC bC (upd C.1 1 13, C.2) ++ wPo cy bC 14 (fg_r sC) ++ wPl cy (fg_r sC) (fg_r aC) gC (fun k => if k = 13 then CB 0 else CB (k + 1))) H := hP.sub [0, 1, 5, 6, 7, 8, 9, 10, 11, 12, 13, 14, 15, 16, 17, 18, 19, 20, 21, 22, 23, 24, 25, 26, 27, 28, 29, 30, 31, 32, 33, 34, 35, 36, 37, 38, 39, 40, 41, 42, 43, 2, 3, 4] rfl
  have hD : va_D A (wAo hC bC (upd C.1 1 13, C.2) ++ wPo cy bC 14 (fg_r sC) ++ wPl cy (fg_r sC) (fg_r aC) gC (fun k => if k = 13 then CB 0 else CB (k + 1))) := hD.sub [0, 1, 5, 6, 7, 8, 9, 10, 11, 12, 13, 14, 15, 16, 17, 18, 19, 20, 21, 22, 23, 24, 25, 26, 27, 28, 29, 30, 31, 32, 33, 34, 35, 36, 37, 38, 39, 40, 41, 42, 43, 2, 3, 4] (by decide) rfl
  exact W.vret hx hb hr (fun t ht hW => ⟨⟨(fg_r sC, fg_r aC), rfl, trivial, by rw [ht]; exact hP, hD⟩, hS.F ht⟩) hS.2.2 dX0_forgetFirst_49
