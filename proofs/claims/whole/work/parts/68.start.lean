-- the law's start; printed by wip/gen/start.py
set_option maxHeartbeats 4000000 in
set_option maxRecDepth 100000 in
theorem whole_start {p : Program} {e : Env} {s : State} {m : MethodId} {below : List Frame} {meth : Method} {c : Code} (l : Launch) (hflags : l.flags = flags0) {b L : Nat} {xs : Nat → Int32} (hL : L ≤ 2048) (C0 : lw_At p s m meth c b L xs) : W p l e room_1 s m #[Value.ref b] below meth c s.heap [] 0 0 (lw_Z below #[Value.ref b] s) (entryFrame m ([Value.ref b] : List Value).toArray 4) := by
  obtain ⟨hx, hb, hr, hml, hown, hts, hX, hbl, hlocks, hgv⟩ := C0
  have hb : c.code = cL_law := hb
  have hown : s.vm.findClass RL = some m.cls := hown
  have htl := lw_hts hts
  obtain ⟨D, cy, hK, hAO⟩ := ls_K hts
  obtain ⟨tF, tT, hTb⟩ := ls_Tb hts hgv
  obtain ⟨TI, T1, T2, w0, hf5, hf6, hR⟩ := ls_first
  have hA : ∀ q : Nat, s.heap.size ≤ q → ls_A s q := fun q h => h
  have hS : va_S (ls_A s) s.heap s.heap [] := va_S.rf
  have hP : va_P D vwCl ([] : va_W) s.heap := fun k q hk => by cases hk
  have hD : va_D (ls_A s) ([] : va_W) := ⟨fun i j p q hk => (by cases hk), fun k q hk => (by cases hk)⟩
  have hl := lv_entry ([.ref b]) (n := 4) (Nat.le_of_ble_eq_true rfl)
  rw [lg_entry_eq]
  generalize (lg_sl ([.ref b]) ++ List.replicate (4 - (lg_sl ([.ref b])).length) Slot.unset).toArray = ls at hl ⊢
  have hl : lv_has ls 4 [(0, .ref b)] := hl
  refine va_new (ci := 5) (fs := [.null, .null, .null, .null, .null, .null, .null, .null, .null, .long 0]) (C := RX5) (T := TX5) (N := 10) hx hb hts wsX50_in tyX5 tyX5_ok hown (hts (Cond.classLink RL 7 RX5) (lw_law_in _ (List.mem_of_getElem? (i := 0) rfl))) (hts (Cond.instantiable RX5 10) (lw_law_in _ (List.mem_of_getElem? (i := 1) rfl))) (hts (Cond.initialized RX5) (lw_law_in _ (List.mem_of_getElem? (i := 2) rfl))) hK.1 hP hD hS hA rfl (fun j hj => by rcases (show j = 0 ∨ j = 1 ∨ j = 2 ∨ j = 3 ∨ j = 4 ∨ j = 5 ∨ j = 6 ∨ j = 7 ∨ j = 8 ∨ j = 9 by omega) with rfl | rfl | rfl | rfl | rfl | rfl | rfl | rfl | rfl | rfl <;> rfl) (Nat.le_of_ble_eq_true rfl) (Nat.le_of_ble_eq_true rfl) dL_law_0 (fun q0 H hP hD hS => ?_)
  have hP : va_P D vwCl ([(q0, .inr (5, [.null, .null, .null, .null, .null, .null, .null, .null, .null, .long 0]))]) H := hP
  have hD : va_D (ls_A s) ([(q0, .inr (5, [.null, .null, .null, .null, .null, .null, .null, .null, .null, .long 0]))]) := hD
  refine W.widen (k := 1) (n := 10) (Nat.le_of_ble_eq_true rfl) (Nat.le_of_ble_eq_true rfl) ?_
  refine lv_dup hx hb dL_law_3 rfl ?_
  have hFc := ls_F hD hS (w := []) hA
  refine va_callv (va_runI (As := []) (rest := [.ref q0]) ⟨hx, hb, hml, hown, htl⟩ (kX5_init l D cy q0 H.size TI T1 T2 hf5) (cwI 0 htl gL_law_X5_init rfl rfl rfl (hts (Cond.initialized RX5) (lw_law_in _ (List.mem_of_getElem? (i := 2) rfl))) (hts (Cond.methodLink RL 9 yX5_init) (lw_law_in _ (List.mem_of_getElem? (i := 7) rfl))) (hts (Cond.instanceMethod yX5_init) (lw_law_in _ (List.mem_of_getElem? (i := 8) rfl))) rfl (by decide +kernel) ⟨(Nat.le_of_ble_eq_true rfl), (Nat.le_of_ble_eq_true rfl)⟩) (dk_premSO hK hAO hP hD) rfl rfl hl.1 rfl (lv_room (Nat.le_of_ble_eq_true rfl)) dL_law_4 ⟨(Nat.le_of_ble_eq_true rfl), (Nat.le_of_ble_eq_true rfl)⟩) hS (fun q _ h => hFc q h) hFc (fun u t H1 locs ht hvm hw hB hz1 hk1 hS => ?_)
  obtain ⟨hP1, hD1⟩ := hB
  rw [ht] at hP1
  have hP : va_P D vwCl (ls_W cy q0 u (0, (dk_Z, dk_Z, dk_G0, dk_G0), ((TI, dk_upA (dk_upA dk_Z.2 1 T1) 2 T2), (TI, dk_upA (dk_upA dk_Z.2 1 T1) 2 T2), dk_Z, dk_Z), (fun _ => (TI, dk_upA (dk_upA dk_Z.2 1 T1) 2 T2)), (fun _ => (TI, dk_upA (dk_upA dk_Z.2 1 T1) 2 T2)))) H1 := hP1
  have hD : va_D (ls_A s) (ls_W cy q0 u (0, (dk_Z, dk_Z, dk_G0, dk_G0), ((TI, dk_upA (dk_upA dk_Z.2 1 T1) 2 T2), (TI, dk_upA (dk_upA dk_Z.2 1 T1) 2 T2), dk_Z, dk_Z), (fun _ => (TI, dk_upA (dk_upA dk_Z.2 1 T1) 2 T2)), (fun _ => (TI, dk_upA (dk_upA dk_Z.2 1 T1) 2 T2)))) := hD1.weaken (fun k q _ h => hFc q.1 h)
  generalize ((0, (dk_Z, dk_Z, dk_G0, dk_G0), ((TI, dk_upA (dk_upA dk_Z.2 1 T1) 2 T2), (TI, dk_upA (dk_upA dk_Z.2 1 T1) 2 T2), dk_Z, dk_Z), (fun _ => (TI, dk_upA (dk_upA dk_Z.2 1 T1) 2 T2)), (fun _ => (TI, dk_upA (dk_upA dk_Z.2 1 T1) 2 T2))) : ls_Z) = Z at hP hD hR
  clear hP1 hD1 hk1 hz1 ht hw hvm
  refine W.widen (k := 101) (n := 510) (Nat.le_of_ble_eq_true rfl) (Nat.le_of_ble_eq_true rfl) ?_
  refine lv_astore_n hx hb dL_law_7 rfl hl (by decide) rfl (fun ls hl => ?_)
  refine va_new (ci := 6) (fs := [.int 0, .null, .int 0, .int 0, .int 0, .int 0, .int 0, .null, .null, .int 0, .int 0, .int 0, .int 0, .int 0, .null, .null, .null, .null, .null, .int 0, .null, .null, .int 0, .null, .null, .long 0, .null, .int 0]) (C := RX6) (T := TX6) (N := 28) hx hb hts wsX60_in tyX6 tyX6_ok hown (hts (Cond.classLink RL 10 RX6) (lw_law_in _ (List.mem_of_getElem? (i := 3) rfl))) (hts (Cond.instantiable RX6 28) (lw_law_in _ (List.mem_of_getElem? (i := 4) rfl))) (hts (Cond.initialized RX6) (lw_law_in _ (List.mem_of_getElem? (i := 5) rfl))) hK.1 hP hD hS hA rfl (fun j hj => by rcases (show j = 0 ∨ j = 1 ∨ j = 2 ∨ j = 3 ∨ j = 4 ∨ j = 5 ∨ j = 6 ∨ j = 7 ∨ j = 8 ∨ j = 9 ∨ j = 10 ∨ j = 11 ∨ j = 12 ∨ j = 13 ∨ j = 14 ∨ j = 15 ∨ j = 16 ∨ j = 17 ∨ j = 18 ∨ j = 19 ∨ j = 20 ∨ j = 21 ∨ j = 22 ∨ j = 23 ∨ j = 24 ∨ j = 25 ∨ j = 26 ∨ j = 27 by omega) with rfl | rfl | rfl | rfl | rfl | rfl | rfl | rfl | rfl | rfl | rfl | rfl | rfl | rfl | rfl | rfl | rfl | rfl | rfl | rfl | rfl | rfl | rfl | rfl | rfl | rfl | rfl | rfl <;> rfl) (Nat.le_of_ble_eq_true rfl) (Nat.le_of_ble_eq_true rfl) dL_law_8 (fun q8 H hP hD hS => ?_)
  refine W.widen (k := 102) (n := 538) (Nat.le_of_ble_eq_true rfl) (Nat.le_of_ble_eq_true rfl) ?_
  refine lv_dup hx hb dL_law_11 rfl ?_
  have hP := dk_swap2P hP
  have hD := dk_swap2D hD
  have hPc := dk_leftP hP
  have hDc := dk_leftD hD
  have hFc := ls_F hDc hS (w := []) hA
  refine va_callv (va_runI (As := []) (rest := [.ref q8]) ⟨hx, hb, hml, hown, htl⟩ (kX6_init l D cy q8 H.size w0 hf6) (cwI 0 htl gL_law_X6_init rfl rfl rfl (hts (Cond.initialized RX6) (lw_law_in _ (List.mem_of_getElem? (i := 5) rfl))) (hts (Cond.methodLink RL 12 yX6_init) (lw_law_in _ (List.mem_of_getElem? (i := 100) rfl))) (hts (Cond.instanceMethod yX6_init) (lw_law_in _ (List.mem_of_getElem? (i := 101) rfl))) rfl (by decide +kernel) ⟨(Nat.le_of_ble_eq_true rfl), (Nat.le_of_ble_eq_true rfl)⟩) (dk_premS hK hPc hDc) rfl rfl hl.1 rfl (lv_room (Nat.le_of_ble_eq_true rfl)) dL_law_12 ⟨(Nat.le_of_ble_eq_true rfl), (Nat.le_of_ble_eq_true rfl)⟩) hS (fun q _ h => hFc q h) hFc (fun aM t H1 locs ht hvm hw hB hz1 hk1 hS => ?_)
  obtain ⟨hP1, hD1⟩ := hB
  rw [ht] at hP1
  obtain ⟨hP, hD⟩ := fr_left hP hD hk1 hFc hP1 hD1
  have hP := dk_swap2P hP
  have hD := dk_swap2D hD
  refine W.widen (k := 115) (n := 1018) (Nat.le_of_ble_eq_true rfl) (Nat.le_of_ble_eq_true rfl) ?_
  refine lv_astore_n hx hb dL_law_15 rfl hl (by decide) rfl (fun ls hl => ?_)
  refine lv_iconst (v := 0) hx hb dL_law_16 (by decide) ?_
  refine lv_istore_n hx hb dL_law_17 rfl hl (by decide) rfl (fun ls hl => ?_)
  exact ls_loop hL ⟨hx, hb, hml, hown, htl, hX, hbl, hK, hTb⟩ hr hlocks (L + 1) 0 (by omega) (by omega) u Z (0, dk_M0.1, dk_upA dk_M0.2 16 w0) H1 locs ls hP hD hS hR hl
