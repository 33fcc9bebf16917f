-- the law's loop; printed by wip/gen/start.py
section LL
variable {p : Program} {l : Launch} {e : Env} {s : State} {m : MethodId} {below : List Frame} {meth : Method} {c : Code} {b L : Nat} {xs : Nat → Int32} {D : va_G} {cy : Nat → ClassId} {tF tT : Nat} {h hM : Nat} {aM : Nat → Nat}
set_option maxHeartbeats 4000000 in
set_option maxRecDepth 100000 in
theorem ls_loop (hL : L ≤ 2048) (cx : ls_Cx p s m c b L xs D cy tF tT) (hr : meth.sig.returnType = ret) (hlocks : meth.locks = false) : ∀ (n i : Nat), L + 4 ≤ i + 4 * n → i ≤ 4096 → ∀ (u : lw_Ad) (Z : ls_Z) (M : Int64 × dk_O) (H : Heap) (locs : List Loc) (ls : Array Slot), va_P D vwCl (ls_W cy h u Z ++ ls_V cy hM aM M) H → va_D (ls_A s) (ls_W cy h u Z ++ ls_V cy hM aM M) → va_S (ls_A s) s.heap H locs → ls_R Z M → lv_has ls 4 [(3, .int (nI i)), (2, .ref hM), (1, .ref h), (0, .ref b)] → W p l e room_1 s m #[Value.ref b] below meth c H locs 115 1018 (lw_Z below #[Value.ref b] s) (F0 m 18 ls []) := by
  obtain ⟨hx, hb, hml, hown, hts, hX, hbl, -, -⟩ := id cx
  intro n
  induction n with
  | zero =>
    intro i hn hi u Z M H locs ls hP hD hS hR hl
    refine lv_iload_n hx hb dL_law_18 rfl (lv_at hl 0 rfl) ?_
    refine lv_aload_n hx hb dL_law_19 rfl (lv_at hl 3 rfl) ?_
    refine va_slen hx hb hX hbl (A := ls_A s) (Nat.not_le.mpr hbl) hS dL_law_20 ?_
    refine lv_iconst (v := 4) hx hb dL_law_21 (by decide) ?_
    refine lv_isub hx hb dL_law_22 ?_
    have hlt : nI L - nI 4 < nI i := by rw [fa_lt, pk_sub_toInt (by omega) (by omega), nI_toInt (by omega)]; omega
    refine lv_icmp_gt (tgt := 805) hx hb dL_law_23 (by decide) (fun _ => ?_) (fun q => absurd hlt q)
    refine lv_iconst (v := 1) hx hb dL_law_805 (by decide) ?_
    refine va_forget (fun q hq => hS.2.2 q hq) ?_
    refine W.widen (k := 600000) (n := 7302250) (Nat.le_of_ble_eq_true rfl) (Nat.le_of_ble_eq_true rfl) ?_
    exact lw_ret hx hb hr hlocks dL_law_806
  | succ n ih =>
    intro i hn hi u Z M H locs ls hP hD hS hR hl
    refine lv_iload_n hx hb dL_law_18 rfl (lv_at hl 0 rfl) ?_
    refine lv_aload_n hx hb dL_law_19 rfl (lv_at hl 3 rfl) ?_
    refine va_slen hx hb hX hbl (A := ls_A s) (Nat.not_le.mpr hbl) hS dL_law_20 ?_
    refine lv_iconst (v := 4) hx hb dL_law_21 (by decide) ?_
    refine lv_isub hx hb dL_law_22 ?_
    refine lv_icmp_gt (tgt := 805) hx hb dL_law_23 (by decide) (fun _ => ?_) (fun hq => ?_)
    · refine lv_iconst (v := 1) hx hb dL_law_805 (by decide) ?_
      refine va_forget (fun q hq => hS.2.2 q hq) ?_
      refine W.widen (k := 600000) (n := 7302250) (Nat.le_of_ble_eq_true rfl) (Nat.le_of_ble_eq_true rfl) ?_
      exact lw_ret hx hb hr hlocks dL_law_806
    have hq : ¬ nI L - nI 4 < nI i := hq
    rw [fa_lt, pk_sub_toInt (by omega) (by omega), nI_toInt (by omega)] at hq
    have h3 : i + 3 < L := by omega
    have kk : ∀ (u : lw_Ad) (Z : ls_Z) (M : Int64 × dk_O) (H : Heap) (locs : List Loc), va_P D vwCl (ls_W cy h u Z ++ ls_V cy hM aM M) H → va_D (ls_A s) (ls_W cy h u Z ++ ls_V cy hM aM M) → va_S (ls_A s) s.heap H locs → ls_R Z M → W p l e room_1 s m #[Value.ref b] below meth c H locs 115 1018 (lw_Z below #[Value.ref b] s) (F0 m 799 ls []) := fun u Z M H locs hP hD hS hR => by
      refine lv_iinc (k := 0) (v := nI (i + 4)) hx hb dL_law_799 hl rfl (by rw [← nI_add i 4]; rfl) (by decide) rfl (fun ls hl => ?_)
      refine lv_goto (tgt := 18) hx hb dL_law_802 (by decide) ?_
      exact ih (i + 4) (by omega) (by omega) u Z M H locs ls hP hD hS hR hl
    have hc : (115 : Nat) ≤ 600000 ∧ (1018 : Nat) ≤ 7302250 := ⟨Nat.le_of_ble_eq_true rfl, Nat.le_of_ble_eq_true rfl⟩
    refine lv_aload_n hx hb dL_law_26 rfl (lv_at hl 3 rfl) ?_
    refine lv_iload_n hx hb dL_law_27 rfl (lv_at hl 0 rfl) ?_
    refine lc_ld cx hS (k := i) ⟨by omega, hL⟩ rfl dL_law_28 ?_
    refine lv_bipush (v := 31) hx hb dL_law_29 (by decide) ?_
    refine lv_iand hx hb dL_law_31 ?_
    by_cases q0 : xs i &&& 31 = 0
    · refine lv_tableIn (tgt := 144) hx hb dL_law_32 (by rw [q0]; decide) (by rw [q0]; decide) (by rw [q0]; rfl) (by decide) ?_
      exact lk_write hL cx h3 hl hc hP hD hS hR kk
    by_cases q1 : xs i &&& 31 = 1
    · refine lv_tableIn (tgt := 167) hx hb dL_law_32 (by rw [q1]; decide) (by rw [q1]; decide) (by rw [q1]; rfl) (by decide) ?_
      exact lk_wipe hL cx h3 hl hc hP hD hS hR kk
    by_cases q2 : xs i &&& 31 = 2
    · refine lv_tableIn (tgt := 180) hx hb dL_law_32 (by rw [q2]; decide) (by rw [q2]; decide) (by rw [q2]; rfl) (by decide) ?_
      exact lk_fault hL cx h3 hl hc hP hD hS hR kk
    by_cases q3 : xs i &&& 31 = 3
    · refine lv_tableIn (tgt := 193) hx hb dL_law_32 (by rw [q3]; decide) (by rw [q3]; decide) (by rw [q3]; rfl) (by decide) ?_
      exact lk_net hL cx h3 hl hc hP hD hS hR kk
    by_cases q4 : xs i &&& 31 = 4
    · refine lv_tableIn (tgt := 206) hx hb dL_law_32 (by rw [q4]; decide) (by rw [q4]; decide) (by rw [q4]; rfl) (by decide) ?_
      exact lk_edge hL cx h3 hl hc hP hD hS hR kk
    by_cases q5 : xs i &&& 31 = 5
    · refine lv_tableIn (tgt := 239) hx hb dL_law_32 (by rw [q5]; decide) (by rw [q5]; decide) (by rw [q5]; rfl) (by decide) ?_
      exact lk_searcher hL cx h3 hl hc hP hD hS hR kk
    by_cases q6 : xs i &&& 31 = 6
    · refine lv_tableIn (tgt := 272) hx hb dL_law_32 (by rw [q6]; decide) (by rw [q6]; decide) (by rw [q6]; rfl) (by decide) ?_
      exact lk_step hL cx h3 hl hc hP hD hS hR kk
    by_cases q7 : xs i &&& 31 = 7
    · refine lv_tableIn (tgt := 305) hx hb dL_law_32 (by rw [q7]; decide) (by rw [q7]; decide) (by rw [q7]; rfl) (by decide) ?_
      exact lk_round hL cx h3 hl hc hP hD hS hR kk
    by_cases q8 : xs i &&& 31 = 8
    · refine lv_tableIn (tgt := 318) hx hb dL_law_32 (by rw [q8]; decide) (by rw [q8]; decide) (by rw [q8]; rfl) (by decide) ?_
      exact lk_join hL cx h3 hl hc hP hD hS hR kk
    by_cases q9 : xs i &&& 31 = 9
    · refine lv_tableIn (tgt := 331) hx hb dL_law_32 (by rw [q9]; decide) (by rw [q9]; decide) (by rw [q9]; rfl) (by decide) ?_
      exact lk_hide hL cx h3 hl hc hP hD hS hR kk
    by_cases q10 : xs i &&& 31 = 10
    · refine lv_tableIn (tgt := 354) hx hb dL_law_32 (by rw [q10]; decide) (by rw [q10]; decide) (by rw [q10]; rfl) (by decide) ?_
      exact lk_undo hL cx h3 hl hc hP hD hS hR kk
    by_cases q11 : xs i &&& 31 = 11
    · refine lv_tableIn (tgt := 367) hx hb dL_law_32 (by rw [q11]; decide) (by rw [q11]; decide) (by rw [q11]; rfl) (by decide) ?_
      exact lk_ask hL cx h3 hl hc hP hD hS hR kk
    by_cases q12 : xs i &&& 31 = 12
    · refine lv_tableIn (tgt := 390) hx hb dL_law_32 (by rw [q12]; decide) (by rw [q12]; decide) (by rw [q12]; rfl) (by decide) ?_
      exact lk_fate hL cx h3 hl hc hP hD hS hR kk
    by_cases q13 : xs i &&& 31 = 13
    · refine lv_tableIn (tgt := 423) hx hb dL_law_32 (by rw [q13]; decide) (by rw [q13]; decide) (by rw [q13]; rfl) (by decide) ?_
      exact lk_judge hL cx h3 hl hc hP hD hS hR kk
    by_cases q14 : xs i &&& 31 = 14
    · refine lv_tableIn (tgt := 486) hx hb dL_law_32 (by rw [q14]; decide) (by rw [q14]; decide) (by rw [q14]; rfl) (by decide) ?_
      exact lk_see hL cx h3 hl hc hP hD hS hR kk
    by_cases q15 : xs i &&& 31 = 15
    · refine lv_tableIn (tgt := 519) hx hb dL_law_32 (by rw [q15]; decide) (by rw [q15]; decide) (by rw [q15]; rfl) (by decide) ?_
      exact lk_unsee hL cx h3 hl hc hP hD hS hR kk
    by_cases q16 : xs i &&& 31 = 16
    · refine lv_tableIn (tgt := 532) hx hb dL_law_32 (by rw [q16]; decide) (by rw [q16]; decide) (by rw [q16]; rfl) (by decide) ?_
      exact lk_which hL cx h3 hl hc hP hD hS hR kk
    by_cases q17 : xs i &&& 31 = 17
    · refine lv_tableIn (tgt := 545) hx hb dL_law_32 (by rw [q17]; decide) (by rw [q17]; decide) (by rw [q17]; rfl) (by decide) ?_
      exact lk_share hL cx h3 hl hc hP hD hS hR kk
    by_cases q18 : xs i &&& 31 = 18
    · refine lv_tableIn (tgt := 594) hx hb dL_law_32 (by rw [q18]; decide) (by rw [q18]; decide) (by rw [q18]; rfl) (by decide) ?_
      exact lk_luck hL cx h3 hl hc hP hD hS hR kk
    by_cases q19 : xs i &&& 31 = 19
    · refine lv_tableIn (tgt := 653) hx hb dL_law_32 (by rw [q19]; decide) (by rw [q19]; decide) (by rw [q19]; rfl) (by decide) ?_
      exact lk_seed hL cx h3 hl hc hP hD hS hR kk
    by_cases q20 : xs i &&& 31 = 20
    · refine lv_tableIn (tgt := 707) hx hb dL_law_32 (by rw [q20]; decide) (by rw [q20]; decide) (by rw [q20]; rfl) (by decide) ?_
      exact lk_drawn hL cx h3 hl hc hP hD hS hR kk
    by_cases q21 : xs i &&& 31 = 21
    · refine lv_tableIn (tgt := 730) hx hb dL_law_32 (by rw [q21]; decide) (by rw [q21]; decide) (by rw [q21]; rfl) (by decide) ?_
      exact lk_keep hL cx h3 hl hc hP hD hS hR kk
    by_cases q22 : xs i &&& 31 = 22
    · refine lv_tableIn (tgt := 753) hx hb dL_law_32 (by rw [q22]; decide) (by rw [q22]; decide) (by rw [q22]; rfl) (by decide) ?_
      exact lk_again hL cx h3 hl hc hP hD hS hR kk
    by_cases q23 : xs i &&& 31 = 23
    · refine lv_tableIn (tgt := 776) hx hb dL_law_32 (by rw [q23]; decide) (by rw [q23]; decide) (by rw [q23]; rfl) (by decide) ?_
      exact lk_count hL cx h3 hl hc hP hD hS hR kk
    refine lv_tableOut (tgt := 799) hx hb dL_law_32 (dk_tabOut 0 24 (by decide) (fun k _ hk => ?_)) (by decide) ?_
    · match k, hk with
      | 0, _ => exact q0
      | 1, _ => exact q1
      | 2, _ => exact q2
      | 3, _ => exact q3
      | 4, _ => exact q4
      | 5, _ => exact q5
      | 6, _ => exact q6
      | 7, _ => exact q7
      | 8, _ => exact q8
      | 9, _ => exact q9
      | 10, _ => exact q10
      | 11, _ => exact q11
      | 12, _ => exact q12
      | 13, _ => exact q13
      | 14, _ => exact q14
      | 15, _ => exact q15
      | 16, _ => exact q16
      | 17, _ => exact q17
      | 18, _ => exact q18
      | 19, _ => exact q19
      | 20, _ => exact q20
      | 21, _ => exact q21
      | 22, _ => exact q22
      | 23, _ => exact q23
      | k + 24, hk => omega
    · exact kk u Z M H locs hP hD hS hR
end LL
