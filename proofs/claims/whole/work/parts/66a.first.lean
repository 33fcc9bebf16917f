-- what the start gives; printed by wip/gen/start.py
theorem nests_in : ∀ w ∈ dk_nests, w ∈ lw_tbl := by decide +kernel
theorem ls_N {args : Array Value} {s : State} (hts : ∀ w ∈ lw_tbl, w.before args s = true) : dk_N s := fun w hw => va_Nw.of (by
  have : dk_nests.all (fun w => w.onTables) = true := by decide +kernel
  exact List.all_eq_true.mp this w hw) (hts w (nests_in w hw))
theorem ls_arr_int {args : Array Value} {s : State} (h : (Cond.arrayClass .int).before args s = true) : ∃ cA : ClassId, ArrOfT s cA .int ∧ va_RA s cA .int := by
  obtain ⟨cA, kA, comp, h1, h2, h3⟩ := Cond.arrayClass_spec h
  exact ⟨cA, fun n z => ⟨fun k h => (by cases h), kA, h2, comp, h3⟩, h1⟩
theorem ls_arr_boolean {args : Array Value} {s : State} (h : (Cond.arrayClass .boolean).before args s = true) : ∃ cA : ClassId, ArrOfT s cA .boolean ∧ va_RA s cA .boolean := by
  obtain ⟨cA, kA, comp, h1, h2, h3⟩ := Cond.arrayClass_spec h
  exact ⟨cA, fun n z => ⟨fun k h => (by cases h), kA, h2, comp, h3⟩, h1⟩
theorem ls_arr_long {args : Array Value} {s : State} (h : (Cond.arrayClass .long).before args s = true) : ∃ cA : ClassId, ArrOfT s cA .long ∧ va_RA s cA .long := by
  obtain ⟨cA, kA, comp, h1, h2, h3⟩ := Cond.arrayClass_spec h
  exact ⟨cA, fun n z => ⟨fun k h => (by cases h), kA, h2, comp, h3⟩, h1⟩
theorem ls_over {args : Array Value} {s : State} {C : String} (h : (Cond.arrayOver (.object C)).before args s = true) : ∃ cA : ClassId, ArrOfT s cA (.object C) ∧ va_RA s cA (.object C) := by
  obtain ⟨comp, cA, kA, h1, h2, h3, h4, h5⟩ := Cond.arrayOver_spec h
  exact ⟨cA, fun n z => ⟨fun k h => (by cases h), kA, h3, comp, h4⟩, ⟨kA, comp, h3, h4, h1, h5⟩⟩
theorem ls_AO {args : Array Value} {s : State} {C : String} (h : (Cond.arrayOver (.object C)).before args s = true) : va_AO C s := by
  unfold va_AO
  simp only [Cond.before, Cond.holds, Cond.value] at h ⊢
  exact h
theorem ls_K {args : Array Value} {s : State} (hts : ∀ w ∈ lw_tbl, w.before args s = true) : ∃ (D : va_G) (cy : Nat → ClassId), dk_K D cy s ∧ va_AO "DarkPlace$Stand" s := by
  obtain ⟨c0, i0, k0⟩ := u_known (C := RX0) (T := TX0) (N := 2) hts wsX00_in (hts (.instantiable RX0 2) (by decide +kernel))
  obtain ⟨c1, i1, k1⟩ := u_known (C := RX1) (T := TX1) (N := 9) hts wsX10_in (hts (.instantiable RX1 9) (by decide +kernel))
  obtain ⟨c2, i2, k2⟩ := u_known (C := RX2) (T := TX2) (N := 3) hts wsX20_in (hts (.instantiable RX2 3) (by decide +kernel))
  obtain ⟨c3, i3, k3⟩ := u_known (C := RX3) (T := TX3) (N := 9) hts wsX30_in (hts (.instantiable RX3 9) (by decide +kernel))
  obtain ⟨c4, i4, k4⟩ := u_known (C := RX4) (T := TX4) (N := 2) hts wsX40_in (hts (.instantiable RX4 2) (by decide +kernel))
  obtain ⟨c5, i5, k5⟩ := u_known (C := RX5) (T := TX5) (N := 10) hts wsX50_in (hts (.instantiable RX5 10) (by decide +kernel))
  obtain ⟨c6, i6, k6⟩ := u_known (C := RX6) (T := TX6) (N := 28) hts wsX60_in (hts (.instantiable RX6 28) (by decide +kernel))
  obtain ⟨y0, a0, r0⟩ := ls_arr_int (hts (.arrayClass .int) (by decide +kernel))
  obtain ⟨y1, a1, r1⟩ := ls_arr_boolean (hts (.arrayClass .boolean) (by decide +kernel))
  obtain ⟨y2, a2, r2⟩ := ls_over (C := "DarkPlace$Stand") (hts (.arrayOver (.object "DarkPlace$Stand")) (by decide +kernel))
  obtain ⟨y3, a3, r3⟩ := ls_arr_long (hts (.arrayClass .long) (by decide +kernel))
  refine ⟨(fun k => if k = 0 then c0 else if k = 1 then c1 else if k = 2 then c2 else if k = 3 then c3 else if k = 4 then c4 else if k = 5 then c5 else c6, fun k => if k = 0 then i0 else if k = 1 then i1 else if k = 2 then i2 else if k = 3 then i3 else if k = 4 then i4 else if k = 5 then i5 else i6), fun k => if k = 0 then y0 else if k = 1 then y1 else if k = 2 then y2 else y3, ⟨⟨?_, ?_⟩, ls_N hts⟩, ls_AO (hts (.arrayOver (.object "DarkPlace$Stand")) (by decide +kernel))⟩
  · intro k q hk
    match k, hk with
    | 0, hk => cases hk; exact k0
    | 1, hk => cases hk; exact k1
    | 2, hk => cases hk; exact k2
    | 3, hk => cases hk; exact k3
    | 4, hk => cases hk; exact k4
    | 5, hk => cases hk; exact k5
    | 6, hk => cases hk; exact k6
    | k + 7, hk => exact absurd hk (by simp [vwCl])
  · intro k q hk
    match k, hk with
    | 0, hk => cases hk; exact ⟨a0, r0⟩
    | 1, hk => cases hk; exact ⟨a1, r1⟩
    | 2, hk => cases hk; exact ⟨a2, r2⟩
    | 3, hk => cases hk; exact ⟨a3, r3⟩
    | k + 4, hk => exact absurd hk (by simp [dk_tys])
set_option maxRecDepth 100000 in
theorem ls_Tb {args : Array Value} {s : State} (hts : ∀ w ∈ lw_tbl, w.before args s = true) (hgv : (Jvm.Cond.and given_1 narrow_1).before args s = true) : ∃ tF tT, dk_Tb tF tT (ls_A s) s s.heap := by
  have hs := flat_of_before _ hgv
  have hA : ∀ a : Nat, a < s.heap.size → ¬ ls_A s a := fun a h => Nat.not_le.mpr h
  obtain ⟨tF, eF, hF⟩ := va_Tof (tm := (Term.static "DarkPlace" "FACTORIALS" "[I")) (ty := .int) (N := 5) (f := fun k => .int (tb_F k)) (A := ls_A s) (by decide) (hs (.arrayOf (Term.static "DarkPlace" "FACTORIALS" "[I") .int) (by decide +kernel)) (va_eqt (hs (.eq (.length (Term.static "DarkPlace" "FACTORIALS" "[I")) (.int 5)) (by decide +kernel))) (fun j hj => by
    rcases (show j = 0 ∨ j = 1 ∨ j = 2 ∨ j = 3 ∨ j = 4 by omega) with rfl | rfl | rfl | rfl | rfl
    · exact va_eqt (z := 1) (hs (.eq (.elem (Term.static "DarkPlace" "FACTORIALS" "[I") (.int 0)) (.int 1)) (by decide +kernel))
    · exact va_eqt (z := 1) (hs (.eq (.elem (Term.static "DarkPlace" "FACTORIALS" "[I") (.int 1)) (.int 1)) (by decide +kernel))
    · exact va_eqt (z := 2) (hs (.eq (.elem (Term.static "DarkPlace" "FACTORIALS" "[I") (.int 2)) (.int 2)) (by decide +kernel))
    · exact va_eqt (z := 6) (hs (.eq (.elem (Term.static "DarkPlace" "FACTORIALS" "[I") (.int 3)) (.int 6)) (by decide +kernel))
    · exact va_eqt (z := 24) (hs (.eq (.elem (Term.static "DarkPlace" "FACTORIALS" "[I") (.int 4)) (.int 24)) (by decide +kernel))) hA
  obtain ⟨tT, eT, hT⟩ := va_Tof (tm := (Term.static "DarkPlace" "THOUSANDS" "[J")) (ty := .long) (N := 5) (f := fun k => .long (tb_T k)) (A := ls_A s) (by decide) (hs (.arrayOf (Term.static "DarkPlace" "THOUSANDS" "[J") .long) (by decide +kernel)) (va_eqt (hs (.eq (.length (Term.static "DarkPlace" "THOUSANDS" "[J")) (.int 5)) (by decide +kernel))) (fun j hj => by
    rcases (show j = 0 ∨ j = 1 ∨ j = 2 ∨ j = 3 ∨ j = 4 by omega) with rfl | rfl | rfl | rfl | rfl
    · exact va_eqtl (z := 1) (hs (.eq (.elem (Term.static "DarkPlace" "THOUSANDS" "[J") (.int 0)) (.long 1)) (by decide +kernel))
    · exact va_eqtl (z := 1000) (hs (.eq (.elem (Term.static "DarkPlace" "THOUSANDS" "[J") (.int 1)) (.long 1000)) (by decide +kernel))
    · exact va_eqtl (z := 1000000) (hs (.eq (.elem (Term.static "DarkPlace" "THOUSANDS" "[J") (.int 2)) (.long 1000000)) (by decide +kernel))
    · exact va_eqtl (z := 1000000000) (hs (.eq (.elem (Term.static "DarkPlace" "THOUSANDS" "[J") (.int 3)) (.long 1000000000)) (by decide +kernel))
    · exact va_eqtl (z := 1000000000000) (hs (.eq (.elem (Term.static "DarkPlace" "THOUSANDS" "[J") (.int 4)) (.long 1000000000000)) (by decide +kernel))) hA
  exact ⟨tF, tT, va_Zof (hts (.laysStatic "DarkPlace" "FACTORIALS" "[I") (by decide +kernel)) (hts (.initialized "DarkPlace") (by decide +kernel)) eF hA, hF, va_Zof (hts (.laysStatic "DarkPlace" "THOUSANDS" "[J") (by decide +kernel)) (hts (.initialized "DarkPlace") (by decide +kernel)) eT hA, hT⟩
def ls_N0 : sN := (2, 0, 0, fun _ => 0, fun _ => 0)
theorem n0_w : sp_wN ls_N0 := ⟨by decide, by decide, by decide, by decide, fun e he => absurd he (Nat.not_lt_zero e)⟩
theorem n0_G : sp_RG dk_G0 ls_N0 := ⟨rfl, rfl, rfl, fun e he => absurd he (Nat.not_lt_zero e), fun p _ => by
  show (0 : Int32) = ms (fun e => decide (e < 0) && sp_en ls_N0 e p) 10
  simp only [Nat.not_lt_zero, decide_false, Bool.false_and]
  decide +kernel⟩
theorem n0_M : sp_RN dk_M0 ls_N0 := ⟨rfl, rfl, rfl, fun e he => absurd he (Nat.not_lt_zero e)⟩
theorem ls_first : ∃ TI T1 T2 w, fX3_begin dk_Z dk_G0 (dk_G0.1 3) (dk_G0.1 2) = some (TI, T1, T2) ∧ fX6_layFirst dk_M0 (fun _ => 0) 1 1 = some w ∧ ls_R (0, (dk_Z, dk_Z, dk_G0, dk_G0), ((TI, dk_upA (dk_upA dk_Z.2 1 T1) 2 T2), (TI, dk_upA (dk_upA dk_Z.2 1 T1) 2 T2), dk_Z, dk_Z), (fun _ => (TI, dk_upA (dk_upA dk_Z.2 1 T1) 2 T2)), (fun _ => (TI, dk_upA (dk_upA dk_Z.2 1 T1) 2 T2))) (0, dk_M0.1, dk_upA dk_M0.2 16 w) := by
  obtain ⟨TI, T1, T2, e1, hT⟩ := q_begin (T := dk_Z) n0_w n0_G (h := 1) (k := 1) (by decide)
  obtain ⟨w, e2, hw⟩ := m_layFirst (M := dk_M0) (w := fun _ => 0) n0_M (h := 1) (k := 1)
  refine ⟨TI, T1, T2, w, e1, e2, rfl, ls_N0, sp_f0 ls_N0 1 1, 0, fun _ _ => 0, 0, fun _ => 0, 0, fun _ => 0, fun _ => 0, ?_, ?_, ?_, ?_, ?_, ?_⟩
  · exact ⟨n0_w, f0_wP n0_w (by decide) (by decide) (by decide), f0_wV (by decide) (by decide), n0_G, hT, ⟨rfl, rfl, rfl, fun e he => absurd he (Nat.not_lt_zero e)⟩, hw, rfl⟩
  · exact ⟨⟨by decide, rfl, fun j hj => absurd hj (Nat.not_lt_zero j)⟩, ⟨by decide, rfl, fun j hj => absurd hj (Nat.not_lt_zero j)⟩, fun j hj => absurd hj (Nat.not_lt_zero j)⟩
  · exact ⟨by decide, rfl, rfl, fun j hj => absurd hj (Nat.not_lt_zero j)⟩
  · exact ⟨by decide, rfl, fun j hj => absurd hj (Nat.not_lt_zero j)⟩
  · exact ⟨by decide, rfl, fun j hj => absurd hj (Nat.not_lt_zero j)⟩
  · exact fun j _ => Or.inl ⟨rfl, rfl⟩
