/-! join, hide, undo; the relation whole -/
section AD
variable {N : sN} {g : Nat → Nat} {Q X T U G C E M : dk_O} {CB SB : Nat → dk_O} {k : Nat} {b : Nat → Nat → Nat}
theorem q_join (hN : sp_wN N) (hG : sp_RG G N) (hT : sp_RT T N g) (h4 : g 1 < 4) : ∃ I a1 a2, fX3_addSearcher T G = some (nI (g 1), I, a1, a2) ∧ sp_RT (I, dk_upA (dk_upA T.2 1 a1) 2 a2) N (sp_jo N g) := by
  have hh := hN.2.2.1
  have h8 := hN.2.1
  unfold fX3_addSearcher
  rw [hT.1, if_neg (show ¬ (4 : Int32) ≤ nI (g 1) from nI_ge (b := 4) h4 (by omega)), wr_nI h4 (by omega), sb_, wr_nI h4 (by omega), sb_, nI_1]
  refine ⟨_, _, _, rfl, ?_, ?_, ?_, ?_, ?_, ?_, fun s hs => ?_, fun s hs => ?_⟩
  · show upd T.1 3 (nI (g 1 + 1)) 3 = _
    rw [upd_s, jo_1]
  · show upd T.1 3 (nI (g 1 + 1)) 4 = _
    rw [upd_n (by omega), jo_0]
    exact hT.2.1
  · show upd T.1 3 (nI (g 1 + 1)) 5 = _
    rw [upd_n (by omega), jo_2]
    exact hT.2.2.1
  · show upd T.1 3 (nI (g 1 + 1)) 6 = _
    rw [upd_n (by omega), RT_un hT]
    exact ms_cong (fun e _ => by unfold sp_un; rw [jo_11 h4])
  · show upd T.1 3 (nI (g 1 + 1)) 7 = _
    rw [upd_n (by omega), RT_sf hT]
    exact ms_cong (fun e _ => by unfold sp_sf; rw [jo_11 h4])
  · show upd T.1 3 (nI (g 1 + 1)) 8 = _
    rw [upd_n (by omega), RT_vi hT]
    exact ms_cong (fun p _ => (jo_vis h4 p).symm)
  · show upd (T.2 1) (g 1) (G.1 1) s = _
    rw [jo_3 hs]
    by_cases z : s = g 1
    · rw [if_pos z, z, upd_s, hG.2.1, pl_n (by omega)]
    · rw [if_neg z, upd_n z]
      exact RT_at hT hs
  · show upd (T.2 2) (g 1) (-9) s = _
    rw [jo_7 h4 hs]
    by_cases z : s = g 1
    · rw [if_pos z, z, upd_s]
      rfl
    · rw [if_neg z, upd_n z]
      exact RT_ot hT hs
theorem sim_join (hr : rl_N N g G T M) (hb : rl_B N k b C CB M) : ∃ A TI T1 T2 CI CB' J w B, fX5_join Q T G C CB = some (A, TI, T1, T2, CI, CB') ∧ fX6_join M = some (A, J, w, B) ∧ (∃ g' k' b', rl_N N g' G (TI, dk_upA (dk_upA T.2 1 T1) 2 T2) (J, dk_upA (dk_upA M.2 16 w) 18 B) ∧ rl_B N k' b' (CI, C.2) CB' (J, dk_upA (dk_upA M.2 16 w) 18 B)) ∧ ∀ i, i ≠ 0 → i ≠ 19 → J i = M.1 i := by
  obtain ⟨hN, hP, hV, hG, hT, hM, hw, h15⟩ := hr
  obtain ⟨hC, hB, hbw⟩ := hb
  have h4 := hP.2.2.1
  have r1 : dk_rd (M.2 16) 21 1 = some (nI (g 1)) := rd_w hw (k := 1) (by omega)
  unfold fX5_join fX6_join
  rw [r1, sb_, hT.1]
  by_cases a : g 1 < 4
  · obtain ⟨I, a1, a2, y1, y2⟩ := q_join hN hG hT a
    obtain ⟨CI, CB', z1, z2⟩ := q_remember hC hT
    obtain ⟨J, B, x1, x2, x3⟩ := m_note (M := (upd M.1 0 0, M.2)) (k := k) (b := b) hB hw
    have h5 : J 5 = nI (sp_h N) := (x2 5 (by omega)).trans hM.2.1
    rw [if_pos (show nI (g 1) < 4 from nI_lt (b := 4) a (by omega)), if_neg (show ¬ nI (g 1) = 4 from fun z => by have := (nI_eq (b := 4) (by omega) (by omega)).mp z; omega), z1, sb_]
    dsimp only
    rw [y1, sb_, x1, sb_]
    dsimp only
    have R1 := RP_up (v := sp_h N) (k := 3 + g 1) hw
    have R2 := RP_up (v := 0) (k := 7 + g 1) R1
    have r2 : dk_rd (upd (upd (M.2 16) (3 + g 1) (nI (sp_h N))) (7 + g 1) (nI 0)) 21 1 = some (nI (g 1)) := by
      have := rd_w R2 (k := 1) (by omega)
      rw [up_n (by omega), up_n (by omega)] at this
      exact this
    have w2 : ∀ x, dk_wr (upd (upd (M.2 16) (3 + g 1) (nI (sp_h N))) (7 + g 1) (nI 0)) 21 1 x = some (upd (upd (upd (M.2 16) (3 + g 1) (nI (sp_h N))) (7 + g 1) (nI 0)) 1 x) := fun x => wr_nI (k := 1) (by omega) (by omega)
    have w1 : dk_wr (upd (M.2 16) (3 + g 1) (nI (sp_h N))) 21 (nI (7 + g 1)) 0 = some (upd (upd (M.2 16) (3 + g 1) (nI (sp_h N))) (7 + g 1) (nI 0)) := wr_nI (by omega) (by omega)
    rw [sb_, h5, i_3, wr_nI (by omega) (by omega), sb_, i_7, w1, sb_, r2, sb_, nI_1, w2, sb_]
    have hMJ : sp_RN (J, dk_upA M.2 18 B) N := ⟨(x2 4 (by omega)).trans hM.1, (x2 5 (by omega)).trans hM.2.1, (x2 6 (by omega)).trans hM.2.2.1, hM.2.2.2⟩
    exact ⟨_, _, _, _, _, _, _, _, _, rfl, rfl, ⟨sp_jo N g, bk_k k, bk_b k b g, ⟨hN, jo_wP hN hP a, jo_wV hV a, hG, y2, hMJ, RP_up R2, (x2 27 (by omega)).trans h15⟩, ⟨z2, x3, bk_wP hP hV hbw hC.1⟩⟩, fun i h0 h19 => (x2 i h19).trans (upd_n h0)⟩
  · have e4 : g 1 = 4 := by omega
    rw [if_neg (show ¬ nI (g 1) < 4 from nI_nlt (b := 4) (by omega) (by omega)), if_pos (by rw [e4]; rfl)]
    exact ⟨_, _, _, _, _, _, _, _, _, rfl, rfl, ⟨g, k, b, ⟨hN, hP, hV, hG, hT, hM, hw, h15⟩, ⟨hC, hB, hbw⟩⟩, fun i hi _ => upd_n hi⟩
theorem q_isP_in (hN : sp_wN N) (hG : sp_RG G N) {p : Nat} (hp : p < sp_n N) : fX1_isPlace G (nI p) = some 1 := by
  have h8 := hN.2.1
  unfold fX1_isPlace
  rw [hG.1, if_neg (nI_pos (by omega)), if_neg (nI_ge hp (by omega)), if_neg (show ¬ (8 : Int32) ≤ nI p from nI_ge (b := 8) (by omega) (by omega))]
theorem q_isP_out (hG : sp_RG G N) {v : Int32} (h : v < 0 ∨ nI (sp_n N) ≤ v) : fX1_isPlace G v = some 0 := by
  unfold fX1_isPlace
  rw [hG.1]
  by_cases q : v < 0
  · rw [if_pos q]
  · rw [if_neg q, if_pos (h.resolve_left q)]
theorem RT_hole {p : Nat} (hT : sp_RT T N g) : sp_RT (upd T.1 4 (nI p), T.2) N (sp_up g 0 p) := by
  refine ⟨?_, ?_, ?_, ?_, ?_, ?_, fun s hs => ?_, fun s hs => ?_⟩
  · show upd T.1 4 (nI p) 3 = _
    rw [upd_n (by omega), up_n (by omega)]
    exact hT.1
  · show upd T.1 4 (nI p) 4 = _
    rw [upd_s, up_s]
  · show upd T.1 4 (nI p) 5 = _
    rw [upd_n (by omega), up_n (by omega)]
    exact hT.2.2.1
  · show upd T.1 4 (nI p) 6 = _
    rw [upd_n (by omega), RT_un hT]
    exact ms_cong (fun e _ => by unfold sp_un; rw [up_n (by omega)])
  · show upd T.1 4 (nI p) 7 = _
    rw [upd_n (by omega), RT_sf hT]
    exact ms_cong (fun e _ => by unfold sp_sf; rw [up_n (by omega)])
  · show upd T.1 4 (nI p) 8 = _
    rw [upd_n (by omega), RT_vi hT]
    exact ms_cong (fun q _ => (up0_vis q).symm)
  · rw [up_n (by omega)]
    exact RT_at hT hs
  · rw [up_n (by omega)]
    exact RT_ot hT hs
theorem sim_hide (hr : rl_N N g G T M) (hb : rl_B N k b C CB M) (v1 : Int32) : ∃ A TI CI CB' J w B, fX5_hide Q T G C CB v1 = some (A, TI, CI, CB') ∧ fX6_hide M v1 = some (A, J, w, B) ∧ (∃ g' k' b', rl_N N g' G (TI, T.2) (J, dk_upA (dk_upA M.2 16 w) 18 B) ∧ rl_B N k' b' (CI, C.2) CB' (J, dk_upA (dk_upA M.2 16 w) 18 B)) ∧ ∀ i, i ≠ 0 → i ≠ 19 → J i = M.1 i := by
  obtain ⟨hN, hP, hV, hG, hT, hM, hw, h15⟩ := hr
  obtain ⟨hC, hB, hbw⟩ := hb
  have h8 := hN.2.1
  have h0 := hP.1
  have hM0 : sp_RN (upd M.1 0 0, M.2) N := hM
  have keep : ∀ i, i ≠ 0 → i ≠ 19 → upd M.1 0 0 i = M.1 i := fun i hi _ => upd_n hi
  have rest : ∃ g' k' b', rl_N N g' G (T.1, T.2) (upd M.1 0 0, dk_upA (dk_upA M.2 16 (M.2 16)) 18 (M.2 18)) ∧ rl_B N k' b' (C.1, C.2) CB (upd M.1 0 0, dk_upA (dk_upA M.2 16 (M.2 16)) 18 (M.2 18)) := ⟨g, k, b, ⟨hN, hP, hV, hG, hT, hM, hw, h15⟩, ⟨hC, hB, hbw⟩⟩
  have r0 : dk_rd (M.2 16) 21 0 = some (nI (g 0)) := rd_w hw (k := 0) (by omega)
  unfold fX5_hide fX6_hide
  rcases v_cases v1 (n := sp_n N) (by omega) with o | ⟨p, hp, rfl⟩
  · rw [q_isP_out hG o, sb_, if_pos rfl, m_noPlace_out hN hM0 o, sb_, if_neg (by decide)]
    exact ⟨_, _, _, _, _, _, _, rfl, rfl, rest, keep⟩
  · rw [q_isP_in hN hG hp, sb_, if_neg (by decide), m_noPlace_in hN hM0 hp, sb_, if_pos rfl, r0, sb_, hT.2.1]
    by_cases a : p = g 0
    · rw [if_pos (by rw [a]), if_pos (by rw [a])]
      exact ⟨_, _, _, _, _, _, _, rfl, rfl, rest, keep⟩
    · have ne : ¬ nI p = nI (g 0) := fun z => a ((nI_eq (by omega) (by omega)).mp z)
      rw [if_neg ne, if_neg ne, q_fated hN hP hG hT, sb_, holds_ms (by omega) (by omega), sb_, m_isFree hN hP hM0 hw (by omega), sb_]
      have l1 : decide (p < 8) = true := by simp; omega
      rw [l1, Bool.true_and]
      by_cases f : sp_ft N g p = true
      · obtain ⟨CI, CB', z1, z2⟩ := q_remember hC hT
        obtain ⟨J, B, x1, x2, x3⟩ := m_note (M := (upd M.1 0 0, M.2)) (k := k) (b := b) hB hw
        have w0 : dk_wr (M.2 16) 21 0 (nI p) = some (upd (M.2 16) 0 (nI p)) := wr_nI (k := 0) (by omega) (by omega)
        rw [if_pos f, if_neg (by decide), if_neg (by decide), z1, sb_]
        dsimp only
        rw [x1, sb_]
        dsimp only
        rw [sb_, w0, sb_]
        have hMJ : sp_RN (J, dk_upA M.2 18 B) N := ⟨(x2 4 (by omega)).trans hM.1, (x2 5 (by omega)).trans hM.2.1, (x2 6 (by omega)).trans hM.2.2.1, hM.2.2.2⟩
        exact ⟨_, _, _, _, _, _, _, rfl, rfl, ⟨sp_up g 0 p, bk_k k, bk_b k b g, ⟨hN, ft_wP hP f, ft_wV hP hV f, hG, RT_hole hT, hMJ, RP_up hw, (x2 27 (by omega)).trans h15⟩, ⟨z2, x3, bk_wP hP hV hbw hC.1⟩⟩, fun i h0 h19 => (x2 i h19).trans (upd_n h0)⟩
      · rw [if_neg f, if_pos rfl, if_pos rfl]
        exact ⟨_, _, _, _, _, _, _, rfl, rfl, rest, keep⟩
theorem m_undo_L {J : Nat → Int32} {q : Nat} (hq : q < 14) (hJ : J 19 = nI q) (hb : ∀ i, i < 21 → M.2 18 (21 * q + i) = nI (g i)) : ∀ d i fu (w : Nat → Int32), i + d = 21 → d < fu → (∀ l, l < i → w l = nI (g l)) → ∃ w', fX6_undo_L27 M fu (nI i) J w = some (nI q, J, w') ∧ sp_RP w' g
  | 0, i, fu, w, h1, h2, hl => by
    obtain ⟨fu, rfl⟩ : ∃ k, fu = k + 1 := ⟨fu - 1, by omega⟩
    rw [fX6_undo_L27, if_pos (show (21 : Int32) ≤ nI i from nI_le (a := 21) (by omega) (by omega)), hJ]
    exact ⟨w, rfl, fun l h => hl l (by omega)⟩
  | d + 1, i, fu, w, h1, h2, hl => by
    obtain ⟨fu, rfl⟩ : ∃ k, fu = k + 1 := ⟨fu - 1, by omega⟩
    have e : (21 : Int32) * nI q + nI i = nI (21 * q + i) := by
      rw [show (21 : Int32) * nI q = nI (21 * q) from pk_mul 21 q, nI_add]
    rw [fX6_undo_L27, if_neg (show ¬ (21 : Int32) ≤ nI i from nI_ge (b := 21) (by omega) (by omega)), hJ, e, rd_nI (by omega) (by omega), sb_, hb i (by omega), wr_nI (by omega) (by omega), sb_, nI_1]
    refine m_undo_L hq hJ hb d (i + 1) fu _ (by omega) (by omega) (fun l h => ?_)
    by_cases z : l = i
    · rw [z, upd_s]
    · rw [upd_n z]; exact hl l (by omega)
theorem sim_undo (hr : rl_N N g G T M) (hb : rl_B N k b C CB M) : ∃ A TI T1 T2 CI J w, fX5_undo Q T C CB = some (A, TI, T1, T2, CI) ∧ fX6_undo M = some (A, J, w) ∧ (∃ g' k' b', rl_N N g' G (TI, dk_upA (dk_upA T.2 1 T1) 2 T2) (J, dk_upA M.2 16 w) ∧ rl_B N k' b' (CI, C.2) CB (J, dk_upA M.2 16 w)) ∧ ∀ i, i ≠ 0 → i ≠ 19 → J i = M.1 i := by
  obtain ⟨hN, hP, hV, hG, hT, hM, hw, h15⟩ := hr
  obtain ⟨hC, hB, hbw⟩ := hb
  have h14 := hC.1
  unfold fX5_undo fX6_undo
  rw [hC.2.1, hB.2.1]
  by_cases a : k = 0
  · rw [if_pos (by rw [a]; rfl), if_pos (by rw [a]; rfl)]
    exact ⟨_, _, _, _, _, _, _, rfl, rfl, ⟨g, k, b, ⟨hN, hP, hV, hG, hT, hM, hw, h15⟩, ⟨hC, hB, hbw⟩⟩, fun i hi _ => upd_n hi⟩
  · have ne : ¬ nI k = 0 := fun z => a ((nI_eq (b := 0) (by omega) (by omega)).mp z)
    have e1 : nI k - 1 = nI (k - 1) := pk_sub (b := 1) (by omega)
    obtain ⟨I, a1, a2, y1, y2⟩ := q_become (T := T) (hC.2.2 (k - 1) (by omega))
    rw [if_neg ne, if_neg ne, e1]
    unfold fX0_takeBack
    rw [hC.2.1, if_neg (fun z => (pos_nI (by omega)).mp z (by omega)), e1, if_pos (by rw [nI_toInt (by omega)]; omega), nI_clamp (by omega), y1, sb_]
    obtain ⟨w', u1, u2⟩ := m_undo_L (M := M) (g := b (k - 1)) (q := k - 1) (J := upd (upd M.1 0 0) 19 (nI (k - 1))) (by omega) upd_s (fun i hi => hB.2.2 (k - 1) (by omega) i hi) 21 0 1000 (M.2 16) (by omega) (by omega) (fun l h => absurd h (by omega))
    have u1' : fX6_undo_L27 M 1000 0 (upd (upd M.1 0 0) 19 (nI (k - 1))) (M.2 16) = some (nI (k - 1), upd (upd M.1 0 0) 19 (nI (k - 1)), w') := u1
    rw [u1']
    refine ⟨_, _, _, _, _, _, _, rfl, rfl, ⟨b (k - 1), k - 1, b, ⟨hN, (hbw (k - 1) (by omega)).1, (hbw (k - 1) (by omega)).2, hG, y2, hM, u2, h15⟩, ⟨⟨by omega, (by dsimp only; first | exact upd_s | (rw [upd_s]; rfl)), fun j hj => hC.2.2 j (by omega)⟩, ⟨by omega, (by show upd (upd M.1 0 0) 19 (nI (k - 1)) 19 = _; rw [upd_s]), fun j hj => hB.2.2 j (by omega)⟩, fun j hj => hbw j (by omega)⟩⟩, fun i h0 h19 => ?_⟩
    rw [upd_n h19, upd_n h0]
end AD
