/-! round, join, hide, undo -/
section AC
variable {N : sN} {g : Nat → Nat} {Q X T U G C E M : dk_O} {CB SB : Nat → dk_O} {k : Nat} {b : Nat → Nat → Nat}
theorem sim_round (hr : rl_N N g G T M) (hb : rl_B N k b C CB M) : ∃ A TI T1 T2 CI CB' J f w B, fX5_round Q T G C CB = some (A, TI, T1, T2, CI, CB') ∧ fX6_round M = some (A, J, f, w, B) ∧ (∃ g' k' b', rl_N N g' G (TI, dk_upA (dk_upA T.2 1 T1) 2 T2) (J, dk_upA (dk_upA (dk_upA M.2 26 f) 16 w) 18 B) ∧ rl_B N k' b' (CI, C.2) CB' (J, dk_upA (dk_upA (dk_upA M.2 26 f) 16 w) 18 B)) ∧ ∀ i, i ≠ 0 → i ≠ 19 → J i = M.1 i := by
  obtain ⟨hN, hP, hV, hG, hT, hM, hw, h15⟩ := hr
  obtain ⟨hC, hB, hbw⟩ := hb
  have l4 := nl_le hP
  unfold fX5_round fX6_round
  rw [q_living hN hP hT, sb_, m_living hN hP hw, sb_]
  by_cases a : sp_nl g = 0
  · rw [if_pos (by rw [a]; rfl), if_pos (by rw [a]; rfl)]
    exact ⟨_, _, _, _, _, _, _, _, _, _, rfl, rfl, ⟨g, k, b, ⟨hN, hP, hV, hG, hT, hM, hw, h15⟩, ⟨hC, hB, hbw⟩⟩, fun i hi _ => upd_n hi⟩
  · have ne : ¬ nI (sp_nl g) = 0 := fun y => a ((nI_eq (b := 0) (by omega) (by omega)).mp y)
    obtain ⟨CI, CB', z1, z2⟩ := q_remember hC hT
    obtain ⟨J, B, x1, x2, x3⟩ := m_note (M := (upd M.1 0 0, M.2)) (k := k) (b := b) hB hw
    have hMJ : sp_RN (J, dk_upA M.2 18 B) N := ⟨(x2 4 (by omega)).trans hM.1, (x2 5 (by omega)).trans hM.2.1, (x2 6 (by omega)).trans hM.2.2.1, hM.2.2.2⟩
    have h27 : J 27 = 15 := (x2 27 (by omega)).trans h15
    obtain ⟨I, a1, a2, y1, y2⟩ := q_round (c := sp_all) hN hP hG hT (fun i hi => holds_15 hi)
    obtain ⟨f, w, u1, u2⟩ := m_round (c := sp_all) (M := (J, dk_upA M.2 18 B)) hN hP hMJ hw (fun i hi => by show fX6_has (J 27) (nI i) = _; rw [h27]; exact has_15 hi)
    have w2 := ro_wP (c := sp_all) hN hP
    rw [if_neg ne, if_neg ne, z1, sb_]
    dsimp only
    rw [y1, sb_, x1, sb_]
    dsimp only
    rw [u1, sb_]
    exact ⟨_, _, _, _, _, _, _, _, _, _, rfl, rfl, ⟨_, _, _, ⟨hN, w2.1, ro_wV hN hP hV, hG, y2, hMJ, u2, h27⟩, ⟨z2, x3, bk_wP hP hV hbw hC.1⟩⟩, fun i h0 h19 => (x2 i h19).trans (upd_n h0)⟩
/-- one more searcher -/
def sp_jo (N : sN) (g : Nat → Nat) : Nat → Nat := sp_up (sp_up (sp_up g (3 + g 1) (sp_h N)) (7 + g 1) 0) 1 (g 1 + 1)
theorem jo_1 : sp_jo N g 1 = g 1 + 1 := up_s
theorem jo_0 : sp_jo N g 0 = g 0 := by unfold sp_jo; rw [up_n (by omega), up_n (by omega), up_n (by omega)]
theorem jo_2 : sp_jo N g 2 = g 2 := by unfold sp_jo; rw [up_n (by omega), up_n (by omega), up_n (by omega)]
theorem jo_3 {s : Nat} (hs : s < 4) : sp_jo N g (3 + s) = if s = g 1 then sp_h N else g (3 + s) := by
  unfold sp_jo
  rw [up_n (by omega), up_n (by omega)]
  by_cases z : s = g 1
  · rw [if_pos z, z, up_s]
  · rw [if_neg z, up_n (by omega)]
theorem jo_7 {s : Nat} (h4 : g 1 < 4) (hs : s < 4) : sp_jo N g (7 + s) = if s = g 1 then 0 else g (7 + s) := by
  unfold sp_jo
  rw [up_n (by omega)]
  by_cases z : s = g 1
  · rw [if_pos z, z, up_s]
  · rw [if_neg z, up_n (by omega), up_n (by omega)]
theorem jo_11 {e : Nat} (h4 : g 1 < 4) : sp_jo N g (11 + e) = g (11 + e) := by
  unfold sp_jo
  rw [up_n (by omega), up_n (by omega), up_n (by omega)]
theorem jo_vis (h4 : g 1 < 4) (p : Nat) : sp_vis N (sp_jo N g) p = sp_vis N g p := vis_cong (fun e _ => by unfold sp_sf; rw [jo_11 h4]) p
theorem jo_wP (hN : sp_wN N) (hP : sp_wP N g) (h4 : g 1 < 4) : sp_wP N (sp_jo N g) := by
  obtain ⟨p0, p1, p2, p3, p4, p5, p6⟩ := hP
  refine ⟨by rw [jo_0]; exact p0, by rw [jo_1]; omega, by rw [jo_1]; omega, fun s hs => ?_, fun s hs => ?_, fun e he => by rw [jo_11 h4]; exact p5 e he, fun s t hs ht => ?_⟩
  · rw [jo_3 hs]
    by_cases z : s = g 1
    · rw [if_pos z]; exact Or.inr hN.2.2.1
    · rw [if_neg z]; exact p3 s hs
  · rw [jo_7 h4 hs]
    by_cases z : s = g 1
    · rw [if_pos z]; exact Or.inl rfl
    · rw [if_neg z, jo_3 hs, if_neg z, jo_1, jo_11 h4]
      rcases p4 s hs with y | ⟨y1, y2, y3⟩
      · exact Or.inl y
      · exact Or.inr ⟨y1, by omega, y3⟩
  · rw [jo_7 h4 hs, jo_7 h4 ht]
    intro h
    by_cases z : s = g 1
    · rw [if_pos z]; exact Or.inl rfl
    · by_cases y : t = g 1
      · rw [if_pos y, if_neg z] at h
        rw [if_neg z]; exact Or.inl h
      · rw [if_neg z, if_neg y] at h
        rw [if_neg z]; exact p6 s t hs ht h
theorem jo_wV (hV : sp_wV N g) (h4 : g 1 < 4) : sp_wV N (sp_jo N g) := by
  refine ⟨by rw [jo_vis h4, jo_0]; exact hV.1, fun s hs hl => ?_⟩
  rw [jo_1] at hs
  rw [jo_7 h4 (by omega), jo_3 (by omega), jo_0]
  by_cases z : s = g 1
  · rw [if_pos z, if_pos z]
    refine ⟨fun _ => ?_, fun y => absurd y (by omega)⟩
    rw [jo_vis h4]
    unfold sp_vis
    simp
  · rw [if_neg z, if_neg z]
    have hl2 : sp_lv g s = true := by
      unfold sp_lv at hl ⊢
      rw [jo_3 (by omega), if_neg z] at hl
      exact hl
    have q := hV.2 s (by omega) hl2
    rw [jo_vis h4, jo_vis h4]
    exact q
end AC
