/-! class and reference, tied to one net and one page; a step, a round -/
section RL
variable {N : sN} {g : Nat → Nat} {Q X T U G C E M : dk_O} {CB SB : Nat → dk_O} {k : Nat} {b : Nat → Nat → Nat}
def rl_N (N : sN) (g : Nat → Nat) (G T M : dk_O) : Prop := sp_wN N ∧ sp_wP N g ∧ sp_wV N g ∧ sp_RG G N ∧ sp_RT T N g ∧ sp_RN M N ∧ sp_RP (M.2 16) g ∧ M.1 27 = 15
def rl_B (N : sN) (k : Nat) (b : Nat → Nat → Nat) (C : dk_O) (CB : Nat → dk_O) (M : dk_O) : Prop := bk_C N C CB k b ∧ bk_M M k b ∧ ∀ j, j < k → sp_wP N (b j) ∧ sp_wV N (b j)
theorem v_cases (v : Int32) {n : Nat} (hn : n < 2 ^ 31) : (v < 0 ∨ nI n ≤ v) ∨ ∃ s, s < n ∧ v = nI s := by
  by_cases h0 : v < 0
  · exact Or.inl (Or.inl h0)
  · by_cases h1 : nI n ≤ v
    · exact Or.inl (Or.inr h1)
    · obtain ⟨j, j1, j2, -⟩ := pk_mu h0 h1 hn
      exact Or.inr ⟨j, j1, j2⟩
theorem m_noS_in (hP : sp_wP N g) (hw : sp_RP (M.2 16) g) {s : Nat} (hs : s < g 1) : fX6_noSearcher M (nI s) = some 0 := by
  have h4 := hP.2.2.1
  unfold fX6_noSearcher
  rw [show dk_rd (M.2 16) 21 1 = some (nI (g 1)) from rd_w hw (k := 1) (by omega), sb_, no_in hs (by omega), sb_]
  rfl
theorem m_noS_out (hP : sp_wP N g) (hw : sp_RP (M.2 16) g) {v : Int32} (h : v < 0 ∨ nI (g 1) ≤ v) : fX6_noSearcher M v = some 1 := by
  have h4 := hP.2.2.1
  have h1 := hP.2.1
  unfold fX6_noSearcher
  rw [show dk_rd (M.2 16) 21 1 = some (nI (g 1)) from rd_w hw (k := 1) (by omega), sb_, no_out (by omega) (by omega) h, sb_]
  rfl
/-- a page more is a book still -/
theorem bk_wP (hP : sp_wP N g) (hV : sp_wV N g) (hb : ∀ j, j < k → sp_wP N (b j) ∧ sp_wV N (b j)) (hk : k ≤ 14) : ∀ j, j < bk_k k → sp_wP N (bk_b k b g j) ∧ sp_wV N (bk_b k b g j) := by
  unfold bk_k bk_b
  by_cases a : k < 14
  · rw [if_pos a, if_pos a]
    intro j hj
    by_cases z : j = k
    · simp only [z, if_true]; exact ⟨hP, hV⟩
    · simp only [z, if_false]; exact hb j (by omega)
  · rw [if_neg a, if_neg a]
    intro j hj
    by_cases z : j = 13
    · simp only [z, if_true]; exact ⟨hP, hV⟩
    · simp only [z, if_false]; exact hb (j + 1) (by omega)
theorem sim_step (hr : rl_N N g G T M) (hb : rl_B N k b C CB M) (v1 v2 : Int32) : ∃ A TI T1 T2 CI CB' J w B, fX5_step Q T G C CB v1 v2 = some (A, TI, T1, T2, CI, CB') ∧ fX6_step M v1 v2 = some (A, J, w, B) ∧ (∃ g' k' b', rl_N N g' G (TI, dk_upA (dk_upA T.2 1 T1) 2 T2) (J, dk_upA (dk_upA M.2 16 w) 18 B) ∧ rl_B N k' b' (CI, C.2) CB' (J, dk_upA (dk_upA M.2 16 w) 18 B)) ∧ ∀ i, i ≠ 0 → i ≠ 19 → J i = M.1 i := by
  obtain ⟨hN, hP, hV, hG, hT, hM, hw, h15⟩ := hr
  obtain ⟨hC, hB, hbw⟩ := hb
  have h4 := hP.2.2.1
  have h8 := hN.2.1
  have hE := hN.2.2.2.1
  have hM0 : sp_RN (upd M.1 0 0, M.2) N := hM
  have keep : ∀ i, i ≠ 0 → i ≠ 19 → upd M.1 0 0 i = M.1 i := fun i hi _ => upd_n hi
  have rest : ∃ g' k' b', rl_N N g' G (T.1, dk_upA (dk_upA T.2 1 (T.2 1)) 2 (T.2 2)) (upd M.1 0 0, dk_upA (dk_upA M.2 16 (M.2 16)) 18 (M.2 18)) ∧ rl_B N k' b' (C.1, C.2) CB (upd M.1 0 0, dk_upA (dk_upA M.2 16 (M.2 16)) 18 (M.2 18)) := ⟨g, k, b, ⟨hN, hP, hV, hG, hT, hM, hw, h15⟩, ⟨hC, hB, hbw⟩⟩
  unfold fX5_step fX6_step
  rcases v_cases v1 (n := g 1) (by omega) with o | ⟨s, hs, rfl⟩
  · rw [q_isS_out hT o, sb_, if_pos rfl, m_noS_out (M := (upd M.1 0 0, M.2)) hP hw o, sb_, if_neg (by decide)]
    exact ⟨_, _, _, _, _, _, _, _, _, rfl, rfl, rest, keep⟩
  · rw [q_isS_in hT h4 hs, sb_, if_neg (by decide), m_noS_in (M := (upd M.1 0 0, M.2)) hP hw hs, sb_, if_pos rfl]
    rcases v_cases v2 (n := sp_E N) (by omega) with o | ⟨e, he, rfl⟩
    · rw [q_isE_out hG o, sb_, if_pos rfl, m_noEdge_out hN hM0 o, sb_, if_neg (by decide)]
      exact ⟨_, _, _, _, _, _, _, _, _, rfl, rfl, rest, keep⟩
    · rw [q_isE_in hG hN he, sb_, if_neg (by decide), m_noEdge_in hN hM0 he, sb_, if_pos rfl, q_canGo hN hP hG hT (by omega) (by omega), sb_, m_canStep hN hP hM0 hw (by omega) (by omega), sb_]
      by_cases a : sp_cs N g s e = true
      · obtain ⟨I, a1, a2, y1, y2⟩ := q_go hN hP hG hT a
        obtain ⟨CI, CB', z1, z2⟩ := q_remember hC hT
        obtain ⟨J, B, x1, x2, x3⟩ := m_note (M := (upd M.1 0 0, M.2)) (k := k) (b := b) hB hw
        have c := cs_iff.mp a
        have hMJ : sp_RN (J, dk_upA M.2 18 B) N := ⟨(x2 4 (by omega)).trans hM.1, (x2 5 (by omega)).trans hM.2.1, (x2 6 (by omega)).trans hM.2.2.1, hM.2.2.2⟩
        obtain ⟨w', u1, u2⟩ := m_stepOn hN hP hMJ hw (by omega) he c.2.2.1
        have hP2 := wP_st hN hP a
        have hV2 := wV_st hN hP hV a
        have hat := wP_at hN hP2 (show s < 4 by omega)
        have h1 : sp_st N g s e 1 = g 1 := st_many (by omega)
        rw [if_pos a, if_neg (by decide), z1, sb_]
        dsimp only
        rw [y1, sb_]
        dsimp only
        rw [q_placeOf_in (G := G) hP2 y2 (by rw [h1]; exact hs), sb_, x1, sb_]
        dsimp only
        rw [u1, sb_, m_lives u2 (by omega) (by omega), sb_]
        have fin : rl_N N (sp_st N g s e) G (I, dk_upA (dk_upA T.2 1 a1) 2 a2) (J, dk_upA (dk_upA M.2 16 w') 18 B) ∧ rl_B N (bk_k k) (bk_b k b g) (CI, C.2) CB' (J, dk_upA (dk_upA M.2 16 w') 18 B) := ⟨⟨hN, hP2, hV2, hG, y2, hMJ, u2, (x2 27 (by omega)).trans h15⟩, ⟨z2, x3, bk_wP hP hV hbw hC.1⟩⟩
        have keep2 : ∀ i, i ≠ 0 → i ≠ 19 → J i = M.1 i := fun i h0 h19 => (x2 i h19).trans (upd_n h0)
        by_cases l : sp_lv (sp_st N g s e) s = true
        · rw [if_pos l, if_neg (by decide), i_3, rd_w u2 (by omega), sb_, pl_n (lv_true.mp l)]
          exact ⟨_, _, _, _, _, _, _, _, _, rfl, rfl, ⟨_, _, _, fin⟩, keep2⟩
        · have l9 : sp_st N g s e (3 + s) = 9 := lv_false.mp (by simpa using l)
          rw [if_neg l, if_pos rfl, l9]
          exact ⟨_, _, _, _, _, _, _, _, _, rfl, rfl, ⟨_, _, _, fin⟩, keep2⟩
      · rw [if_neg a, if_pos rfl, if_pos rfl]
        exact ⟨_, _, _, _, _, _, _, _, _, rfl, rfl, rest, keep⟩
end RL
