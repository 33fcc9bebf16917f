/-! a round: of the class and of the reference -/
section RO
variable {N : sN} {T G M : dk_O} {c : Nat → Bool}
theorem st_many {g : Nat → Nat} {s e : Nat} (hs : s < 4) : sp_st N g s e 1 = g 1 := (st_all hs).2.1
/-- what a round keeps -/
theorem rd_wP (hN : sp_wN N) : ∀ d i (z : (Nat → Nat) × Nat), i + d = z.1 1 → sp_wP N z.1 → sp_wP N (sp_rd N c d i z).1 ∧ (sp_rd N c d i z).1 1 = z.1 1 ∧ (sp_rd N c d i z).1 0 = z.1 0
  | 0, i, z, h, hP => ⟨hP, rfl, rfl⟩
  | d + 1, i, z, h, hP => by
    have h4 := hP.2.2.1
    rw [sp_rd]
    by_cases a : c i = true ∧ sp_ch N z.1 i < sp_E N
    · rw [if_pos a]
      have hc := ch_cs hN hP (show i < z.1 1 by omega) a.2
      have e1 : sp_st N z.1 i (sp_ch N z.1 i) 1 = z.1 1 := st_many (by omega)
      have e0 : sp_st N z.1 i (sp_ch N z.1 i) 0 = z.1 0 := (st_all (by omega)).1
      have := rd_wP hN d (i + 1) (sp_st N z.1 i (sp_ch N z.1 i), z.2 + 1) (by show i + 1 + d = sp_st N z.1 i (sp_ch N z.1 i) 1; omega) (wP_st hN hP hc)
      exact ⟨this.1, this.2.1.trans e1, this.2.2.trans e0⟩
    · rw [if_neg a]
      exact rd_wP hN d (i + 1) z (by omega) hP
theorem ro_wP {g : Nat → Nat} (hN : sp_wN N) (hP : sp_wP N g) : sp_wP N (sp_ro N c g).1 ∧ (sp_ro N c g).1 1 = g 1 ∧ (sp_ro N c g).1 0 = g 0 := rd_wP hN (g 1) 0 (g, 0) (Nat.zero_add _) hP
theorem it_wP {g : Nat → Nat} (hN : sp_wN N) (hP : sp_wP N g) : ∀ k, sp_wP N (sp_it N c g k) ∧ sp_it N c g k 1 = g 1 ∧ sp_it N c g k 0 = g 0
  | 0 => ⟨hP, rfl, rfl⟩
  | k + 1 => by
    have h := it_wP hN hP k
    have h2 := ro_wP (c := c) hN h.1
    exact ⟨h2.1, h2.2.1.trans h.2.1, h2.2.2.trans h.2.2⟩
theorem q_round_L (hN : sp_wN N) (hG : sp_RG G N) {x1 : Int32} (hc : ∀ i, i < 4 → fX5_holds x1 (nI i) = some (if c i = true then 1 else 0)) : ∀ d i fu n (g : Nat → Nat) (I a1 a2 : Nat → Int32), i + d = g 1 → d < fu → sp_wP N g → sp_RT (I, dk_upA (dk_upA T.2 1 a1) 2 a2) N g → ∃ I' a1' a2', fX3_playRound_L4 T G fu x1 (nI n) (nI i) I a1 a2 = some (nI (sp_rd N c d i (g, n)).2, I', a1', a2') ∧ sp_RT (I', dk_upA (dk_upA T.2 1 a1') 2 a2') N (sp_rd N c d i (g, n)).1
  | 0, i, fu, n, g, I, a1, a2, h1, h2, hP, hT => by
    have h4 := hP.2.2.1
    obtain ⟨fu, rfl⟩ : ∃ k, fu = k + 1 := ⟨fu - 1, by omega⟩
    refine ⟨I, a1, a2, ?_, hT⟩
    rw [fX3_playRound_L4, show I 3 = nI (g 1) from hT.1, if_pos (nI_le (by omega) (by omega))]
    rfl
  | d + 1, i, fu, n, g, I, a1, a2, h1, h2, hP, hT => by
    have h4 := hP.2.2.1
    have hE := hN.2.2.2.1
    obtain ⟨fu, rfl⟩ : ∃ k, fu = k + 1 := ⟨fu - 1, by omega⟩
    rw [fX3_playRound_L4, show I 3 = nI (g 1) from hT.1, if_neg (nI_ge (by omega) (by omega)), hc i (by omega), sb_, sp_rd]
    by_cases b1 : c i = true
    · rw [if_pos b1, if_neg (by decide), q_care hN hP hG hT (by omega), sb_]
      by_cases b2 : sp_ch N g i < sp_E N
      · have hs := ch_cs hN hP (show i < g 1 by omega) b2
        obtain ⟨I2, a3, a4, y1, y2⟩ := q_go hN hP hG hT hs
        rw [if_pos b2, if_neg (m9_ne (by omega)), y1, sb_, if_pos ⟨b1, b2⟩]
        dsimp only
        rw [nI_1, nI_1]
        exact q_round_L hN hG hc d (i + 1) fu (n + 1) (sp_st N g i (sp_ch N g i)) I2 a3 a4 (by rw [st_many (by omega)]; omega) (by omega) (wP_st hN hP hs) y2
      · rw [if_neg b2, if_pos rfl, if_neg (fun z => b2 z.2), nI_1]
        exact q_round_L hN hG hc d (i + 1) fu n g I a1 a2 (by omega) (by omega) hP hT
    · rw [if_neg b1, if_pos rfl, if_neg (fun z => b1 z.1), nI_1]
      exact q_round_L hN hG hc d (i + 1) fu n g I a1 a2 (by omega) (by omega) hP hT
theorem q_round {g : Nat → Nat} (hN : sp_wN N) (hP : sp_wP N g) (hG : sp_RG G N) (hT : sp_RT T N g) {x1 : Int32} (hc : ∀ i, i < 4 → fX5_holds x1 (nI i) = some (if c i = true then 1 else 0)) : ∃ I a1 a2, fX3_playRound T G x1 = some (nI (sp_ro N c g).2, I, a1, a2) ∧ sp_RT (I, dk_upA (dk_upA T.2 1 a1) 2 a2) N (sp_ro N c g).1 := by
  have h4 := hP.2.2.1
  exact q_round_L hN hG hc (g 1) 0 1000 0 g T.1 (T.2 1) (T.2 2) (by omega) (by omega) hP hT
theorem holds_15 {i : Nat} (hi : i < 4) : fX5_holds 15 (nI i) = some (if sp_all i = true then 1 else 0) := by
  have h := holds_ms (f := sp_all) (k := 4) (i := i) (by omega) (by omega)
  rw [show ms sp_all 4 = (15 : Int32) from rfl] at h
  rw [h]
  simp [hi]
theorem has_15 {i : Nat} (hi : i < 4) : fX6_has 15 (nI i) = some (if sp_all i = true then 1 else 0) := by
  have h := has_ms (f := sp_all) (k := 4) (i := i) (by omega) (by omega)
  rw [show ms sp_all 4 = (15 : Int32) from rfl] at h
  rw [h]
  simp [hi]
theorem m_round_L (hN : sp_wN N) (hM : sp_RN M N) {w0 : Nat → Int32} (hc : ∀ i, i < 4 → fX6_has (M.1 27) (nI i) = some (if c i = true then 1 else 0)) : ∀ d i fu n (g : Nat → Nat) (r w : Nat → Int32), i + d = g 1 → d < fu → sp_wP N g → sp_RP w g → ∃ r' w', fX6_roundOn_L4 M w0 fu (nI n) (nI i) r w = some (nI (sp_rd N c d i (g, n)).2, r', w') ∧ sp_RP w' (sp_rd N c d i (g, n)).1
  | 0, i, fu, n, g, r, w, h1, h2, hP, hw => by
    have h4 := hP.2.2.1
    obtain ⟨fu, rfl⟩ : ∃ k, fu = k + 1 := ⟨fu - 1, by omega⟩
    refine ⟨r, w, ?_, hw⟩
    rw [fX6_roundOn_L4, show dk_rd w 21 1 = some (nI (g 1)) from rd_w hw (k := 1) (by omega), sb_, if_pos (nI_le (by omega) (by omega))]
    rfl
  | d + 1, i, fu, n, g, r, w, h1, h2, hP, hw => by
    have h4 := hP.2.2.1
    have hE := hN.2.2.2.1
    obtain ⟨fu, rfl⟩ : ∃ k, fu = k + 1 := ⟨fu - 1, by omega⟩
    rw [fX6_roundOn_L4, show dk_rd w 21 1 = some (nI (g 1)) from rd_w hw (k := 1) (by omega), sb_, if_neg (nI_ge (by omega) (by omega)), hc i (by omega), sb_, sp_rd]
    by_cases b1 : c i = true
    · obtain ⟨r2, y⟩ := m_chosen hN hP (RN_26 (r := r) hM) hw (s := i) (by omega)
      rw [if_pos b1, if_neg (by decide), y, sb_]
      dsimp only
      rw [fX6_roundOn_L33]
      by_cases b2 : sp_ch N g i < sp_E N
      · have hs := ch_cs hN hP (show i < g 1 by omega) b2
        obtain ⟨w2, y1, y2⟩ := m_stepOn hN hP (RN_26 (r := r2) hM) hw (s := i) (by omega) b2 (cs_iff.mp hs).2.2.1
        rw [if_pos b2, if_neg (m9_ne (by omega)), y1, sb_, if_pos ⟨b1, b2⟩, nI_1, nI_1]
        exact m_round_L hN hM hc d (i + 1) fu (n + 1) (sp_st N g i (sp_ch N g i)) r2 w2 (by rw [st_many (by omega)]; omega) (by omega) (wP_st hN hP hs) y2
      · rw [if_neg b2, if_pos rfl, if_neg (fun z => b2 z.2), nI_1]
        exact m_round_L hN hM hc d (i + 1) fu n g r2 w (by omega) (by omega) hP hw
    · rw [if_neg b1, if_pos rfl, if_neg (fun z => b1 z.1), fX6_roundOn_L33, if_pos rfl, nI_1]
      exact m_round_L hN hM hc d (i + 1) fu n g r w (by omega) (by omega) hP hw
theorem m_round {g : Nat → Nat} {w : Nat → Int32} (hN : sp_wN N) (hP : sp_wP N g) (hM : sp_RN M N) (hw : sp_RP w g) (hc : ∀ i, i < 4 → fX6_has (M.1 27) (nI i) = some (if c i = true then 1 else 0)) : ∃ r' w', fX6_roundOn M w = some (nI (sp_ro N c g).2, r', w') ∧ sp_RP w' (sp_ro N c g).1 := by
  have h4 := hP.2.2.1
  exact m_round_L hN hM hc (g 1) 0 1000 0 g (M.2 26) w (by omega) (by omega) hP hw
end RO
