/-! rounds till it is known -/
section TI
variable {N : sN} {g : Nat → Nat} {T G M : dk_O}
def sp_K (N : sN) (g : Nat → Nat) : Nat := fa_first (fun k => sp_kn N (sp_it N sp_all g k)) 61
def sp_tn (N : sN) (g : Nat → Nat) : Int32 := if sp_K N g < 61 then nI (sp_K N g) else -9
def sp_tg (N : sN) (g : Nat → Nat) : Nat → Nat := if sp_K N g < 61 then sp_it N sp_all g (sp_K N g) else sp_it N sp_all g 61
theorem K_at {k : Nat} (hk : k < 61) (h : sp_kn N (sp_it N sp_all g k) = true) (hn : ∀ j, j < k → sp_kn N (sp_it N sp_all g j) = false) : sp_tn N g = nI k ∧ sp_tg N g = sp_it N sp_all g k := by
  have e : sp_K N g = k := first_eq (f := fun k => sp_kn N (sp_it N sp_all g k)) hk h hn
  unfold sp_tn sp_tg
  rw [e, if_pos hk, if_pos hk]
  exact ⟨rfl, rfl⟩
theorem K_no (hn : ∀ j, j < 61 → sp_kn N (sp_it N sp_all g j) = false) : sp_tn N g = -9 ∧ sp_tg N g = sp_it N sp_all g 61 := by
  have e : sp_K N g = 61 := first_none (f := fun k => sp_kn N (sp_it N sp_all g k)) hn
  unfold sp_tn sp_tg
  rw [e, if_neg (by omega), if_neg (by omega)]
  exact ⟨rfl, rfl⟩
theorem tg_wP (hN : sp_wN N) (hP : sp_wP N g) : sp_wP N (sp_tg N g) := by
  unfold sp_tg
  split
  · exact (it_wP hN hP _).1
  · exact (it_wP hN hP _).1
theorem q_till_L (hN : sp_wN N) (hP : sp_wP N g) (hV : sp_wV N g) (hG : sp_RG G N) : ∀ d k fu (I a1 a2 : Nat → Int32), k + d = 60 → d < fu → sp_RT (I, dk_upA (dk_upA T.2 1 a1) 2 a2) N (sp_it N sp_all g k) → (∀ j, j < k → sp_kn N (sp_it N sp_all g j) = false ∧ (sp_ro N sp_all (sp_it N sp_all g j)).2 ≠ 0) → ∃ I' a1' a2', fX3_playTillKnown_L2 T G fu (nI k) I a1 a2 = some (sp_tn N g, I', a1', a2') ∧ sp_RT (I', dk_upA (dk_upA T.2 1 a1') 2 a2') N (sp_tg N g)
  | 0, k, fu, I, a1, a2, h1, h2, hT, hj => by
    obtain ⟨fu, rfl⟩ : ∃ k, fu = k + 1 := ⟨fu - 1, by omega⟩
    have hk : k = 60 := by omega
    subst hk
    rw [fX3_playTillKnown_L2, if_pos (show (60 : Int32) ≤ nI 60 by decide), q_isKnown hN hG hT, sb_]
    by_cases a : sp_kn N (sp_it N sp_all g 60) = true
    · have e := K_at (by omega) a (fun j hj2 => (hj j hj2).1)
      rw [if_pos a, if_neg (by decide), e.1, e.2]
      exact ⟨I, a1, a2, rfl, hT⟩
    · exfalso
      obtain ⟨k, k1, k2 | k2⟩ := ends56 hN hP hV
      · rw [(hj k (by omega)).1] at k2; cases k2
      · exact (hj k (by omega)).2 k2
  | d + 1, k, fu, I, a1, a2, h1, h2, hT, hj => by
    obtain ⟨fu, rfl⟩ : ∃ k, fu = k + 1 := ⟨fu - 1, by omega⟩
    rw [fX3_playTillKnown_L2, if_neg (show ¬ (60 : Int32) ≤ nI k from nI_ge (b := 60) (by omega) (by omega)), q_isKnown hN hG hT, sb_]
    by_cases a : sp_kn N (sp_it N sp_all g k) = true
    · have e := K_at (by omega) a (fun j hj2 => (hj j hj2).1)
      rw [if_pos a, if_neg (by decide), e.1, e.2]
      exact ⟨I, a1, a2, rfl, hT⟩
    · have af : sp_kn N (sp_it N sp_all g k) = false := by simpa using a
      have hw := it_wP (c := sp_all) hN hP k
      obtain ⟨I2, b1, b2, y1, y2⟩ := q_round (c := sp_all) hN hw.1 hG hT (fun i hi => holds_15 hi)
      have h4 := hw.1.2.2.1
      have hle : (sp_ro N sp_all (sp_it N sp_all g k)).2 ≤ 4 := ro_le hw.1
      rw [if_neg a, if_pos rfl, y1, sb_]
      dsimp only
      by_cases b : (sp_ro N sp_all (sp_it N sp_all g k)).2 = 0
      · have all : ∀ j, j < 61 → sp_kn N (sp_it N sp_all g j) = false := by
          intro j hj2
          rcases Nat.lt_or_ge j k with z | z
          · exact (hj j z).1
          · have e := it_none b (j - k)
            rw [show k + (j - k) = j by omega] at e
            rw [e]; exact af
        have e := K_no all
        rw [b, if_pos (show nI 0 = 0 from rfl), e.1, e.2]
        refine ⟨I2, b1, b2, rfl, ?_⟩
        have e61 := it_none b (61 - k)
        rw [show k + (61 - k) = 61 by omega] at e61
        rw [e61]
        rw [ro_none b] at y2
        exact y2
      · rw [if_neg (show ¬ nI (sp_ro N sp_all (sp_it N sp_all g k)).2 = 0 from fun z => b ((nI_eq (b := 0) (by omega) (by omega)).mp z)), nI_1]
        refine q_till_L hN hP hV hG d (k + 1) fu I2 b1 b2 (by omega) (by omega) y2 (fun j hj2 => ?_)
        by_cases z : j = k
        · rw [z]; exact ⟨af, b⟩
        · exact hj j (by omega)
theorem q_till (hN : sp_wN N) (hP : sp_wP N g) (hV : sp_wV N g) (hG : sp_RG G N) (hT : sp_RT T N g) : ∃ I a1 a2, fX3_playTillKnown T G = some (sp_tn N g, I, a1, a2) ∧ sp_RT (I, dk_upA (dk_upA T.2 1 a1) 2 a2) N (sp_tg N g) :=
  q_till_L hN hP hV hG 60 0 1000 T.1 (T.2 1) (T.2 2) (by omega) (by omega) hT (fun j hj => absurd hj (by omega))
theorem RN_17 {r w : Nat → Int32} (h : sp_RN M N) : sp_RN (M.1, dk_upA (dk_upA M.2 26 r) 17 w) N := h
theorem m_trial_L (hN : sp_wN N) (hP : sp_wP N g) (hM : sp_RN M N) (h15 : M.1 27 = 15) : ∀ d k fu (r w : Nat → Int32), k + d = 61 → d < fu → sp_RP w (sp_it N sp_all g k) → (∀ j, j < k → sp_kn N (sp_it N sp_all g j) = false) → ∃ r' w', fX6_runTrial_L2 M fu (nI k) r w = some (sp_tn N g, r', w') ∧ sp_RP w' (sp_tg N g)
  | 0, k, fu, r, w, h1, h2, hw, hj => by
    obtain ⟨fu, rfl⟩ : ∃ k, fu = k + 1 := ⟨fu - 1, by omega⟩
    have hk : k = 61 := by omega
    subst hk
    have e := K_no hj
    rw [fX6_runTrial_L2, if_pos (show (61 : Int32) ≤ nI 61 by decide), e.1, e.2]
    exact ⟨r, w, rfl, hw⟩
  | d + 1, k, fu, r, w, h1, h2, hw, hj => by
    obtain ⟨fu, rfl⟩ : ∃ k, fu = k + 1 := ⟨fu - 1, by omega⟩
    have hq := it_wP (c := sp_all) hN hP k
    rw [fX6_runTrial_L2, if_neg (show ¬ (61 : Int32) ≤ nI k from nI_ge (b := 61) (by omega) (by omega)), m_isKnown hN hq.1 (RN_17 hM) hw, sb_]
    by_cases a : sp_kn N (sp_it N sp_all g k) = true
    · have e := K_at (by omega) a hj
      rw [if_pos a, if_neg (by decide), e.1, e.2]
      exact ⟨r, w, rfl, hw⟩
    · have af : sp_kn N (sp_it N sp_all g k) = false := by simpa using a
      obtain ⟨r2, w2, y1, y2⟩ := m_round (c := sp_all) hN hq.1 (RN_17 (r := r) (w := w) hM) hw (fun i hi => by rw [h15]; exact has_15 hi)
      rw [if_neg a, if_pos rfl, y1, sb_]
      dsimp only
      rw [nI_1]
      refine m_trial_L hN hP hM h15 d (k + 1) fu r2 w2 (by omega) (by omega) y2 (fun j hj2 => ?_)
      by_cases z : j = k
      · rw [z]; exact af
      · exact hj j (by omega)
theorem m_trial (hN : sp_wN N) (hP : sp_wP N g) (hM : sp_RN M N) (h15 : M.1 27 = 15) (hw : sp_RP (M.2 17) g) : ∃ r w, fX6_runTrial M = some (sp_tn N g, r, w) ∧ sp_RP w (sp_tg N g) :=
  m_trial_L hN hP hM h15 61 0 1000 (M.2 26) (M.2 17) (by omega) (by omega) hw (fun j hj => absurd hj (by omega))
end TI
