/-! some rounds later: who lives, what is visited -/
section BE
variable {N : sN} {g : Nat → Nat} {Q T U G M E : dk_O} {c : Nat → Bool}
theorem q_beh_L (hN : sp_wN N) (hP : sp_wP N g) (hG : sp_RG G N) {r : Nat} (hr : r < 100) : ∀ d k fu (I a1 a2 : Nat → Int32), k + d = r → d < fu → sp_RT (I, dk_upA (dk_upA U.2 1 a1) 2 a2) N (sp_it N sp_all g k) → ∃ I' a1' a2', fX5_livingBehind_L14 Q T G U fu (nI r) (nI k) I a1 a2 = some (nI (sp_nl (sp_it N sp_all g r)), I', a1', a2')
  | 0, k, fu, I, a1, a2, h1, h2, hT => by
    obtain ⟨fu, rfl⟩ : ∃ k, fu = k + 1 := ⟨fu - 1, by omega⟩
    rw [fX5_livingBehind_L14, if_pos (nI_le (by omega) (by omega)), q_living hN (it_wP hN hP k).1 hT, sb_, show k = r by omega]
    exact ⟨_, _, _, rfl⟩
  | d + 1, k, fu, I, a1, a2, h1, h2, hT => by
    obtain ⟨fu, rfl⟩ : ∃ k, fu = k + 1 := ⟨fu - 1, by omega⟩
    obtain ⟨I2, b1, b2, y1, y2⟩ := q_round (c := sp_all) hN (it_wP hN hP k).1 hG hT (fun i hi => holds_15 hi)
    rw [fX5_livingBehind_L14, if_neg (nI_ge (by omega) (by omega)), y1, sb_]
    dsimp only
    rw [nI_1]
    exact q_beh_L hN hP hG hr d (k + 1) fu I2 b1 b2 (by omega) (by omega) y2
theorem q_behind (hN : sp_wN N) (hP : sp_wP N g) (hG : sp_RG G N) (hT : sp_RT T N g) {p r : Nat} (hf : sp_ft N g p = true) (hr : r < 100) : ∃ I a1 a2, fX5_livingBehind Q T G U (nI p) (nI r) = some (nI (sp_nl (sp_it N sp_all (sp_up g 0 p) r)), I, a1, a2) := by
  obtain ⟨I2, b1, b2, y1, y2⟩ := q_suppose (T := U) (p := p) hT
  unfold fX5_livingBehind
  rw [y1, sb_]
  exact q_beh_L hN (ft_wP hP hf) hG hr r 0 1000 I2 b1 b2 (by omega) (by omega) y2
theorem m_beh_L (hN : sp_wN N) (hP : sp_wP N g) (hM : sp_RN M N) (h15 : M.1 27 = 15) {r : Nat} (hr : r < 100) {x : Int32} : ∀ d k fu (f u : Nat → Int32), k + d = r → d < fu → sp_RP u (sp_it N sp_all g k) → ∃ f' u', fX6_livingBehind_L20 M fu (nI r) (nI k) f u = some (nI (sp_nl (sp_it N sp_all g r)), f', u')
  | 0, k, fu, f, u, h1, h2, hw => by
    obtain ⟨fu, rfl⟩ : ∃ k, fu = k + 1 := ⟨fu - 1, by omega⟩
    rw [fX6_livingBehind_L20, if_pos (nI_le (by omega) (by omega)), m_living hN (it_wP hN hP k).1 hw, sb_, show k = r by omega]
    exact ⟨_, _, rfl⟩
  | d + 1, k, fu, f, u, h1, h2, hw => by
    obtain ⟨fu, rfl⟩ : ∃ k, fu = k + 1 := ⟨fu - 1, by omega⟩
    obtain ⟨f2, u2, y1, y2⟩ := m_round (c := sp_all) hN (it_wP hN hP k).1 (RN_17 (r := f) (w := u) hM) hw (fun i hi => by rw [h15]; exact has_15 hi)
    rw [fX6_livingBehind_L20, if_neg (nI_ge (by omega) (by omega)), y1, sb_]
    dsimp only
    rw [nI_1]
    exact m_beh_L hN hP hM h15 hr (x := x) d (k + 1) fu f2 u2 (by omega) (by omega) y2
theorem m_behind (hN : sp_wN N) (hP : sp_wP N g) (hM : sp_RN M N) (h15 : M.1 27 = 15) (hw : sp_RP (M.2 16) g) {p r : Nat} (hf : sp_ft N g p = true) (hr : r < 100) : ∃ f u, fX6_livingBehind M (nI p) (nI r) = some (nI (sp_nl (sp_it N sp_all (sp_up g 0 p) r)), f, u) := by
  obtain ⟨u2, y1, y2⟩ := m_lay (u := M.2 17) hw
  unfold fX6_livingBehind
  rw [y1, sb_, show dk_wr u2 21 0 (nI p) = some (upd u2 0 (nI p)) from wr_nI (k := 0) (by omega) (by omega), sb_]
  exact m_beh_L hN (ft_wP hP hf) hM h15 hr (x := 0) r 0 1000 (M.2 26) _ (by omega) (by omega) (RP_up y2)
theorem q_vby_L (hN : sp_wN N) (hP : sp_wP N g) (hG : sp_RG G N) {x1 : Int32} (hc : ∀ i, i < 4 → fX5_holds x1 (nI i) = some (if c i = true then 1 else 0)) : ∀ d k fu (I a1 a2 : Nat → Int32), k + d = 6 → d < fu → sp_RT (I, dk_upA (dk_upA U.2 1 a1) 2 a2) N (sp_it N c g k) → ∃ I' a1' a2', fX5_visitedBy_L13 Q T G U fu x1 (nI k) I a1 a2 = some (nI (fb_ct (sp_vis N (sp_it N c g 6)) 8), I', a1', a2')
  | 0, k, fu, I, a1, a2, h1, h2, hT => by
    obtain ⟨fu, rfl⟩ : ∃ k, fu = k + 1 := ⟨fu - 1, by omega⟩
    rw [fX5_visitedBy_L13, if_pos (show (6 : Int32) ≤ nI k from nI_le (a := 6) (by omega) (by omega)), show I 8 = ms (sp_vis N (sp_it N c g k)) 8 from hT.2.2.2.2.2.1, bit_ms8, sb_, show k = 6 by omega]
    exact ⟨_, _, _, rfl⟩
  | d + 1, k, fu, I, a1, a2, h1, h2, hT => by
    obtain ⟨fu, rfl⟩ : ∃ k, fu = k + 1 := ⟨fu - 1, by omega⟩
    obtain ⟨I2, b1, b2, y1, y2⟩ := q_round (c := c) hN (it_wP hN hP k).1 hG hT hc
    rw [fX5_visitedBy_L13, if_neg (show ¬ (6 : Int32) ≤ nI k from nI_ge (b := 6) (by omega) (by omega)), y1, sb_]
    dsimp only
    rw [nI_1]
    exact q_vby_L hN hP hG hc d (k + 1) fu I2 b1 b2 (by omega) (by omega) y2
def sp_vb (N : sN) (g : Nat → Nat) (c : Nat → Bool) : Nat := fb_ct (sp_vis N (sp_it N c g 6)) 8
theorem q_visitedBy (hN : sp_wN N) (hP : sp_wP N g) (hG : sp_RG G N) (hT : sp_RT T N g) {x1 : Int32} (hc : ∀ i, i < 4 → fX5_holds x1 (nI i) = some (if c i = true then 1 else 0)) : ∃ I a1 a2, fX5_visitedBy Q T G U x1 = some (nI (sp_vb N g c), I, a1, a2) := by
  obtain ⟨I2, b1, b2, y1, y2⟩ := q_become (T := U) hT
  unfold fX5_visitedBy
  rw [y1, sb_]
  exact q_vby_L hN hP hG hc 6 0 1000 I2 b1 b2 (by omega) (by omega) y2
theorem m_vby_L (hN : sp_wN N) (hP : sp_wP N g) {J : Nat → Int32} (hM : sp_RN (J, M.2) N) (hc : ∀ i, i < 4 → fX6_has (J 27) (nI i) = some (if c i = true then 1 else 0)) : ∀ d k fu (f u : Nat → Int32), k + d = 6 → d < fu → sp_RP u (sp_it N c g k) → ∃ f' u', fX6_visitedBy_L18 M fu (nI k) J f u = some (nI (sp_vb N g c), upd J 27 15, f', u')
  | 0, k, fu, f, u, h1, h2, hw => by
    obtain ⟨fu, rfl⟩ : ∃ k, fu = k + 1 := ⟨fu - 1, by omega⟩
    have hM2 : sp_RN (upd J 27 15, dk_upA (dk_upA M.2 26 f) 17 u) N := hM
    rw [fX6_visitedBy_L18, if_pos (show (6 : Int32) ≤ nI k from nI_le (a := 6) (by omega) (by omega)), m_visited hN (it_wP hN hP k).1 hM2 hw, sb_, ones_ms8, sb_, show k = 6 by omega]
    exact ⟨_, _, rfl⟩
  | d + 1, k, fu, f, u, h1, h2, hw => by
    obtain ⟨fu, rfl⟩ : ∃ k, fu = k + 1 := ⟨fu - 1, by omega⟩
    have hM2 : sp_RN (J, dk_upA (dk_upA M.2 26 f) 17 u) N := hM
    obtain ⟨f2, u2, y1, y2⟩ := m_round (c := c) hN (it_wP hN hP k).1 hM2 hw hc
    rw [fX6_visitedBy_L18, if_neg (show ¬ (6 : Int32) ≤ nI k from nI_ge (b := 6) (by omega) (by omega)), y1, sb_]
    dsimp only
    rw [nI_1]
    exact m_vby_L hN hP hM hc d (k + 1) fu f2 u2 (by omega) (by omega) y2
theorem m_visitedBy (hN : sp_wN N) (hP : sp_wP N g) (hM : sp_RN M N) (hw : sp_RP (M.2 16) g) {x : Int32} (hc : ∀ i, i < 4 → fX6_has x (nI i) = some (if c i = true then 1 else 0)) : ∃ f u, fX6_visitedBy M x = some (nI (sp_vb N g c), upd (upd M.1 27 x) 27 15, f, u) := by
  obtain ⟨u2, y1, y2⟩ := m_lay (u := M.2 17) hw
  unfold fX6_visitedBy
  rw [y1, sb_]
  exact m_vby_L (J := upd M.1 27 x) hN hP hM hc 6 0 1000 (M.2 26) u2 (by omega) (by omega) y2
end BE
