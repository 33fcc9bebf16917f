/-! the worst place -/
section WO
variable {N : sN} {g : Nat → Nat} {Q T U G M : dk_O}
def sp_wo (N : sN) (g : Nat → Nat) : Nat → Int32 × Nat
  | 0 => (-9, 0)
  | i + 1 => if sp_ft N g i = true ∧ (sp_wo N g i).2 < sp_K N (sp_up g 0 i) + 1 then (nI i, sp_K N (sp_up g 0 i) + 1) else sp_wo N g i
def wo_c (m : Nat) : Int32 := if m = 0 then -1 else nI (m - 1)
def wo_e (k : Nat) : Int32 := if k < 61 then nI k else 99
def wo_m (m : Nat) : Int32 := if m = 0 then -1 else wo_e (m - 1)
theorem wo_cl : ∀ k, k < 62 → ∀ m, m < 63 → (nI k ≤ wo_c m ↔ ¬ m < k + 1) := by decide +kernel
theorem wo_ml : ∀ k, k < 62 → ∀ m, m < 63 → (wo_e k ≤ wo_m m ↔ ¬ m < k + 1) := by decide +kernel
theorem K_le : sp_K N g ≤ 61 := fa_first_le _ _
theorem wo_le : ∀ i, (sp_wo N g i).2 < 63
  | 0 => by show 0 < 63; omega
  | i + 1 => by
    have := wo_le i
    have k := K_le (N := N) (g := sp_up g 0 i)
    rw [sp_wo]
    split
    · show sp_K N (sp_up g 0 i) + 1 < 63; omega
    · exact this
theorem ft_lt {p : Nat} (h : sp_ft N g p = true) : p < sp_n N := by
  unfold sp_ft sp_mb at h
  simp only [Bool.and_eq_true, decide_eq_true_eq] at h
  exact h.1.1
theorem wo_n (hN : sp_wN N) : ∀ d, sp_wo N g (sp_n N + d) = sp_wo N g (sp_n N)
  | 0 => rfl
  | d + 1 => by
    show (if sp_ft N g (sp_n N + d) = true ∧ _ then _ else sp_wo N g (sp_n N + d)) = _
    rw [if_neg, wo_n hN d]
    intro z
    have := ft_lt z.1
    omega
theorem q_worst_L (hN : sp_wN N) (hP : sp_wP N g) (hV : sp_wV N g) (hG : sp_RG G N) (hT : sp_RT T N g) : ∀ d i fu (I a1 a2 : Nat → Int32), i + d = 8 → d < fu → ∃ I' a1' a2', fX5_worstPlace_L16 Q T G U fu (ms (sp_ft N g) 8) (sp_wo N g i).1 (wo_c (sp_wo N g i).2) (nI i) I a1 a2 = some ((sp_wo N g 8).1, I', a1', a2')
  | 0, i, fu, I, a1, a2, h1, h2 => by
    obtain ⟨fu, rfl⟩ : ∃ k, fu = k + 1 := ⟨fu - 1, by omega⟩
    rw [fX5_worstPlace_L16, if_pos (show (8 : Int32) ≤ nI i from nI_le (a := 8) (by omega) (by omega)), show i = 8 by omega]
    exact ⟨_, _, _, rfl⟩
  | d + 1, i, fu, I, a1, a2, h1, h2 => by
    obtain ⟨fu, rfl⟩ : ∃ k, fu = k + 1 := ⟨fu - 1, by omega⟩
    rw [fX5_worstPlace_L16, if_neg (show ¬ (8 : Int32) ≤ nI i from nI_ge (b := 8) (by omega) (by omega)), holds_ms (by omega) (by omega), sb_, nI_1]
    have hi8 : decide (i < 8) = true := by simp; omega
    have ih := fun I a1 a2 => q_worst_L hN hP hV hG hT d (i + 1) fu I a1 a2 (by omega) (by omega)
    rw [hi8, Bool.true_and]
    by_cases a : sp_ft N g i = true
    · rw [if_pos a, if_neg (by decide)]
      obtain ⟨I2, b1, b2, y1, y2⟩ := q_suppose (T := (I, dk_upA (dk_upA U.2 1 a1) 2 a2)) (p := i) hT
      obtain ⟨I3, c1, c2, z1, -⟩ := q_till (T := (I2, dk_upA (dk_upA U.2 1 b1) 2 b2)) hN (ft_wP hP a) (ft_wV hP hV a) hG y2
      rw [y1, sb_]
      dsimp only
      rw [z1, sb_]
      dsimp only
      have key : ∀ s0, s0 = nI (sp_K N (sp_up g 0 i)) → ∃ I' a1' a2', fX5_worstPlace_L68 Q T G U (fun z0 z1 z2 z3 z4 z5 z6 => fX5_worstPlace_L16 Q T G U fu z0 z1 z2 z3 z4 z5 z6) (ms (sp_ft N g) 8) (sp_wo N g i).1 (wo_c (sp_wo N g i).2) (nI i) s0 I3 c1 c2 = some ((sp_wo N g 8).1, I', a1', a2') := by
        intro s0 hs0
        have kl := K_le (N := N) (g := sp_up g 0 i)
        have ml := wo_le (N := N) (g := g) i
        have ih2 := ih I3 c1 c2
        rw [fX5_worstPlace_L68, hs0, nI_1]
        by_cases b : (sp_wo N g i).2 < sp_K N (sp_up g 0 i) + 1
        · rw [if_neg (fun z => (wo_cl _ (by omega) _ ml).mp z b)]
          have e : wo_c (sp_K N (sp_up g 0 i) + 1) = nI (sp_K N (sp_up g 0 i)) := by
            unfold wo_c
            rw [if_neg (by omega), Nat.add_sub_cancel]
          rw [sp_wo, if_pos ⟨a, b⟩] at ih2
          dsimp only at ih2
          rw [e] at ih2
          exact ih2
        · rw [if_pos ((wo_cl _ (by omega) _ ml).mpr b)]
          rw [sp_wo, if_neg (fun z => b z.2)] at ih2
          exact ih2
      unfold sp_tn
      have kl := K_le (N := N) (g := sp_up g 0 i)
      by_cases b : sp_K N (sp_up g 0 i) < 61
      · rw [if_pos b, if_neg (m9_ne (by omega))]
        exact key _ rfl
      · rw [if_neg b, if_pos rfl]
        exact key 61 (by rw [show sp_K N (sp_up g 0 i) = 61 by omega]; rfl)
    · rw [if_neg a, if_pos rfl]
      have ih2 := ih I a1 a2
      rw [sp_wo, if_neg (fun z => a z.1)] at ih2
      exact ih2
theorem q_worst (hN : sp_wN N) (hP : sp_wP N g) (hV : sp_wV N g) (hG : sp_RG G N) (hT : sp_RT T N g) : ∃ I a1 a2, fX5_worstPlace Q T G U = some ((sp_wo N g 8).1, I, a1, a2) := by
  unfold fX5_worstPlace
  rw [q_fated hN hP hG hT, sb_]
  exact q_worst_L hN hP hV hG hT 8 0 1000 U.1 (U.2 1) (U.2 2) (by omega) (by omega)
theorem m_worst_L (hN : sp_wN N) (hP : sp_wP N g) (hV : sp_wV N g) (hM : sp_RN M N) (h15 : M.1 27 = 15) (hw : sp_RP (M.2 16) g) : ∀ d i fu (r u : Nat → Int32), i + d = sp_n N → d < fu → ∃ r' u', fX6_worst_L7 M fu (sp_wo N g i).1 (wo_m (sp_wo N g i).2) (nI i) r u = some ((sp_wo N g 8).1, r', u')
  | 0, i, fu, r, u, h1, h2 => by
    have h8 := hN.2.1
    obtain ⟨fu, rfl⟩ : ∃ k, fu = k + 1 := ⟨fu - 1, by omega⟩
    rw [fX6_worst_L7, hM.1, if_pos (nI_le (by omega) (by omega)), show i = sp_n N by omega]
    have := wo_n (g := g) hN (8 - sp_n N)
    rw [show sp_n N + (8 - sp_n N) = 8 by omega] at this
    rw [this]
    exact ⟨_, _, rfl⟩
  | d + 1, i, fu, r, u, h1, h2 => by
    have h8 := hN.2.1
    obtain ⟨fu, rfl⟩ : ∃ k, fu = k + 1 := ⟨fu - 1, by omega⟩
    rw [fX6_worst_L7, hM.1, if_neg (nI_ge (by omega) (by omega)), m_isFree hN hP (RN_17 hM) hw (by omega), sb_, nI_1]
    have ih := fun r u => m_worst_L hN hP hV hM h15 hw d (i + 1) fu r u (by omega) (by omega)
    by_cases a : sp_ft N g i = true
    · rw [if_pos a, if_neg (by decide)]
      obtain ⟨u2, y1, y2⟩ := m_lay (u := u) hw
      have y3 : sp_RP (upd u2 0 (nI i)) (sp_up g 0 i) := RP_up y2
      obtain ⟨r3, u3, z1, -⟩ := m_trial (M := (M.1, dk_upA (dk_upA M.2 26 r) 17 (upd u2 0 (nI i)))) hN (ft_wP hP a) (RN_17 hM) h15 y3
      rw [y1, sb_, show dk_wr u2 21 0 (nI i) = some (upd u2 0 (nI i)) from wr_nI (k := 0) (by omega) (by omega), sb_, z1, sb_]
      dsimp only
      have key : ∀ s0, s0 = wo_e (sp_K N (sp_up g 0 i)) → ∃ r' u', fX6_worst_L65 M (fun z0 z1 z2 z3 z4 => fX6_worst_L7 M fu z0 z1 z2 z3 z4) (sp_wo N g i).1 (wo_m (sp_wo N g i).2) (nI i) s0 r3 u3 = some ((sp_wo N g 8).1, r', u') := by
        intro s0 hs0
        have kl := K_le (N := N) (g := sp_up g 0 i)
        have ml := wo_le (N := N) (g := g) i
        have ih2 := ih r3 u3
        rw [fX6_worst_L65, fX6_worst_L78, fX6_worst_L78, hs0, nI_1]
        by_cases b : (sp_wo N g i).2 < sp_K N (sp_up g 0 i) + 1
        · rw [if_neg (fun z => (wo_ml _ (by omega) _ ml).mp z b), if_neg (fun z => (wo_ml _ (by omega) _ ml).mp z b)]
          have e : wo_m (sp_K N (sp_up g 0 i) + 1) = wo_e (sp_K N (sp_up g 0 i)) := by
            unfold wo_m
            rw [if_neg (by omega), Nat.add_sub_cancel]
          rw [sp_wo, if_pos ⟨a, b⟩] at ih2
          dsimp only at ih2
          rw [e] at ih2
          exact ih2
        · rw [if_pos ((wo_ml _ (by omega) _ ml).mpr b), if_pos ((wo_ml _ (by omega) _ ml).mpr b)]
          rw [sp_wo, if_neg (fun z => b z.2)] at ih2
          exact ih2
      unfold sp_tn
      have kl := K_le (N := N) (g := sp_up g 0 i)
      by_cases b : sp_K N (sp_up g 0 i) < 61
      · rw [if_pos b, if_neg (m9_ne (by omega))]
        exact key _ (by unfold wo_e; rw [if_pos b])
      · rw [if_neg b, if_pos rfl]
        exact key 99 (by unfold wo_e; rw [if_neg b])
    · rw [if_neg a, if_pos rfl]
      have ih2 := ih r u
      rw [sp_wo, if_neg (fun z => a z.1)] at ih2
      exact ih2
theorem m_worst (hN : sp_wN N) (hP : sp_wP N g) (hV : sp_wV N g) (hM : sp_RN M N) (h15 : M.1 27 = 15) (hw : sp_RP (M.2 16) g) : ∃ r u, fX6_worst M = some ((sp_wo N g 8).1, r, u) :=
  m_worst_L hN hP hV hM h15 hw (sp_n N) 0 1000 (M.2 26) (M.2 17) (by omega) (by have := hN.2.1; omega)
end WO
