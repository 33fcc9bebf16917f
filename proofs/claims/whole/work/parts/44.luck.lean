/-! luck -/
section LU
variable {N : sN} {g : Nat → Nat} {Q T U G M : dk_O}
def lu_y (N : sN) (g : Nat → Nat) (r v : Nat) (p : Nat) : Bool := sp_ft N g p && decide (v ≤ sp_nl (sp_it N sp_all (sp_up g 0 p) r))
theorem q_luck_L (hN : sp_wN N) (hP : sp_wP N g) (hG : sp_RG G N) (hT : sp_RT T N g) {r v : Nat} (hr : r < 100) (hv : v < 100) {x3 : Int32} {A : Int32} (hA : fX5_fraction (nI (fb_ct (lu_y N g r v) 8)) (nI (fb_ct (sp_ft N g) 8)) x3 = some A) : ∀ d i fu (I a1 a2 : Nat → Int32), i + d = 8 → d < fu → ∃ I' a1' a2', fX5_luck_L34 Q T G U fu (nI r) (nI v) x3 (ms (sp_ft N g) 8) (nI (fb_ct (lu_y N g r v) i)) (nI i) I a1 a2 = some (A, I', a1', a2')
  | 0, i, fu, I, a1, a2, h1, h2 => by
    obtain ⟨fu, rfl⟩ : ∃ k, fu = k + 1 := ⟨fu - 1, by omega⟩
    rw [fX5_luck_L34, if_pos (show (8 : Int32) ≤ nI i from nI_le (a := 8) (by omega) (by omega)), bit_ms8, sb_, show i = 8 by omega, hA, sb_]
    exact ⟨_, _, _, rfl⟩
  | d + 1, i, fu, I, a1, a2, h1, h2 => by
    obtain ⟨fu, rfl⟩ : ∃ k, fu = k + 1 := ⟨fu - 1, by omega⟩
    rw [fX5_luck_L34, if_neg (show ¬ (8 : Int32) ≤ nI i from nI_ge (b := 8) (by omega) (by omega)), holds_ms (by omega) (by omega), sb_, nI_1]
    have hi8 : decide (i < 8) = true := by simp; omega
    have ih := fun I a1 a2 => q_luck_L hN hP hG hT hr hv hA d (i + 1) fu I a1 a2 (by omega) (by omega)
    simp only [fb_ct_succ] at ih
    rw [hi8, Bool.true_and]
    by_cases z : sp_ft N g i = true
    · rw [if_pos z, if_neg (by decide)]
      obtain ⟨I2, b1, b2, y⟩ := q_behind (Q := Q) (U := (I, dk_upA (dk_upA U.2 1 a1) 2 a2)) hN hP hG hT z hr
      have l4 := nl_le (it_wP (c := sp_all) hN (ft_wP hP z) r).1
      rw [y, sb_]
      dsimp only
      by_cases q : sp_nl (sp_it N sp_all (sp_up g 0 i) r) < v
      · rw [if_pos (nI_lt q (by omega))]
        have e : lu_y N g r v i = false := by unfold lu_y; simp; intro _; omega
        have ih2 := ih I2 b1 b2
        rw [e] at ih2
        exact ih2
      · rw [if_neg (nI_nlt (by omega) (by omega)), nI_1]
        have e : lu_y N g r v i = true := by unfold lu_y; simp [z]; omega
        have ih2 := ih I2 b1 b2
        rw [e] at ih2
        exact ih2
    · have zf : sp_ft N g i = false := by simpa using z
      have e : lu_y N g r v i = false := by unfold lu_y; rw [zf]; rfl
      rw [if_neg z, if_pos rfl]
      have ih2 := ih I a1 a2
      rw [e] at ih2
      exact ih2
theorem m_luck_L (hN : sp_wN N) (hP : sp_wP N g) {J : Nat → Int32} (hM : sp_RN (J, M.2) N) (h15 : J 27 = 15) (hw : sp_RP (M.2 16) g) {r v : Nat} (hr : r < 100) (hv : v < 100) {x3 : Int32} {A : Int32} (hA : fX6_fraction (nI (fb_ct (lu_y N g r v) 8)) (nI (fb_ct (sp_ft N g) 8)) x3 = some A) : ∀ d i fu (f u : Nat → Int32), i + d = sp_n N → d < fu → ∃ f' u', fX6_luck_L52 M fu (nI r) (nI v) x3 (ms (sp_ft N g) 8) (nI (fb_ct (lu_y N g r v) i)) (nI i) J f u = some (A, J, f', u')
  | 0, i, fu, f, u, h1, h2 => by
    have h8 := hN.2.1
    obtain ⟨fu, rfl⟩ : ∃ k, fu = k + 1 := ⟨fu - 1, by omega⟩
    have e : fb_ct (lu_y N g r v) 8 = fb_ct (lu_y N g r v) i := by
      have := fb_ct_split (lu_y N g r v) i (8 - i)
      rw [show i + (8 - i) = 8 by omega] at this
      have z : fb_ct (fun k => lu_y N g r v (i + k)) (8 - i) = 0 := by
        refine fb_ct_zero.mpr (fun k hk => ?_)
        show lu_y N g r v (i + k) = false
        unfold lu_y
        cases q : sp_ft N g (i + k)
        · rfl
        · have := ft_lt q; omega
      omega
    rw [e] at hA
    rw [fX6_luck_L52, show J 4 = nI (sp_n N) from hM.1, if_pos (nI_le (by omega) (by omega)), ones_ms8, sb_, hA, sb_]
    exact ⟨_, _, rfl⟩
  | d + 1, i, fu, f, u, h1, h2 => by
    have h8 := hN.2.1
    obtain ⟨fu, rfl⟩ : ∃ k, fu = k + 1 := ⟨fu - 1, by omega⟩
    have hM2 : sp_RN (J, dk_upA (dk_upA M.2 26 f) 17 u) N := hM
    rw [fX6_luck_L52, show J 4 = nI (sp_n N) from hM.1, if_neg (nI_ge (by omega) (by omega)), has_ms (by omega) (by omega), sb_, nI_1]
    have hi8 : decide (i < 8) = true := by simp; omega
    have ih := fun f u => m_luck_L hN hP hM h15 hw hr hv hA d (i + 1) fu f u (by omega) (by omega)
    simp only [fb_ct_succ] at ih
    have a0 : ∀ x : Int32, x + 0 = x := fun x => Int32.add_zero x
    rw [hi8, Bool.true_and]
    by_cases z : sp_ft N g i = true
    · rw [if_pos z, if_neg (by decide)]
      obtain ⟨f2, u2, y⟩ := m_behind (M := (J, dk_upA (dk_upA M.2 26 f) 17 u)) (r := r) hN hP hM2 h15 hw z hr
      have l4 := nl_le (it_wP (c := sp_all) hN (ft_wP hP z) r).1
      rw [y, sb_]
      dsimp only
      by_cases q : sp_nl (sp_it N sp_all (sp_up g 0 i) r) < v
      · rw [if_pos (nI_lt q (by omega)), a0]
        have e : lu_y N g r v i = false := by unfold lu_y; simp; intro _; omega
        have ih2 := ih f2 u2
        rw [e] at ih2
        exact ih2
      · rw [if_neg (nI_nlt (by omega) (by omega)), nI_1]
        have e : lu_y N g r v i = true := by unfold lu_y; simp [z]; omega
        have ih2 := ih f2 u2
        rw [e] at ih2
        exact ih2
    · have zf : sp_ft N g i = false := by simpa using z
      have e : lu_y N g r v i = false := by unfold lu_y; rw [zf]; rfl
      rw [if_neg z, if_pos rfl, a0]
      have ih2 := ih f u
      rw [e] at ih2
      exact ih2
/-- the two fractions of luck -/
theorem lu_frac {r v : Nat} {x3 : Int32} (hx : x3 = 0 ∨ x3 = 1) (hs : ¬ ms (sp_ft N g) 8 = 0) : ∃ A, fX5_fraction (nI (fb_ct (lu_y N g r v) 8)) (nI (fb_ct (sp_ft N g) 8)) x3 = some A ∧ fX6_fraction (nI (fb_ct (lu_y N g r v) 8)) (nI (fb_ct (sp_ft N g) 8)) x3 = some A := by
  have l1 := fb_ct_le (lu_y N g r v) 8
  have l2 := fb_ct_le (sp_ft N g) 8
  have l3 : 0 < fb_ct (sp_ft N g) 8 := by
    rcases Nat.eq_zero_or_pos (fb_ct (sp_ft N g) 8) with z | z
    · exact absurd ((ms_zero (by omega)).mpr (fun k hk => fb_ct_zero.mp z k hk)) hs
    · exact z
  have key : ∀ w, w < 2 → ∃ A, fX5_fraction (nI (fb_ct (lu_y N g r v) 8)) (nI (fb_ct (sp_ft N g) 8)) (nI w) = some A ∧ fX6_fraction (nI (fb_ct (lu_y N g r v) 8)) (nI (fb_ct (sp_ft N g) 8)) (nI w) = some A := by
    intro w hw
    have h := fr_luck (fb_ct (sp_ft N g) 8 - 1) (by omega) (fb_ct (lu_y N g r v) 8) (by omega) w hw
    unfold fr_both at h
    have e1 : nI (192 + fb_ct (lu_y N g r v) 8) - 192 = nI (fb_ct (lu_y N g r v) 8) := by
      have := pk_sub (a := 192 + fb_ct (lu_y N g r v) 8) (b := 192) (by omega)
      rw [show 192 + fb_ct (lu_y N g r v) 8 - 192 = fb_ct (lu_y N g r v) 8 by omega] at this
      exact this
    rw [e1, show fb_ct (sp_ft N g) 8 - 1 + 1 = fb_ct (sp_ft N g) 8 by omega, Bool.and_eq_true] at h
    obtain ⟨A, hA⟩ := Option.isSome_iff_exists.mp h.1
    have h2 := of_decide_eq_true h.2
    exact ⟨A, hA, h2 ▸ hA⟩
  rcases hx with z | z
  · rw [z]; exact key 0 (by omega)
  · rw [z]; exact key 1 (by omega)
end LU
