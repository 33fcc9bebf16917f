/-! the fewest searchers -/
section FE
variable {N : sN} {Q U G M : dk_O}
def fe_bad (N : sN) (k p : Nat) : Bool := decide (p ≠ sp_h N) && !(decide (sp_K N (sp_f0 N p k) < 61) && decide (0 < sp_nl (sp_tg N (sp_f0 N p k))))
def fe_ok (N : sN) (k : Nat) : Bool := !sp_any (fe_bad N k) (sp_n N)
def sp_fe (N : sN) : Nat := fa_first (fun j => fe_ok N (j + 1)) 4
def fe_an (N : sN) : Int32 := if sp_fe N < 4 then nI (sp_fe N + 1) else -9
theorem nl_le {g : Nat → Nat} (hP : sp_wP N g) : sp_nl g ≤ 4 := by
  have := fb_ct_le (sp_lv g) (g 1)
  have h4 := hP.2.2.1
  unfold sp_nl
  omega
theorem any_up {f : Nat → Bool} {i n : Nat} (h : i ≤ n) (hf : sp_any f i = true) : sp_any f n = true := by
  obtain ⟨j, h1, h2⟩ := sp_any_iff.mp hf
  exact sp_any_iff.mpr ⟨j, by omega, h2⟩
theorem q_few11 (hN : sp_wN N) (hG : sp_RG G N) {k : Nat} (hk1 : 1 ≤ k) (hk4 : k ≤ 4) {k2 : Int32 → (Nat → Int32) → (Nat → Int32) → (Nat → Int32) → Option (Int32 × (Nat → Int32) × (Nat → Int32) × (Nat → Int32))} : ∀ d i fu (b : Bool) (I a1 a2 : Nat → Int32), i + d = sp_n N → d < fu → b = !sp_any (fe_bad N k) i → ∃ I' a1' a2', fX5_fewestSearchers_L11 Q G U k2 fu (nI k) (if b = true then 1 else 0) (nI i) I a1 a2 = if fe_ok N k = true then some (nI k, I', a1', a2') else k2 (nI (k + 1)) I' a1' a2'
  | 0, i, fu, b, I, a1, a2, h1, h2, hb => by
    have h8 := hN.2.1
    obtain ⟨fu, rfl⟩ : ∃ k, fu = k + 1 := ⟨fu - 1, by omega⟩
    refine ⟨I, a1, a2, ?_⟩
    rw [fX5_fewestSearchers_L11, hG.1, if_pos (nI_le (by omega) (by omega)), fX5_fewestSearchers_L80, nI_1]
    have e : fe_ok N k = b := by rw [hb, show i = sp_n N by omega]; rfl
    rw [e]
    cases b <;> rfl
  | d + 1, i, fu, b, I, a1, a2, h1, h2, hb => by
    have h8 := hN.2.1
    have hh := hN.2.2.1
    obtain ⟨fu, rfl⟩ : ∃ k, fu = k + 1 := ⟨fu - 1, by omega⟩
    rw [fX5_fewestSearchers_L11, hG.1, if_neg (nI_ge (by omega) (by omega))]
    have ih := fun b I a1 a2 hb => q_few11 hN hG hk1 hk4 (k2 := k2) d (i + 1) fu b I a1 a2 (by omega) (by omega) hb
    cases b
    · refine ⟨I, a1, a2, ?_⟩
      have e : fe_ok N k = false := by
        unfold fe_ok
        rw [any_up (i := i) (by omega) (by simpa using hb.symm)]
        rfl
      rw [e, show (if false = true then (1 : Int32) else 0) = 0 from rfl, if_pos rfl, fX5_fewestSearchers_L80, if_pos rfl, nI_1]
      rfl
    · have hb2 : sp_any (fe_bad N k) i = false := by simpa using hb.symm
      rw [show (if true = true then (1 : Int32) else 0) = 1 from rfl, if_neg (by decide), hG.2.1, nI_1]
      by_cases a : i = sp_h N
      · rw [if_pos (by rw [a])]
        refine ih true I a1 a2 ?_
        rw [sp_any, hb2]
        simp [fe_bad, a]
      · rw [if_neg (fun z => a ((nI_eq (by omega) (by omega)).mp z))]
        have w := f0_wP (h := i) (k := k) hN (by omega) hk1 hk4
        have v := f0_wV (N := N) (h := i) (k := k) hk4 a
        obtain ⟨I2, b1, b2, y1, y2⟩ := q_begin (T := (I, dk_upA (dk_upA U.2 1 a1) 2 a2)) (h := i) hN hG hk4
        obtain ⟨I3, c1, c2, z1, z2⟩ := q_till (T := (I2, dk_upA (dk_upA U.2 1 b1) 2 b2)) hN w v hG y2
        have w2 := tg_wP hN w
        have l4 := nl_le w2
        rw [y1, sb_]
        dsimp only
        rw [z1, sb_]
        dsimp only
        unfold sp_tn
        by_cases b : sp_K N (sp_f0 N i k) < 61
        · rw [if_pos b, if_neg (m9_ne (by omega)), q_living (T := (I3, dk_upA (dk_upA U.2 1 c1) 2 c2)) hN w2 z2, sb_]
          by_cases c : 0 < sp_nl (sp_tg N (sp_f0 N i k))
          · rw [if_neg (fun z => (pos_nI (by omega)).mp z c)]
            refine ih true I3 c1 c2 ?_
            rw [sp_any, hb2]
            simp [fe_bad, b, c]
          · rw [if_pos ((pos_nI (by omega)).mpr c)]
            refine ih false I3 c1 c2 ?_
            rw [sp_any, hb2]
            simp [fe_bad, a, b, c]
        · rw [if_neg b, if_pos rfl]
          refine ih false I3 c1 c2 ?_
          rw [sp_any, hb2]
          simp [fe_bad, a, b]
theorem q_few2 (hN : sp_wN N) (hG : sp_RG G N) : ∀ d k fu (I a1 a2 : Nat → Int32), k + d = 5 → 1 ≤ k → d < fu → (∀ j, j + 1 < k → fe_ok N (j + 1) = false) → ∃ I' a1' a2', fX5_fewestSearchers_L2 Q G U fu (nI k) I a1 a2 = some (fe_an N, I', a1', a2')
  | 0, k, fu, I, a1, a2, h1, h3, h2, hj => by
    obtain ⟨fu, rfl⟩ : ∃ k, fu = k + 1 := ⟨fu - 1, by omega⟩
    have e : sp_fe N = 4 := first_none (f := fun j => fe_ok N (j + 1)) (fun j hj2 => hj j (by omega))
    rw [fX5_fewestSearchers_L2, show k = 5 by omega, if_pos (by decide)]
    unfold fe_an
    rw [e, if_neg (by omega)]
    exact ⟨_, _, _, rfl⟩
  | d + 1, k, fu, I, a1, a2, h1, h3, h2, hj => by
    obtain ⟨fu, rfl⟩ : ∃ k, fu = k + 1 := ⟨fu - 1, by omega⟩
    have hlt : ¬ (4 : Int32) < nI k := by
      intro y
      exact absurd (Int32.lt_of_lt_of_le y (nI_le (a := k) (b := 4) (by omega) (by omega))) (Int32.lt_irrefl)
    rw [fX5_fewestSearchers_L2, if_neg hlt]
    obtain ⟨I2, b1, b2, y⟩ := q_few11 (Q := Q) (U := U) hN hG h3 (show k ≤ 4 by omega) (k2 := fun z0 z1 z2 z3 => fX5_fewestSearchers_L2 Q G U fu z0 z1 z2 z3) (sp_n N) 0 1000 true I a1 a2 (by omega) (by have := hN.2.1; omega) rfl
    rw [show fX5_fewestSearchers_L11 Q G U (fun z0 z1 z2 z3 => fX5_fewestSearchers_L2 Q G U fu z0 z1 z2 z3) 1000 (nI k) 1 0 I a1 a2 = _ from y]
    cases a : fe_ok N k
    · rw [if_neg (by decide)]
      refine q_few2 hN hG d (k + 1) fu I2 b1 b2 (by omega) (by omega) (by omega) (fun j hj2 => ?_)
      by_cases z : j + 1 = k
      · rw [z]; exact a
      · exact hj j (by omega)
    · have e : sp_fe N = k - 1 := first_eq (f := fun j => fe_ok N (j + 1)) (by omega) (by rw [show k - 1 + 1 = k by omega]; exact a) (fun j hj2 => hj j (by omega))
      unfold fe_an
      rw [e, if_pos rfl, if_pos (by omega), show k - 1 + 1 = k by omega]
      exact ⟨_, _, _, rfl⟩
theorem q_fewest (hN : sp_wN N) (hG : sp_RG G N) : ∃ I a1 a2, fX5_fewestSearchers Q G U = some (fe_an N, I, a1, a2) :=
  q_few2 hN hG 4 1 1000 U.1 (U.2 1) (U.2 2) (by omega) (by omega) (by omega) (fun j hj => absurd hj (by omega))
theorem m_few11 (hN : sp_wN N) (hM : sp_RN M N) (h15 : M.1 27 = 15) {k : Nat} (hk1 : 1 ≤ k) (hk4 : k ≤ 4) {k2 : Int32 → (Nat → Int32) → (Nat → Int32) → Option (Int32 × (Nat → Int32) × (Nat → Int32))} : ∀ d i fu (b : Bool) (r u : Nat → Int32), i + d = sp_n N → d < fu → b = !sp_any (fe_bad N k) i → ∃ r' u', fX6_fewest_L11 M k2 fu (nI k) (if b = true then 1 else 0) (nI i) r u = if fe_ok N k = true then some (nI k, r', u') else k2 (nI (k + 1)) r' u'
  | 0, i, fu, b, r, u, h1, h2, hb => by
    have h8 := hN.2.1
    obtain ⟨fu, rfl⟩ : ∃ k, fu = k + 1 := ⟨fu - 1, by omega⟩
    refine ⟨r, u, ?_⟩
    rw [fX6_fewest_L11, hM.1, if_pos (nI_le (by omega) (by omega)), nI_1]
    have e : fe_ok N k = b := by rw [hb, show i = sp_n N by omega]; rfl
    rw [e]
    cases b <;> rfl
  | d + 1, i, fu, b, r, u, h1, h2, hb => by
    have h8 := hN.2.1
    have hh := hN.2.2.1
    obtain ⟨fu, rfl⟩ : ∃ k, fu = k + 1 := ⟨fu - 1, by omega⟩
    rw [fX6_fewest_L11, hM.1, if_neg (nI_ge (by omega) (by omega)), hM.2.1, nI_1]
    have ih := fun b r u hb => m_few11 hN hM h15 hk1 hk4 (k2 := k2) d (i + 1) fu b r u (by omega) (by omega) hb
    by_cases a : i = sp_h N
    · rw [if_pos (by rw [a])]
      refine ih b r u ?_
      rw [hb, sp_any]
      simp [fe_bad, a]
    · rw [if_neg (fun z => a ((nI_eq (by omega) (by omega)).mp z))]
      obtain ⟨u2, y1, y2⟩ := m_layFirst (w := u) (h := i) (k := k) (RN_17 (r := r) (w := u) hM)
      rw [y1, sb_]
      cases b
      · rw [show (if false = true then (1 : Int32) else 0) = 0 from rfl, if_pos rfl]
        refine ih false r u2 ?_
        rw [sp_any]
        have : sp_any (fe_bad N k) i = true := by simpa using hb.symm
        rw [this]
        rfl
      · have hb2 : sp_any (fe_bad N k) i = false := by simpa using hb.symm
        have w := f0_wP (h := i) (k := k) hN (by omega) hk1 hk4
        have w2 := tg_wP hN w
        have l4 := nl_le w2
        obtain ⟨r3, u3, z1, z2⟩ := m_trial (M := (M.1, dk_upA (dk_upA M.2 26 r) 17 u2)) hN w (RN_17 hM) h15 y2
        rw [show (if true = true then (1 : Int32) else 0) = 1 from rfl, if_neg (by decide), z1, sb_]
        dsimp only
        unfold sp_tn
        by_cases b : sp_K N (sp_f0 N i k) < 61
        · rw [if_pos b, if_neg (m9_ne (by omega)), m_living hN w2 z2, sb_]
          by_cases c : 0 < sp_nl (sp_tg N (sp_f0 N i k))
          · rw [if_neg (fun z => (pos_nI (by omega)).mp z c)]
            refine ih true r3 u3 ?_
            rw [sp_any, hb2]
            simp [fe_bad, b, c]
          · rw [if_pos ((pos_nI (by omega)).mpr c)]
            refine ih false r3 u3 ?_
            rw [sp_any, hb2]
            simp [fe_bad, a, b, c]
        · rw [if_neg b, if_pos rfl]
          refine ih false r3 u3 ?_
          rw [sp_any, hb2]
          simp [fe_bad, a, b]
theorem m_few2 (hN : sp_wN N) (hM : sp_RN M N) (h15 : M.1 27 = 15) : ∀ d k fu (r u : Nat → Int32), k + d = 5 → 1 ≤ k → d < fu → (∀ j, j + 1 < k → fe_ok N (j + 1) = false) → ∃ r' u', fX6_fewest_L2 M fu (nI k) r u = some (fe_an N, r', u')
  | 0, k, fu, r, u, h1, h3, h2, hj => by
    obtain ⟨fu, rfl⟩ : ∃ k, fu = k + 1 := ⟨fu - 1, by omega⟩
    have e : sp_fe N = 4 := first_none (f := fun j => fe_ok N (j + 1)) (fun j hj2 => hj j (by omega))
    rw [fX6_fewest_L2, show k = 5 by omega, if_pos (by decide)]
    unfold fe_an
    rw [e, if_neg (by omega)]
    exact ⟨_, _, rfl⟩
  | d + 1, k, fu, r, u, h1, h3, h2, hj => by
    obtain ⟨fu, rfl⟩ : ∃ k, fu = k + 1 := ⟨fu - 1, by omega⟩
    rw [fX6_fewest_L2, if_neg (show ¬ (5 : Int32) ≤ nI k from nI_ge (b := 5) (by omega) (by omega))]
    obtain ⟨r2, u2, y⟩ := m_few11 hN hM h15 h3 (show k ≤ 4 by omega) (k2 := fun z0 z1 z2 => fX6_fewest_L2 M fu z0 z1 z2) (sp_n N) 0 1000 true r u (by omega) (by have := hN.2.1; omega) rfl
    rw [show fX6_fewest_L11 M (fun z0 z1 z2 => fX6_fewest_L2 M fu z0 z1 z2) 1000 (nI k) 1 0 r u = _ from y]
    cases a : fe_ok N k
    · rw [if_neg (by decide)]
      refine m_few2 hN hM h15 d (k + 1) fu r2 u2 (by omega) (by omega) (by omega) (fun j hj2 => ?_)
      by_cases z : j + 1 = k
      · rw [z]; exact a
      · exact hj j (by omega)
    · have e : sp_fe N = k - 1 := first_eq (f := fun j => fe_ok N (j + 1)) (by omega) (by rw [show k - 1 + 1 = k by omega]; exact a) (fun j hj2 => hj j (by omega))
      unfold fe_an
      rw [e, if_pos rfl, if_pos (by omega), show k - 1 + 1 = k by omega]
      exact ⟨_, _, rfl⟩
theorem m_fewest (hN : sp_wN N) (hM : sp_RN M N) (h15 : M.1 27 = 15) : ∃ r u, fX6_fewest M = some (fe_an N, r, u) :=
  m_few2 hN hM h15 4 1 1000 (M.2 26) (M.2 17) (by omega) (by omega) (by omega) (fun j hj => absurd hj (by omega))
end FE
