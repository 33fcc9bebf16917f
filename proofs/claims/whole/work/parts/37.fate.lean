/-! the places that have a fate; the first page -/
section FT
variable {N : sN} {g : Nat → Nat} {T G M : dk_O} {w : Nat → Int32}
theorem q_fated_L (hN : sp_wN N) (hP : sp_wP N g) (hT : sp_RT T N g) : ∀ d i fu, i + d = g 1 → d < fu → fX3_fated_L7 T G fu (ms (fun p => sp_mb N g p && !sp_any (fun s => decide (g (3 + s) = p)) i) 8) (nI i) = some (ms (sp_ft N g) 8)
  | 0, i, fu, h1, h2 => by
    have h4 := hP.2.2.1
    obtain ⟨fu, rfl⟩ : ∃ k, fu = k + 1 := ⟨fu - 1, by omega⟩
    rw [fX3_fated_L7, hT.1, if_pos (nI_le (by omega) (by omega)), show i = g 1 by omega]
    rfl
  | d + 1, i, fu, h1, h2 => by
    have h4 := hP.2.2.1
    have h8 := hN.2.1
    have ha := wP_at hN hP (show i < 4 by omega)
    obtain ⟨fu, rfl⟩ : ∃ k, fu = k + 1 := ⟨fu - 1, by omega⟩
    rw [fX3_fated_L7, hT.1, if_neg (nI_ge (by omega) (by omega)), rd_nI (by omega) (by omega), sb_, sb_, RT_at hT (by omega), nI_1]
    have ih := q_fated_L hN hP hT d (i + 1) fu (by omega) (by omega)
    by_cases a : g (3 + i) = 9
    · rw [if_pos ((pl_m9 (by omega)).mpr a)]
      rw [← ih]
      congr 1
      refine ms_cong (fun p hp => ?_)
      rw [sp_any]
      have : decide (g (3 + i) = p) = false := by simp; omega
      rw [this, Bool.or_false]
    · rw [if_neg (fun z => a ((pl_m9 (by omega)).mp z)), pl_n a]
      have hl : g (3 + i) < 8 := by
        have := wP_pl hN hP (show i < 4 by omega) (lv_true.mpr a)
        omega
      rw [ms_one (k := 8) hl (by omega), ms_andn (by omega), ← ih]
      congr 1
      refine ms_cong (fun p hp => ?_)
      rw [sp_any]
      by_cases z : p = g (3 + i)
      · simp [z]
      · have z2 : ¬ g (3 + i) = p := fun y => z y.symm
        simp [z, z2]
theorem q_fated (hN : sp_wN N) (hP : sp_wP N g) (hG : sp_RG G N) (hT : sp_RT T N g) : fX3_fated T G = some (ms (sp_ft N g) 8) := by
  have h4 := hP.2.2.1
  unfold fX3_fated
  rw [q_mayBe hN hG hT, sb_]
  have := q_fated_L (G := G) hN hP hT (g 1) 0 1000 (by omega) (by omega)
  rw [← this]
  congr 1
  refine ms_cong (fun p hp => ?_)
  rw [sp_any]
  simp
theorem m_isFree_L (hN : sp_wN N) (hP : sp_wP N g) (hw : sp_RP w g) {p : Nat} (hp : p < 8) : ∀ d i fu (b : Bool), i + d = g 1 → d < fu → b = (sp_mb N g p && !sp_any (fun s => decide (g (3 + s) = p)) i) → fX6_isFree_L13 M w fu (nI p) (if b = true then 1 else 0) (nI i) = some (if sp_ft N g p = true then 1 else 0)
  | 0, i, fu, b, h1, h2, hb => by
    have h4 := hP.2.2.1
    obtain ⟨fu, rfl⟩ : ∃ k, fu = k + 1 := ⟨fu - 1, by omega⟩
    rw [fX6_isFree_L13, show dk_rd w 21 1 = some (nI (g 1)) from rd_w hw (k := 1) (by omega), sb_, if_pos (nI_le (by omega) (by omega))]
    have e : b = sp_ft N g p := by rw [hb, show i = g 1 by omega]; rfl
    rw [e]
    cases sp_ft N g p <;> rfl
  | d + 1, i, fu, b, h1, h2, hb => by
    have h4 := hP.2.2.1
    have h8 := hN.2.1
    have ha := wP_at hN hP (show i < 4 by omega)
    obtain ⟨fu, rfl⟩ : ∃ k, fu = k + 1 := ⟨fu - 1, by omega⟩
    rw [fX6_isFree_L13, show dk_rd w 21 1 = some (nI (g 1)) from rd_w hw (k := 1) (by omega), sb_, if_neg (nI_ge (by omega) (by omega))]
    have ih := fun b hb => m_isFree_L hN hP hw hp d (i + 1) fu b (by omega) (by omega) hb
    cases b
    · rw [show (if false = true then (1 : Int32) else 0) = 0 from rfl, if_pos rfl, nI_1]
      refine ih false ?_
      rw [sp_any]
      cases z : sp_mb N g p
      · rfl
      · rw [z] at hb
        cases y : sp_any (fun s => decide (g (3 + s) = p)) i
        · rw [y] at hb; cases hb
        · rfl
    · rw [show (if true = true then (1 : Int32) else 0) = 1 from rfl, if_neg (by decide), i_3, rd_w hw (by omega), sb_, nI_1]
      have hb2 : sp_mb N g p = true ∧ sp_any (fun s => decide (g (3 + s) = p)) i = false := by
        cases z : sp_mb N g p
        · rw [z] at hb; cases hb
        · rw [z] at hb
          cases y : sp_any (fun s => decide (g (3 + s) = p)) i
          · exact ⟨rfl, rfl⟩
          · rw [y] at hb; cases hb
      by_cases a : g (3 + i) = p
      · rw [if_pos (by rw [a])]
        refine ih false ?_
        rw [sp_any]
        simp [a]
      · rw [if_neg (fun z => a ((nI_eq (by omega) (by omega)).mp z))]
        refine ih true ?_
        rw [sp_any, hb2.1, hb2.2]
        simp [a]
theorem m_isFree (hN : sp_wN N) (hP : sp_wP N g) (hM : sp_RN M N) (hw : sp_RP w g) {p : Nat} (hp : p < 8) : fX6_isFree M w (nI p) = some (if sp_ft N g p = true then 1 else 0) := by
  have h4 := hP.2.2.1
  unfold fX6_isFree
  rw [m_mayBe hN hP hM hw, sb_, has_ms (by omega) (by omega), sb_]
  refine m_isFree_L hN hP hw hp (g 1) 0 1000 _ (by omega) (by omega) ?_
  rw [sp_any]
  simp [hp]
theorem m_fated_L (hN : sp_wN N) (hP : sp_wP N g) (hM : sp_RN M N) (hw : sp_RP (M.2 16) g) : ∀ d i fu, i + d = sp_n N → d < fu → fX6_fated_L4 M fu (ms (sp_pre i (sp_ft N g)) 8) (nI i) = some (ms (sp_ft N g) 8)
  | 0, i, fu, h1, h2 => by
    have h8 := hN.2.1
    obtain ⟨fu, rfl⟩ : ∃ k, fu = k + 1 := ⟨fu - 1, by omega⟩
    rw [fX6_fated_L4, hM.1, if_pos (nI_le (by omega) (by omega))]
    congr 1
    refine ms_cong (fun p hp => ?_)
    unfold sp_pre
    by_cases a : p < i
    · simp [a]
    · have : sp_ft N g p = false := by
        unfold sp_ft sp_mb
        simp [show ¬ p < sp_n N by omega]
      simp [this]
  | d + 1, i, fu, h1, h2 => by
    have h8 := hN.2.1
    obtain ⟨fu, rfl⟩ : ∃ k, fu = k + 1 := ⟨fu - 1, by omega⟩
    rw [fX6_fated_L4, hM.1, if_neg (nI_ge (by omega) (by omega)), m_isFree hN hP hM hw (by omega), sb_, nI_1]
    have ih := m_fated_L hN hP hM hw d (i + 1) fu (by omega) (by omega)
    cases a : sp_ft N g i
    · rw [show (if false = true then (1 : Int32) else 0) = 0 from rfl, if_pos rfl, or_0, pre_f a]
      exact ih
    · rw [show (if true = true then (1 : Int32) else 0) = 1 from rfl, if_neg (by decide), pre_t (by omega) (by omega) a]
      exact ih
theorem m_fated (hN : sp_wN N) (hP : sp_wP N g) (hM : sp_RN M N) (hw : sp_RP (M.2 16) g) : fX6_fated M = some (ms (sp_ft N g) 8) := by
  have h8 := hN.2.1
  unfold fX6_fated
  have := m_fated_L hN hP hM hw (sp_n N) 0 1000 (by omega) (by omega)
  rw [pre_0 (by omega)] at this
  exact this
/-- another hole -/
theorem ft_wP (hP : sp_wP N g) {p : Nat} (h : sp_ft N g p = true) : sp_wP N (sp_up g 0 p) := by
  have hp : p < sp_n N := by
    unfold sp_ft sp_mb at h
    simp only [Bool.and_eq_true, decide_eq_true_eq] at h
    exact h.1.1
  obtain ⟨p0, p1, p2, p3, p4, p5, p6⟩ := hP
  have u : ∀ k, 0 < k → sp_up g 0 p k = g k := fun k hk => up_n (by omega)
  refine ⟨by rw [up_s]; exact hp, by rw [u 1 (by omega)]; exact p1, by rw [u 1 (by omega)]; exact p2, fun s hs => ?_, fun s hs => ?_, fun e he => ?_, fun s t hs ht => ?_⟩
  · rw [u (3 + s) (by omega)]; exact p3 s hs
  · rw [u (3 + s) (by omega), u (7 + s) (by omega), u 1 (by omega), u (11 + (g (7 + s) - 1)) (by omega)]; exact p4 s hs
  · rw [u (11 + e) (by omega)]; exact p5 e he
  · rw [u (7 + s) (by omega), u (7 + t) (by omega)]; exact p6 s t hs ht
theorem ft_wV (hP : sp_wP N g) (hV : sp_wV N g) {p : Nat} (h : sp_ft N g p = true) : sp_wV N (sp_up g 0 p) := by
  have h4 := hP.2.2.1
  have hv : ∀ q, sp_vis N (sp_up g 0 p) q = sp_vis N g q := fun q => vis_cong (fun e _ => by unfold sp_sf; rw [up_n (by omega)]) q
  have u : ∀ k, 0 < k → sp_up g 0 p k = g k := fun k hk => up_n (by omega)
  unfold sp_ft sp_mb at h
  simp only [Bool.and_eq_true, decide_eq_true_eq, Bool.not_eq_true'] at h
  refine ⟨by rw [hv, up_s]; exact h.1.2, fun s hs hl => ?_⟩
  rw [u 1 (by omega)] at hs
  have hl2 : sp_lv g s = true := by
    unfold sp_lv at hl ⊢
    rw [u (3 + s) (by omega)] at hl; exact hl
  have q := hV.2 s hs hl2
  rw [u (3 + s) (by omega), u (7 + s) (by omega), hv, hv, up_s]
  refine ⟨q.1, fun z => ⟨?_, (q.2 z).2⟩⟩
  have := sp_any_no.mp h.2 s hs
  simpa using this
end FT
