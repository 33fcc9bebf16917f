/-! the class's caution: towards a goal; the edge that it tells -/
section CB
variable {N : sN} {g : Nat → Nat} {T G : dk_O}
/-- what nearest means -/
theorem nd_facts {p : Nat} (h : sp_nd N g p < 8) : sp_nq N g p < 8 ∧ sp_go N g (sp_nq N g p) = true ∧ sp_rs N g p (sp_nd N g p) (sp_nq N g p) = true ∧ ∀ k, k < sp_nd N g p → sp_rs N g p k (sp_nq N g p) = false := by
  have h1 := fa_first_yes (fun d => sp_any (fun q => sp_go N g q && sp_rs N g p d q) 8) 8 h
  obtain ⟨q, hq1, hq2⟩ := sp_any_iff.mp h1
  have fl : sp_nq N g p < 8 := first_lt (f := fun q => sp_go N g q && sp_rs N g p (sp_nd N g p) q) hq1 hq2
  have fy := fa_first_yes (fun q => sp_go N g q && sp_rs N g p (sp_nd N g p) q) 8 fl
  rw [Bool.and_eq_true] at fy
  refine ⟨fl, fy.1, fy.2, fun k hk => ?_⟩
  have h2 := fa_first_no (fun d => sp_any (fun q => sp_go N g q && sp_rs N g p d q) 8) 8 k hk
  have h3 := sp_any_no.mp h2 (sp_nq N g p) fl
  have g1 : sp_go N g (sp_nq N g p) = true := fy.1
  rw [g1, Bool.true_and] at h3
  exact h3
theorem tw_facts {p : Nat} (h : sp_nd N g p < 8) (h0 : sp_go N g p = false) : 1 ≤ sp_nd N g p ∧ (∀ k, k < sp_nd N g p → sp_rs N g (sp_nq N g p) k p = false) ∧ sp_rs N g (sp_nq N g p) (sp_nd N g p) p = true := by
  obtain ⟨f1, f2, f3, f4⟩ := nd_facts h
  refine ⟨?_, fun k hk => ?_, rs_sym f3⟩
  · rcases Nat.eq_zero_or_pos (sp_nd N g p) with z | z
    · rw [z, rs_0] at f3
      rw [f3, h0] at f2
      cases f2
    · exact z
  · cases z : sp_rs N g (sp_nq N g p) k p
    · rfl
    · have := rs_sym z
      rw [f4 k hk] at this
      cases this
theorem tw_set (hN : sp_wN N) {p Q d e : Nat} (he : e < sp_E N) (h1 : sp_en N e p = true) (h2 : sp_rs N g Q d p = false) : (sp_rs N g Q d (sp_a N e) || sp_rs N g Q d (sp_b N e)) = sp_rs N g Q d (sp_by N e p) := by
  unfold sp_by
  by_cases a : sp_a N e = p
  · rw [if_pos a, a, h2, Bool.false_or]
  · rw [if_neg a]
    rcases en_iff.mp h1 with z | z
    · exact absurd z a
    · rw [z, h2, Bool.or_false]
theorem q_tow_L (hN : sp_wN N) (hG : sp_RG G N) (hT : sp_RT T N g) {p : Nat} (hp : p < sp_n N) (h : sp_nd N g p < 8) (h0 : sp_go N g p = false) : ∀ d k fu, k + d = sp_nd N g p → 1 ≤ k → d < fu → fX3_edgeTowards_L7 T G fu (nI p) (ms (sp_rs N g (sp_nq N g p) (k - 1)) 8) (nI k) = some (nI (sp_tw N g p)) ∧ sp_tw N g p < sp_E N := by
  obtain ⟨t1, t2, t3⟩ := tw_facts h h0
  have h8 := hN.2.1
  have hE := hN.2.2.2.1
  have setE : ∀ k, 1 ≤ k → k ≤ sp_nd N g p → (ms (fun e => decide (e < sp_E N) && sp_en N e p) 10 &&& T.1 7) &&& ms (fun e => decide (e < sp_E N) && (sp_rs N g (sp_nq N g p) (k - 1) (sp_a N e) || sp_rs N g (sp_nq N g p) (k - 1) (sp_b N e))) 10 = ms (fun e => decide (e < sp_E N) && (sp_sf g e && (sp_en N e p && sp_rs N g (sp_nq N g p) (k - 1) (sp_by N e p)))) 10 := by
    intro k hk1 hk2
    rw [RT_sf hT, ms_and (by omega), ms_and (by omega)]
    refine ms_cong (fun e _ => ?_)
    by_cases a : e < sp_E N
    · cases b : sp_en N e p
      · simp
      · rw [tw_set hN a b (t2 (k - 1) (by omega))]
        simp [a]
    · simp [a]
  intro d
  induction d with
  | zero =>
    intro k fu hk1 hk2 hf
    obtain ⟨fu, rfl⟩ : ∃ k, fu = k + 1 := ⟨fu - 1, by omega⟩
    have hk : k = sp_nd N g p := by omega
    rw [fX3_edgeTowards_L7, if_neg (by exact nI_ge (b := 8) (by omega) (by omega)), q_edgesFrom hG (by omega), sb_, q_atAny hN hG, sb_, setE k hk2 (by omega)]
    -- there is one
    have ex : ∃ e, e < sp_E N ∧ (sp_sf g e && (sp_en N e p && sp_rs N g (sp_nq N g p) (sp_nd N g p - 1) (sp_by N e p))) = true := by
      have h3 := t3
      rw [show sp_nd N g p = (sp_nd N g p - 1) + 1 by omega] at h3
      rcases rs_s.mp h3 with z | ⟨r, ⟨e, e1, e2, e3, e4⟩, z⟩
      · rw [t2 (sp_nd N g p - 1) (by omega)] at z; cases z
      · refine ⟨e, e1, ?_⟩
        rw [e2, e3, Bool.true_and, Bool.true_and]
        have hr : r = sp_by N e p := by
          rcases (en_two hN e1 e3).mp e4 with y | y
          · rw [y, t2 (sp_nd N g p - 1) (by omega)] at z; cases z
          · exact y
        rw [← hr]; exact z
    obtain ⟨e, e1, e2⟩ := ex
    have fl : sp_tw N g p < sp_E N := first_lt (f := fun e => sp_sf g e && (sp_en N e p && sp_rs N g (sp_nq N g p) (sp_nd N g p - 1) (sp_by N e p))) e1 e2
    refine ⟨?_, fl⟩
    rw [hk]
    rw [if_neg (fun z => ?_)]
    · rw [least_ms, sb_]
      have e3 := fa_first_widen (f := fun e => sp_sf g e && (sp_en N e p && sp_rs N g (sp_nq N g p) (sp_nd N g p - 1) (sp_by N e p))) (k := sp_E N) (10 - sp_E N) fl
      rw [show sp_E N + (10 - sp_E N) = 10 by omega] at e3
      rw [e3]
      rfl
    · have := (ms_zero (by omega)).mp z e (by omega)
      rw [e2] at this
      simp [e1] at this
  | succ d ih =>
    intro k fu hk1 hk2 hf
    obtain ⟨fu, rfl⟩ : ∃ k, fu = k + 1 := ⟨fu - 1, by omega⟩
    have ih2 := ih (k + 1) fu (by omega) (by omega) (by omega)
    rw [fX3_edgeTowards_L7, if_neg (by exact nI_ge (b := 8) (by omega) (by omega)), q_edgesFrom hG (by omega), sb_, q_atAny hN hG, sb_, setE k hk2 (by omega)]
    rw [if_pos ((ms_zero (by omega)).mpr (fun e _ => ?_))]
    · have wd := q_widen hN hG hT (p := sp_nq N g p) (d := k - 1)
      rw [show k - 1 + 1 = k by omega] at wd
      rw [wd, sb_, nI_1]
      rw [show k + 1 - 1 = k by omega] at ih2
      exact ih2
    · by_cases a : e < sp_E N
      · cases b : (sp_sf g e && (sp_en N e p && sp_rs N g (sp_nq N g p) (k - 1) (sp_by N e p)))
        · simp
        · exfalso
          simp only [Bool.and_eq_true] at b
          obtain ⟨b1, b2, b3⟩ := b
          have : sp_rs N g (sp_nq N g p) (k - 1 + 1) p = true := rs_s.mpr (Or.inr ⟨sp_by N e p, ⟨e, a, b1, b2, by_en⟩, b3⟩)
          rw [show k - 1 + 1 = k by omega, t2 k (by omega)] at this
          cases this
      · simp [a]
theorem q_tow (hN : sp_wN N) (hG : sp_RG G N) (hT : sp_RT T N g) {p : Nat} (hp : p < sp_n N) (h : sp_nd N g p < 8) (h0 : sp_go N g p = false) : fX3_edgeTowards T G (nI (sp_nq N g p)) (nI p) = some (nI (sp_tw N g p)) ∧ sp_tw N g p < sp_E N := by
  obtain ⟨t1, t2, t3⟩ := tw_facts h h0
  have f1 := (nd_facts h).1
  unfold fX3_edgeTowards
  rw [ms_one (k := 8) f1 (by omega)]
  have := q_tow_L hN hG hT hp h h0 (sp_nd N g p - 1) 1 1000 (by omega) (by omega) (by omega)
  exact this
theorem ua_go {p : Nat} : sp_ua N g p < sp_E N ↔ sp_go N g p = true := by
  unfold sp_go
  rw [sp_any_iff]
  constructor
  · intro h
    exact ⟨_, h, fa_first_yes _ _ h⟩
  · rintro ⟨e, h1, h2⟩
    exact first_lt (f := fun e => sp_un g e && sp_en N e p) h1 h2
theorem q_care (hN : sp_wN N) (hP : sp_wP N g) (hG : sp_RG G N) (hT : sp_RT T N g) {s : Nat} (hs : s < g 1) : fX3_cautiousEdge T G (nI s) = some (if sp_ch N g s < sp_E N then nI (sp_ch N g s) else -9) := by
  have h4 := hP.2.2.1
  have h8 := hN.2.1
  have hE := hN.2.2.2.1
  have ho := wP_ot hN hP (show s < 4 by omega)
  unfold fX3_cautiousEdge
  rw [q_lives_in hN hP hT hs, sb_]
  by_cases a1 : sp_lv g s = true
  · have hp := wP_pl hN hP (show s < 4 by omega) a1
    rw [if_pos a1, if_neg (by decide), rd_nI (by omega) (by omega), sb_, RT_ot hT (by omega)]
    by_cases a2 : g (7 + s) = 0
    · rw [if_pos ((ot_m9 (by omega)).mpr a2), q_isKnown hN hG hT, sb_]
      by_cases a3 : sp_kn N g = true
      · rw [if_pos a3, if_neg (by decide), if_neg]
        unfold sp_ch
        rw [if_neg (by simp [a1]), if_neg (by omega), if_pos a3]; omega
      · rw [if_neg a3, if_pos rfl, rd_nI (by omega) (by omega), sb_, RT_at hT (by omega), pl_n (lv_true.mp a1), q_edgesFrom hG (by omega), sb_, RT_un hT, ms_and (by omega)]
        have e1 : ms (fun i => (decide (i < sp_E N) && sp_en N i (g (3 + s))) && (decide (i < sp_E N) && sp_un g i)) 10 = ms (fun i => decide (i < sp_E N) && (sp_un g i && sp_en N i (g (3 + s)))) 10 := by
          refine ms_cong (fun i _ => ?_)
          by_cases q : i < sp_E N
          · simp [q, Bool.and_comm]
          · simp [q]
        rw [e1]
        by_cases a4 : sp_ua N g (g (3 + s)) < sp_E N
        · have ch : sp_ch N g s = sp_ua N g (g (3 + s)) := by
            unfold sp_ch
            rw [if_neg (by simp [a1]), if_neg (by omega), if_neg a3, if_pos a4]
          rw [if_neg (fun z => ?_), least_ms, sb_, ch, if_pos a4]
          · have e3 := fa_first_widen (f := fun i => sp_un g i && sp_en N i (g (3 + s))) (k := sp_E N) (10 - sp_E N) a4
            rw [show sp_E N + (10 - sp_E N) = 10 by omega] at e3
            rw [e3]
            rfl
          · have y := fa_first_yes (fun i => sp_un g i && sp_en N i (g (3 + s))) (sp_E N) a4
            have := (ms_zero (by omega)).mp z (fa_first (fun i => sp_un g i && sp_en N i (g (3 + s))) (sp_E N)) (by have : fa_first (fun i => sp_un g i && sp_en N i (g (3 + s))) (sp_E N) < sp_E N := a4; omega)
            rw [y] at this
            have a4' : fa_first (fun i => sp_un g i && sp_en N i (g (3 + s))) (sp_E N) < sp_E N := a4
            simp [a4'] at this
        · have h0 : sp_go N g (g (3 + s)) = false := by
            cases z : sp_go N g (g (3 + s))
            · rfl
            · exact absurd (ua_go.mpr z) a4
          rw [if_pos ((ms_zero (by omega)).mpr (fun i _ => ?_)), sb_, q_near hN hG hT hp h0, sb_]
          · by_cases a5 : sp_nd N g (g (3 + s)) < 8
            · obtain ⟨t1, t2⟩ := q_tow hN hG hT hp a5 h0
              have f1 := (nd_facts a5).1
              have ch : sp_ch N g s = sp_tw N g (g (3 + s)) := by
                unfold sp_ch
                rw [if_neg (by simp [a1]), if_neg (by omega), if_neg a3, if_neg a4, if_pos a5]
              rw [if_pos a5, if_neg (m9_ne (by omega)), sb_, t1, sb_, ch, if_pos t2]
            · have ch : sp_ch N g s = sp_E N := by
                unfold sp_ch
                rw [if_neg (by simp [a1]), if_neg (by omega), if_neg a3, if_neg a4, if_neg a5]
              rw [if_neg a5, if_pos rfl, if_neg (by omega)]
          · by_cases q : i < sp_E N
            · have := sp_any_no.mp h0 i q
              rw [this]; simp
            · simp [q]
    · rcases hP.2.2.2.2.1 s (by omega) with z | ⟨z1, z2, z3, z4, z5⟩
      · exact absurd z a2
      · have ch : sp_ch N g s = g (7 + s) - 1 := by
          unfold sp_ch
          rw [if_neg (by simp [a1]), if_pos (by omega)]
        rw [if_neg (fun q => a2 ((ot_m9 (by omega)).mp q)), sb_, ot_n a2, ch, if_pos (by omega)]
  · have ch : sp_ch N g s = sp_E N := by
      unfold sp_ch
      rw [if_pos (by simpa using a1)]
    rw [if_neg a1, if_pos rfl, ch, if_neg (by omega)]
end CB
