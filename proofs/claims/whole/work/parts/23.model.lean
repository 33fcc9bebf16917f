/-! the reference's methods that only read, over a net N and a page g -/
theorem in_eq (a b c : Int64) : fX6_in a b c = some (if b ≤ a ∧ a ≤ c then 1 else 0) := by
  unfold fX6_in
  by_cases h1 : lg_cmp a b < 0
  · have h2 : ¬ b ≤ a := fun q => by
      have := (lg_cmp_ge a b).mpr q
      rw [fa_le] at this
      rw [fa_lt] at h1
      omega
    rw [if_pos h1, if_neg (fun q => h2 q.1)]
  · have h2 : b ≤ a := (lg_cmp_ge a b).mp (fa_of_nlt h1)
    rw [if_neg h1]
    by_cases h3 : 0 < lg_cmp a c
    · rw [if_pos h3, if_neg (fun q => ?_)]
      have z := (lg_cmp_le a c).mpr q.2
      rw [fa_le] at z
      rw [fa_lt] at h3
      omega
    · rw [if_neg h3, if_pos ⟨h2, (lg_cmp_le a c).mp (fa_of_nlt h3)⟩]
theorem in_lo {v : Int32} {c : Int64} (h : v < 0) : fX6_in v.toInt64 0 c = some 0 := by
  rw [in_eq, if_neg]
  rintro ⟨q, -⟩
  have : ((0 : Int32).toInt64) ≤ v.toInt64 := q
  rw [fa_wide_le] at this
  rw [fa_lt] at h
  rw [fa_le] at this
  omega
theorem in_hi {v c : Int32} (h : ¬ v ≤ c) : fX6_in v.toInt64 0 c.toInt64 = some 0 := by
  rw [in_eq, if_neg]
  rintro ⟨-, q⟩
  exact h ((fa_wide_le v c).mp q)
theorem in_in {v c : Int32} (h0 : 0 ≤ v) (h : v ≤ c) : fX6_in v.toInt64 0 c.toInt64 = some 1 := by
  rw [in_eq, if_pos]
  exact ⟨(fa_wide_le 0 v).mpr h0, (fa_wide_le v c).mpr h⟩
section QM
variable {N : sN} {g : Nat → Nat} {M : dk_O} {w : Nat → Int32}
theorem i_3 (s : Nat) : (3 : Int32) + nI s = nI (3 + s) := nI_add 3 s
theorem i_7 (s : Nat) : (7 : Int32) + nI s = nI (7 + s) := nI_add 7 s
theorem i_11 (s : Nat) : (11 : Int32) + nI s = nI (11 + s) := nI_add 11 s
/-- a number against how many there are -/
theorem no_in {k n : Nat} (h : k < n) (hn : n < 1000) : fX6_in (nI k).toInt64 0 ((nI n - 1).toInt64) = some 1 := by
  have e : nI n - 1 = nI (n - 1) := pk_sub (b := 1) (by omega)
  rw [e]
  exact in_in (nI_pos' (by omega)) (nI_le (by omega) (by omega))
theorem no_out {v : Int32} {n : Nat} (hn0 : 0 < n) (hn : n < 1000) (h : v < 0 ∨ nI n ≤ v) : fX6_in v.toInt64 0 ((nI n - 1).toInt64) = some 0 := by
  have e : nI n - 1 = nI (n - 1) := pk_sub (b := 1) (by omega)
  rw [e]
  rcases h with h | h
  · exact in_lo h
  · refine in_hi (fun q => ?_)
    rw [fa_le, nI_toInt (by omega)] at h
    rw [fa_le, nI_toInt (by omega)] at q
    omega
theorem no_none (v : Int32) : fX6_in v.toInt64 0 ((nI 0 - 1).toInt64) = some 0 := by
  by_cases h : v < 0
  · exact in_lo h
  · refine in_hi (fun q => ?_)
    have e : (nI 0 - 1).toInt = -1 := by decide
    rw [fa_le, e] at q
    rw [fa_lt] at h
    have : (0 : Int32).toInt = 0 := rfl
    omega
theorem m_noPlace_in (hN : sp_wN N) (hM : sp_RN M N) {p : Nat} (hp : p < sp_n N) : fX6_noPlace M (nI p) = some 0 := by
  have h8 := hN.2.1
  unfold fX6_noPlace
  rw [hM.1, no_in hp (by omega), sb_, if_neg (by decide)]
theorem m_noPlace_out (hN : sp_wN N) (hM : sp_RN M N) {v : Int32} (h : v < 0 ∨ nI (sp_n N) ≤ v) : fX6_noPlace M v = some 1 := by
  have h8 := hN.2.1
  have h2 := hN.1
  unfold fX6_noPlace
  rw [hM.1, no_out (by omega) (by omega) h, sb_, if_pos rfl]
theorem m_noEdge_in (hN : sp_wN N) (hM : sp_RN M N) {e : Nat} (he : e < sp_E N) : fX6_noEdge M (nI e) = some 0 := by
  have hE := hN.2.2.2.1
  unfold fX6_noEdge
  rw [hM.2.2.1, no_in he (by omega), sb_, if_neg (by decide)]
theorem m_noEdge_out (hN : sp_wN N) (hM : sp_RN M N) {v : Int32} (h : v < 0 ∨ nI (sp_E N) ≤ v) : fX6_noEdge M v = some 1 := by
  have hE := hN.2.2.2.1
  unfold fX6_noEdge
  rw [hM.2.2.1]
  by_cases z : sp_E N = 0
  · rw [z, no_none, sb_, if_pos rfl]
  · rw [no_out (by omega) (by omega) h, sb_, if_pos rfl]
theorem m_lives (hw : sp_RP w g) {s : Nat} (hs : s < 4) (h : g (3 + s) < 100) : fX6_lives w (nI s) = some (if sp_lv g s = true then 1 else 0) := by
  unfold fX6_lives
  rw [i_3, rd_nI (by omega) (by omega), sb_, hw _ (by omega)]
  by_cases q : g (3 + s) = 9
  · rw [if_pos (by rw [q]; rfl), if_neg (by simp [sp_lv, q])]
  · rw [if_neg (show ¬ nI (g (3 + s)) = 9 from fun z => q ((nI_eq (b := 9) (by omega) (by omega)).mp z)), if_pos (by simp [sp_lv, q])]
theorem m_living_L (hN : sp_wN N) (hP : sp_wP N g) (hw : sp_RP w g) : ∀ d i fu, i + d = g 1 → d < fu → fX6_living_L4 w fu (nI (fb_ct (sp_lv g) i)) (nI i) = some (nI (fb_ct (sp_lv g) (g 1)))
  | 0, i, fu, h1, h2 => by
    have h4 := hP.2.2.1
    obtain ⟨fu, rfl⟩ : ∃ k, fu = k + 1 := ⟨fu - 1, by omega⟩
    have e1 : dk_rd w 21 1 = some (nI (g 1)) := by rw [← hw 1 (by omega)]; exact rd_nI (k := 1) (by omega) (by omega)
    rw [fX6_living_L4, e1, sb_, if_pos (nI_le (by omega) (by omega)), show i = g 1 by omega]
  | d + 1, i, fu, h1, h2 => by
    have h4 := hP.2.2.1
    obtain ⟨fu, rfl⟩ : ∃ k, fu = k + 1 := ⟨fu - 1, by omega⟩
    have e1 : dk_rd w 21 1 = some (nI (g 1)) := by rw [← hw 1 (by omega)]; exact rd_nI (k := 1) (by omega) (by omega)
    have hb := wP_at hN hP (show i < 4 by omega)
    rw [fX6_living_L4, e1, sb_, if_neg (nI_ge (by omega) (by omega)), m_lives hw (by omega) (by omega), sb_]
    have ih := m_living_L hN hP hw d (i + 1) fu (by omega) (by omega)
    rw [fb_ct_succ] at ih
    by_cases q : sp_lv g i = true
    · rw [if_pos q] at ih ⊢
      rw [if_neg (by decide), nI_1, nI_1]
      exact ih
    · rw [if_neg q] at ih ⊢
      rw [if_pos rfl, nI_1]
      have e0 : nI (fb_ct (sp_lv g) i) + 0 = nI (fb_ct (sp_lv g) i + 0) := nI_add _ 0
      rw [e0]
      exact ih
theorem m_living (hN : sp_wN N) (hP : sp_wP N g) (hw : sp_RP w g) : fX6_living w = some (nI (sp_nl g)) := by
  have h4 := hP.2.2.1
  unfold fX6_living
  exact m_living_L hN hP hw (g 1) 0 1000 (by omega) (by omega)
theorem one_en (hN : sp_wN N) {e : Nat} (he : e < sp_E N) : ((1 : Int32) <<< (nI (sp_a N e) &&& 31)) ||| ((1 : Int32) <<< (nI (sp_b N e) &&& 31)) = ms (sp_en N e) 8 := by
  have h8 := hN.2.1
  have hw := hN.2.2.2.2 e he
  rw [ms_one (k := 8) (by omega) (by omega), ms_one (k := 8) (by omega) (by omega), ms_or (by omega)]
  refine ms_cong (fun i _ => ?_)
  simp only [sp_en]
  congr 1 <;> exact decide_eq_decide.mpr ⟨fun h => h.symm, fun h => h.symm⟩
theorem m_visited_L (hN : sp_wN N) (hP : sp_wP N g) (hM : sp_RN M N) (hw : sp_RP w g) : ∀ d i fu, i + d = sp_E N → d < fu → fX6_visited_L9 M w fu (ms (fun p => decide (p = sp_h N) || sp_any (fun e => sp_sf g e && sp_en N e p) i) 8) (nI i) = some (ms (sp_vis N g) 8)
  | 0, i, fu, h1, h2 => by
    have hE := hN.2.2.2.1
    obtain ⟨fu, rfl⟩ : ∃ k, fu = k + 1 := ⟨fu - 1, by omega⟩
    rw [fX6_visited_L9, hM.2.2.1, if_pos (nI_le (by omega) (by omega)), show i = sp_E N by omega]
    rfl
  | d + 1, i, fu, h1, h2 => by
    have hE := hN.2.2.2.1
    obtain ⟨fu, rfl⟩ : ∃ k, fu = k + 1 := ⟨fu - 1, by omega⟩
    have ih := m_visited_L hN hP hM hw d (i + 1) fu (by omega) (by omega)
    rw [fX6_visited_L9, hM.2.2.1, if_neg (nI_ge (by omega) (by omega)), i_11, rd_nI (by omega) (by omega), sb_, hw _ (by omega)]
    by_cases q : g (11 + i) = 2
    · have s1 : sp_sf g i = true := by simp [sp_sf, q]
      rw [if_pos (by rw [q]; rfl), rd_nI (by omega) (by omega), sb_, rd_nI (by omega) (by omega), sb_, (hM.2.2.2 i (by omega)).1, (hM.2.2.2 i (by omega)).2, one_en hN (by omega), ms_or (by omega), nI_1]
      rw [← ih]
      congr 1
      refine ms_cong (fun p _ => ?_)
      rw [sp_any, s1, Bool.true_and, Bool.or_assoc]
    · have s1 : sp_sf g i = false := by simp [sp_sf, q]
      have h2 := hP.2.2.2.2.2.1 i (by omega)
      rw [if_neg (show ¬ nI (g (11 + i)) = 2 from fun z => q ((nI_eq (b := 2) (by omega) (by omega)).mp z)), or_0, nI_1, ← ih]
      congr 1
      refine ms_cong (fun p _ => ?_)
      rw [sp_any, s1, Bool.false_and, Bool.or_false]
theorem m_visited (hN : sp_wN N) (hP : sp_wP N g) (hM : sp_RN M N) (hw : sp_RP w g) : fX6_visited M w = some (ms (sp_vis N g) 8) := by
  have hE := hN.2.2.2.1
  have h8 := hN.2.1
  have hh := hN.2.2.1
  unfold fX6_visited
  have h := m_visited_L hN hP hM hw (sp_E N) 0 1000 (by omega) (by omega)
  rw [hM.2.1, ms_one (k := 8) (by omega) (by omega)]
  rw [← h]
  congr 1
  refine ms_cong (fun p _ => ?_)
  simp [sp_any]
theorem m_mayBe (hN : sp_wN N) (hP : sp_wP N g) (hM : sp_RN M N) (hw : sp_RP w g) : fX6_mayBe M w = some (ms (sp_mb N g) 8) := by
  have h8 := hN.2.1
  unfold fX6_mayBe
  rw [m_visited hN hP hM hw, sb_, hM.1, ms_full8 _ (by omega), ms_andn (by omega)]
  rfl
theorem m_isKnown (hN : sp_wN N) (hP : sp_wP N g) (hM : sp_RN M N) (hw : sp_RP w g) : fX6_isKnown M w = some (if sp_kn N g = true then 1 else 0) := by
  unfold fX6_isKnown
  rw [m_mayBe hN hP hM hw, sb_, ones_ms8, sb_]
  have hl := fb_ct_le (sp_mb N g) 8
  by_cases q : fb_ct (sp_mb N g) 8 = 1
  · rw [if_pos (by rw [q]; rfl), if_pos (by simp [sp_kn, q])]
  · rw [if_neg (show ¬ nI (fb_ct (sp_mb N g) 8) = 1 from fun z => q ((nI_eq (b := 1) (by omega) (by omega)).mp z)), if_neg (by simp [sp_kn, q])]
theorem m_ends (hN : sp_wN N) (hM : sp_RN M N) {e p : Nat} (he : e < sp_E N) (hp : p < 100) : fX6_ends M (nI e) (nI p) = some (if sp_en N e p = true then 1 else 0) := by
  have hE := hN.2.2.2.1
  have h8 := hN.2.1
  have hw := hN.2.2.2.2 e he
  unfold fX6_ends
  rw [rd_nI (by omega) (by omega), sb_, (hM.2.2.2 e he).1, rd_nI (by omega) (by omega), sb_, (hM.2.2.2 e he).2]
  by_cases q : sp_a N e = p
  · rw [if_pos (by rw [q]), if_pos (by simp [sp_en, q])]
  · rw [if_neg (fun z => q ((nI_eq (by omega) (by omega)).mp z))]
    by_cases r : sp_b N e = p
    · rw [if_pos (by rw [r]), if_pos (by simp [sp_en, r])]
    · rw [if_neg (fun z => r ((nI_eq (by omega) (by omega)).mp z)), if_neg (by simp [sp_en, q, r])]
theorem m_beyond (hN : sp_wN N) (hM : sp_RN M N) {e p : Nat} (he : e < sp_E N) (hp : p < 100) : fX6_beyond M (nI e) (nI p) = some (nI (sp_by N e p)) := by
  have hE := hN.2.2.2.1
  have h8 := hN.2.1
  have hw := hN.2.2.2.2 e he
  unfold fX6_beyond sp_by
  rw [rd_nI (by omega) (by omega), sb_, (hM.2.2.2 e he).1, rd_nI (by omega) (by omega), sb_, (hM.2.2.2 e he).2]
  by_cases q : sp_a N e = p
  · rw [if_pos (by rw [q]), if_pos q]
  · rw [if_neg (fun z => q ((nI_eq (by omega) (by omega)).mp z)), if_neg q, sb_]
-- a step
theorem RP_up {v : Nat} (hw : sp_RP w g) {k : Nat} : sp_RP (upd w k (nI v)) (sp_up g k v) := by
  intro j hj
  unfold upd sp_up
  by_cases e : j = k
  · rw [if_pos e, if_pos e]
  · rw [if_neg e, if_neg e]; exact hw j hj
theorem rd_w (hw : sp_RP w g) {k : Nat} (hk : k < 21) : dk_rd w 21 (nI k) = some (nI (g k)) := by
  rw [rd_nI hk (by omega), hw k hk]
theorem pos_nI {x : Nat} (hx : x < 2 ^ 31) : nI x ≤ 0 ↔ ¬ 0 < x := by
  have := nI_leI (a := x) (b := 0) hx (by omega)
  exact this.trans (by omega)
theorem m_canStep (hN : sp_wN N) (hP : sp_wP N g) (hM : sp_RN M N) (hw : sp_RP w g) {s e : Nat} (hs : s < 1000) (he : e < 1000) : fX6_canStep M w (nI s) (nI e) = some (if sp_cs N g s e = true then 1 else 0) := by
  have h4 := hP.2.2.1
  have hE := hN.2.2.2.1
  have h8 := hN.2.1
  have r1 : dk_rd w 21 1 = some (nI (g 1)) := rd_w hw (k := 1) (by omega)
  unfold fX6_canStep
  rw [r1, sb_, hM.2.2.1]
  by_cases a1 : s < g 1
  · rw [if_neg (nI_ge a1 (by omega))]
    by_cases a2 : e < sp_E N
    · rw [if_neg (nI_ge a2 (by omega))]
      have hb := wP_at hN hP (show s < 4 by omega)
      have ho := wP_ot hN hP (show s < 4 by omega)
      have h2 := hP.2.2.2.2.2.1 e (by omega)
      have hab := hN.2.2.2.2 e a2
      rw [m_lives hw (by omega) (by omega), sb_]
      by_cases a3 : sp_lv g s = true
      · rw [if_pos a3, if_neg (by decide), i_3, rd_w hw (by omega), sb_, m_ends hN hM a2 (by omega), sb_]
        by_cases a4 : sp_en N e (g (3 + s)) = true
        · rw [if_pos a4, if_neg (by decide), i_7, rd_w hw (by omega), sb_]
          by_cases a5 : 0 < g (7 + s)
          · rw [if_neg (fun z => (pos_nI (by omega)).mp z a5), sb_, nI_1]
            by_cases a6 : g (7 + s) = e + 1
            · rw [if_pos (by rw [a6]), if_pos (by simp [sp_cs, a1, a2, a3, a4, a6])]
            · rw [if_neg (fun z => a6 ((nI_eq (by omega) (by omega)).mp z)), if_neg (by simp [sp_cs, a5, a6])]
          · rw [if_pos ((pos_nI (by omega)).mpr a5), m_mayBe hN hP hM hw, sb_, ones_ms8, sb_]
            have hl := fb_ct_le (sp_mb N g) 8
            have fin : ∀ t : Bool, fX6_canStep_L114 M w (nI e) (if t = true then 1 else 0) = some (if (sp_sf g e || (sp_un g e && !t)) = true then 1 else 0) := by
              intro t
              unfold fX6_canStep_L114
              rw [i_11, rd_w hw (by omega), sb_]
              have h3 : g (11 + e) = 0 ∨ g (11 + e) = 1 ∨ g (11 + e) = 2 := by omega
              rcases h3 with h | h | h <;> cases t <;> simp [h, sp_sf, sp_un, sb_] <;> decide
            have f0 := fin false
            have f1 := fin true
            simp only [Bool.false_eq_true, if_false, if_true] at f0 f1
            by_cases a6 : fb_ct (sp_mb N g) 8 = 1
            · have kk : sp_kn N g = true := by simp [sp_kn, a6]
              rw [if_pos (by rw [a6]; rfl), rd_nI (by omega) (by omega), sb_, (hM.2.2.2 e a2).1, has_ms (by omega) (by omega), sb_, rd_nI (by omega) (by omega), sb_, (hM.2.2.2 e a2).2, has_ms (by omega) (by omega), sb_]
              have l1 : decide (sp_a N e < 8) = true := by simp; omega
              have l2 : decide (sp_b N e < 8) = true := by simp; omega
              rw [l1, l2, Bool.true_and, Bool.true_and]
              cases b1 : sp_mb N g (sp_a N e)
              · rw [show (if false = true then (1 : Int32) else 0) = 0 from rfl, if_pos rfl]
                cases b2 : sp_mb N g (sp_b N e)
                · rw [show (if false = true then (1 : Int32) else 0) = 0 from rfl, if_pos rfl, f0]
                  simp [sp_cs, a1, a2, a3, a4, a5, kk, b1, b2]
                · rw [show (if true = true then (1 : Int32) else 0) = 1 from rfl, if_neg (by decide), f1]
                  simp [sp_cs, a1, a2, a3, a4, a5, kk, b1, b2]
              · rw [show (if true = true then (1 : Int32) else 0) = 1 from rfl, if_neg (by decide), f1]
                simp [sp_cs, a1, a2, a3, a4, a5, kk, b1]
            · have kk : sp_kn N g = false := by simp [sp_kn, a6]
              rw [if_neg (show ¬ nI (fb_ct (sp_mb N g) 8) = 1 from fun z => a6 ((nI_eq (b := 1) (by omega) (by omega)).mp z)), f0]
              simp [sp_cs, a1, a2, a3, a4, a5, kk]
        · rw [if_neg a4, if_pos rfl, if_neg (by simp [sp_cs, a4])]
      · rw [if_neg a3, if_pos rfl, if_neg (by simp [sp_cs, a3])]
    · rw [if_pos (nI_le (by omega) (by omega)), if_neg (by simp [sp_cs, a2])]
  · rw [if_pos (nI_le (by omega) (by omega)), if_neg (by simp [sp_cs, a1])]
theorem m_stepOn (hN : sp_wN N) (hP : sp_wP N g) (hM : sp_RN M N) (hw : sp_RP w g) {s e : Nat} (hs : s < 4) (he : e < sp_E N) (hl : sp_lv g s = true) : ∃ w', fX6_stepOn M w (nI s) (nI e) = some w' ∧ sp_RP w' (sp_st N g s e) := by
  have hE := hN.2.2.2.1
  have h8 := hN.2.1
  have hb := wP_at hN hP hs
  have ho := wP_ot hN hP hs
  have h0 := hP.1
  have h2 := hP.2.2.2.2.2.1 e (by omega)
  have hy := by_lt (p := g (3 + s)) hN he
  have fin : ∀ (w1 : Nat → Int32) (g1 : Nat → Nat), sp_RP w1 g1 → fX6_stepOn_L113 M w w1 = some (upd w1 2 (nI (g1 2 + 1))) := by
    intro w1 g1 h1
    unfold fX6_stepOn_L113
    have r2 : dk_rd w1 21 2 = some (nI (g1 2)) := rd_w h1 (k := 2) (by omega)
    have w2 : ∀ x, dk_wr w1 21 2 x = some (upd w1 2 x) := fun x => wr_nI (k := 2) (by omega) (by omega)
    rw [r2, sb_, w2, sb_, nI_1]
  unfold fX6_stepOn
  rw [i_3, rd_w hw (by omega), sb_, m_beyond hN hM he (by omega), sb_, i_7, rd_w hw (by omega), sb_]
  unfold sp_st
  by_cases a1 : 0 < g (7 + s)
  · rw [if_neg (fun z => (pos_nI (by omega)).mp z a1), if_pos a1]
    have w1 : dk_wr w 21 (nI (7 + s)) 0 = some (upd w (7 + s) (nI 0)) := wr_nI (by omega) (by omega)
    rw [w1, sb_, i_11]
    have w2 : dk_wr (upd w (7 + s) (nI 0)) 21 (nI (11 + e)) 2 = some (upd (upd w (7 + s) (nI 0)) (11 + e) (nI 2)) := wr_nI (by omega) (by omega)
    rw [w2, sb_, wr_nI (by omega) (by omega), sb_]
    have R3 := RP_up (v := sp_by N e (g (3 + s))) (k := 3 + s) (RP_up (v := 2) (k := 11 + e) (RP_up (v := 0) (k := 7 + s) hw))
    refine ⟨_, fin _ _ R3, ?_⟩
    have e2 : sp_up (sp_up (sp_up g (7 + s) 0) (11 + e) 2) (3 + s) (sp_by N e (g (3 + s))) 2 = g 2 := by
      rw [up_n (by omega), up_n (by omega), up_n (by omega)]
    rw [e2]
    exact RP_up R3
  · rw [if_pos ((pos_nI (by omega)).mpr a1), if_neg a1, i_11, rd_w hw (by omega), sb_]
    by_cases a2 : g (11 + e) = 2
    · rw [if_pos (by rw [a2]; rfl), if_pos a2, wr_nI (by omega) (by omega), sb_]
      have R3 := RP_up (v := sp_by N e (g (3 + s))) (k := 3 + s) hw
      refine ⟨_, fin _ _ R3, ?_⟩
      have e2 : sp_up g (3 + s) (sp_by N e (g (3 + s))) 2 = g 2 := by rw [up_n (by omega)]
      rw [e2]
      exact RP_up R3
    · rw [if_neg (show ¬ nI (g (11 + e)) = 2 from fun z => a2 ((nI_eq (b := 2) (by omega) (by omega)).mp z)), if_neg a2]
      have w1 : dk_wr w 21 (nI (11 + e)) 1 = some (upd w (11 + e) (nI 1)) := wr_nI (by omega) (by omega)
      rw [w1, sb_]
      have R1 := RP_up (v := 1) (k := 11 + e) hw
      have r0 : dk_rd (upd w (11 + e) (nI 1)) 21 0 = some (nI (g 0)) := by
        have := rd_w R1 (k := 0) (by omega)
        rw [up_n (by omega)] at this
        exact this
      rw [r0, sb_]
      have fin2 : ∀ (x y : Nat), (x = if sp_by N e (g (3 + s)) = g 0 then 9 else sp_by N e (g (3 + s))) → (y = if sp_by N e (g (3 + s)) = g 0 then 0 else e + 1) → ∃ w', fX6_stepOn_L91 M w (nI s) (nI e) (nI (sp_by N e (g (3 + s)))) (nI (3 + s)) (nI x) (upd w (11 + e) (nI 1)) = some w' ∧ sp_RP w' (sp_up (sp_up (sp_up (sp_up g (11 + e) 1) (3 + s) x) (7 + s) y) 2 (g 2 + 1)) := by
        intro x y hx hy2
        have R2 := RP_up (v := x) (k := 3 + s) R1
        have R3 := RP_up (v := y) (k := 7 + s) R2
        have e2 : sp_up (sp_up (sp_up g (11 + e) 1) (3 + s) x) (7 + s) y 2 = g 2 := by
          rw [up_n (by omega), up_n (by omega), up_n (by omega)]
        have r3 : dk_rd (upd (upd w (11 + e) (nI 1)) (3 + s) (nI x)) 21 0 = some (nI (g 0)) := by
          have := rd_w R2 (k := 0) (by omega)
          rw [up_n (by omega), up_n (by omega)] at this
          exact this
        unfold fX6_stepOn_L91
        rw [wr_nI (by omega) (by omega), sb_, r3, sb_]
        have f3 := fin _ _ R3
        rw [e2] at f3
        have l112 : fX6_stepOn_L112 M w (7 + nI s) (nI y) (upd (upd w (11 + e) (nI 1)) (3 + s) (nI x)) = some (upd (upd (upd (upd w (11 + e) (nI 1)) (3 + s) (nI x)) (7 + s) (nI y)) 2 (nI (g 2 + 1))) := by
          unfold fX6_stepOn_L112
          rw [i_7, wr_nI (by omega) (by omega), sb_, f3]
        refine ⟨_, ?_, RP_up R3⟩
        by_cases q : sp_by N e (g (3 + s)) = g 0
        · rw [if_pos (by rw [q]), ← l112, hy2, if_pos q]
          rfl
        · rw [if_neg (fun z => q ((nI_eq (by omega) (by omega)).mp z)), ← l112, hy2, if_neg q, nI_1]
      obtain ⟨w', h1, h2⟩ := fin2 _ _ rfl rfl
      refine ⟨w', ?_, h2⟩
      by_cases q : sp_by N e (g (3 + s)) = g 0
      · rw [if_pos (by rw [q]), ← h1, if_pos q]
        rfl
      · rw [if_neg (fun z => q ((nI_eq (by omega) (by omega)).mp z)), ← h1, if_neg q]
end QM
