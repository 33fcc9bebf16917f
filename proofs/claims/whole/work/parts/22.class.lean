/-! the class's methods that only read, over a net N and a page g -/
def sp_pre (i : Nat) (f : Nat → Bool) : Nat → Bool := fun s => decide (s < i) && f s
theorem pre_0 {f : Nat → Bool} {k : Nat} (hk : k ≤ 32) : ms (sp_pre 0 f) k = 0 := by
  rw [ms_zero hk]
  intro i _
  simp [sp_pre]
theorem pre_t {f : Nat → Bool} {i k : Nat} (hi : i < k) (hk : k ≤ 32) (h : f i = true) : ms (sp_pre i f) k ||| ((1 : Int32) <<< (nI i &&& 31)) = ms (sp_pre (i + 1) f) k := by
  rw [ms_one hi hk, ms_or hk]
  refine ms_cong (fun j _ => ?_)
  unfold sp_pre
  by_cases e : j = i
  · subst e; simp [h]
  · by_cases l : j < i
    · simp [e, l, show j < i + 1 by omega]
    · simp [e, l, show ¬ j < i + 1 by omega]
theorem pre_f {f : Nat → Bool} {i k : Nat} (h : f i = false) : ms (sp_pre i f) k = ms (sp_pre (i + 1) f) k := by
  refine ms_cong (fun j _ => ?_)
  unfold sp_pre
  by_cases e : j = i
  · subst e; simp [h]
  · by_cases l : j < i
    · simp [l, show j < i + 1 by omega]
    · simp [l, show ¬ j < i + 1 by omega]
theorem or_0 (x : Int32) : x ||| 0 = x := by
  apply b_ext
  intro i _
  rw [b_or, b_0, Bool.or_false]
theorem pl_m9 {x : Nat} (h : x < 100) : sp_pl x = -9 ↔ x = 9 := by
  unfold sp_pl
  by_cases e : x = 9
  · simp [e]
  · rw [if_neg e]
    exact ⟨fun q => absurd q (m9_ne (by omega)), fun q => absurd q e⟩
theorem ot_m9 {x : Nat} (h : x < 100) : sp_ot x = -9 ↔ x = 0 := by
  unfold sp_ot
  by_cases e : x = 0
  · simp [e]
  · rw [if_neg e]
    exact ⟨fun q => absurd q (m9_ne (by omega)), fun q => absurd q e⟩
theorem pl_n {x : Nat} (h : x ≠ 9) : sp_pl x = nI x := if_neg h
theorem ot_n {x : Nat} (h : x ≠ 0) : sp_ot x = nI (x - 1) := if_neg h
section QC
variable {N : sN} {g : Nat → Nat} {T G : dk_O}
theorem wP_at (hN : sp_wN N) (hP : sp_wP N g) {s : Nat} (hs : s < 4) : g (3 + s) < 10 := by
  rcases hP.2.2.2.1 s hs with h | h
  · omega
  · have := hN.2.1; omega
theorem wP_ot (hN : sp_wN N) (hP : sp_wP N g) {s : Nat} (hs : s < 4) : g (7 + s) ≤ 10 := by
  have := hN.2.2.2.1
  rcases hP.2.2.2.2.1 s hs with h | h
  · omega
  · omega
theorem wP_pl (hN : sp_wN N) (hP : sp_wP N g) {s : Nat} (hs : s < 4) (h : sp_lv g s = true) : g (3 + s) < sp_n N := by
  rcases hP.2.2.2.1 s hs with e | e
  · simp [sp_lv, e] at h
  · exact e
theorem RT_at (hT : sp_RT T N g) {s : Nat} (hs : s < 4) : T.2 1 s = sp_pl (g (3 + s)) := hT.2.2.2.2.2.2.1 s hs
theorem RT_ot (hT : sp_RT T N g) {s : Nat} (hs : s < 4) : T.2 2 s = sp_ot (g (7 + s)) := hT.2.2.2.2.2.2.2 s hs
theorem RT_un (hT : sp_RT T N g) : T.1 6 = ms (fun e => decide (e < sp_E N) && sp_un g e) 10 := hT.2.2.2.1
theorem RT_sf (hT : sp_RT T N g) : T.1 7 = ms (fun e => decide (e < sp_E N) && sp_sf g e) 10 := hT.2.2.2.2.1
theorem RT_vi (hT : sp_RT T N g) : T.1 8 = ms (sp_vis N g) 8 := hT.2.2.2.2.2.1
theorem lv_true {s : Nat} : sp_lv g s = true ↔ g (3 + s) ≠ 9 := by simp [sp_lv]
theorem lv_false {s : Nat} : sp_lv g s = false ↔ g (3 + s) = 9 := by simp [sp_lv]
-- searchers
theorem q_isS_in (hT : sp_RT T N g) (h4 : g 1 ≤ 4) {s : Nat} (hs : s < g 1) : fX3_isSearcher T G (nI s) = some 1 := by
  unfold fX3_isSearcher
  rw [hT.1, if_neg (nI_pos (by omega)), if_neg (nI_ge hs (by omega))]
theorem q_isS_out (hT : sp_RT T N g) {v : Int32} (h : v < 0 ∨ nI (g 1) ≤ v) : fX3_isSearcher T G v = some 0 := by
  unfold fX3_isSearcher
  rw [hT.1]
  by_cases q : v < 0
  · rw [if_pos q]
  · rw [if_neg q, if_pos (h.resolve_left q)]
theorem q_lives_in (hN : sp_wN N) (hP : sp_wP N g) (hT : sp_RT T N g) {s : Nat} (hs : s < g 1) : fX3_lives T G (nI s) = some (if sp_lv g s = true then 1 else 0) := by
  have h4 := hP.2.2.1
  unfold fX3_lives
  rw [q_isS_in hT h4 hs, sb_, if_neg (by decide), rd_nI (by omega) (by omega), sb_, RT_at hT (by omega)]
  have hb := wP_at hN hP (show s < 4 by omega)
  by_cases q : g (3 + s) = 9
  · rw [if_pos ((pl_m9 (by omega)).mpr q), if_neg (by simp [sp_lv, q])]
  · rw [if_neg (fun z => q ((pl_m9 (by omega)).mp z)), if_pos (by simp [sp_lv, q])]
theorem q_lives_out (hT : sp_RT T N g) {v : Int32} (h : v < 0 ∨ nI (g 1) ≤ v) : fX3_lives T G v = some 0 := by
  unfold fX3_lives
  rw [q_isS_out hT h, sb_, if_pos rfl]
theorem q_placeOf_in (hP : sp_wP N g) (hT : sp_RT T N g) {s : Nat} (hs : s < g 1) : fX3_placeOf T G (nI s) = some (sp_pl (g (3 + s))) := by
  have h4 := hP.2.2.1
  unfold fX3_placeOf
  rw [q_isS_in hT h4 hs, sb_, if_neg (by decide), rd_nI (by omega) (by omega), sb_, RT_at hT (by omega)]
theorem q_wayOut_in (hP : sp_wP N g) (hT : sp_RT T N g) {s : Nat} (hs : s < g 1) : fX3_wayOutOf T G (nI s) = some (sp_ot (g (7 + s))) := by
  have h4 := hP.2.2.1
  unfold fX3_wayOutOf
  rw [q_isS_in hT h4 hs, sb_, if_neg (by decide), rd_nI (by omega) (by omega), sb_, RT_ot hT (by omega)]
theorem q_lo_L (hN : sp_wN N) (hP : sp_wP N g) (hT : sp_RT T N g) : ∀ d i fu, i + d = g 1 → d < fu → fX3_livingOnes_L4 T G fu (ms (sp_pre i (sp_lv g)) 10) (nI i) = some (ms (sp_pre (g 1) (sp_lv g)) 10)
  | 0, i, fu, h1, h2 => by
    have h4 := hP.2.2.1
    obtain ⟨fu, rfl⟩ : ∃ k, fu = k + 1 := ⟨fu - 1, by omega⟩
    rw [fX3_livingOnes_L4, hT.1, if_pos (nI_le (by omega) (by omega)), show i = g 1 by omega]
  | d + 1, i, fu, h1, h2 => by
    have h4 := hP.2.2.1
    obtain ⟨fu, rfl⟩ : ∃ k, fu = k + 1 := ⟨fu - 1, by omega⟩
    rw [fX3_livingOnes_L4, hT.1, if_neg (nI_ge (by omega) (by omega)), rd_nI (by omega) (by omega), sb_, RT_at hT (by omega)]
    have hb := wP_at hN hP (show i < 4 by omega)
    by_cases q : g (3 + i) = 9
    · rw [if_pos ((pl_m9 (by omega)).mpr q), nI_1, pre_f (lv_false.mpr q)]
      exact q_lo_L hN hP hT d (i + 1) fu (by omega) (by omega)
    · rw [if_neg (fun z => q ((pl_m9 (by omega)).mp z)), nI_1, pre_t (by omega) (by omega) (lv_true.mpr q)]
      exact q_lo_L hN hP hT d (i + 1) fu (by omega) (by omega)
theorem q_livingOnes (hN : sp_wN N) (hP : sp_wP N g) (hT : sp_RT T N g) : fX3_livingOnes T G = some (ms (sp_pre (g 1) (sp_lv g)) 10) := by
  unfold fX3_livingOnes
  have h4 := hP.2.2.1
  have h := q_lo_L (G := G) hN hP hT (g 1) 0 1000 (by omega) (by omega)
  rw [pre_0 (by omega)] at h
  exact h
theorem q_living (hN : sp_wN N) (hP : sp_wP N g) (hT : sp_RT T N g) : fX3_living T G = some (nI (sp_nl g)) := by
  have h4 := hP.2.2.1
  unfold fX3_living
  rw [q_livingOnes hN hP hT, sb_, bit_ms, sb_]
  unfold sp_nl
  have e := fb_ct_widen (f := sp_lv g) (k := g 1) (10 - g 1)
  rw [show g 1 + (10 - g 1) = 10 by omega] at e
  rw [← e]
  rfl
-- edges
theorem RT_stateOf (hT : sp_RT T N g) (hN : sp_wN N) (hP : sp_wP N g) {e : Nat} (he : e < sp_E N) : fX3_stateOf T G (nI e) = some (nI (g (11 + e))) := by
  have hE := hN.2.2.2.1
  have h2 := hP.2.2.2.2.2.1 e (by omega)
  unfold fX3_stateOf
  rw [RT_un hT, RT_sf hT, holds_ms (by omega) (by omega), sb_, holds_ms (by omega) (by omega), sb_]
  have h3 : g (11 + e) = 0 ∨ g (11 + e) = 1 ∨ g (11 + e) = 2 := by omega
  have l1 : (decide (e < 10)) = true := by simp; omega
  rcases h3 with h | h | h <;> simp [sp_un, sp_sf, h, he, l1, show e < 10 by omega] <;> rfl
theorem q_mayBe (hN : sp_wN N) (hG : sp_RG G N) (hT : sp_RT T N g) : fX3_mayBe T G = some (ms (sp_mb N g) 8) := by
  have h8 := hN.2.1
  unfold fX3_mayBe
  rw [hG.1, RT_vi hT, ms_full8 _ (by omega), ms_andn (by omega)]
  rfl
theorem q_isKnown (hN : sp_wN N) (hG : sp_RG G N) (hT : sp_RT T N g) : fX3_isKnown T G = some (if sp_kn N g = true then 1 else 0) := by
  unfold fX3_isKnown
  rw [q_mayBe hN hG hT, sb_, bit_ms8, sb_]
  have hl := fb_ct_le (sp_mb N g) 8
  by_cases q : fb_ct (sp_mb N g) 8 = 1
  · rw [if_pos (by rw [q]; rfl), if_pos (by simp [sp_kn, q])]
  · rw [if_neg (show ¬ nI (fb_ct (sp_mb N g) 8) = 1 from fun z => q ((nI_eq (b := 1) (by omega) (by omega)).mp z)), if_neg (by simp [sp_kn, q])]
theorem q_isE_in (hG : sp_RG G N) (hN : sp_wN N) {e : Nat} (he : e < sp_E N) : fX1_isEdge G (nI e) = some 1 := by
  have hE := hN.2.2.2.1
  unfold fX1_isEdge
  rw [hG.2.2.1, if_neg (nI_pos (by omega)), if_neg (nI_ge he (by omega))]
theorem q_isE_out (hG : sp_RG G N) {v : Int32} (h : v < 0 ∨ nI (sp_E N) ≤ v) : fX1_isEdge G v = some 0 := by
  unfold fX1_isEdge
  rw [hG.2.2.1]
  by_cases q : v < 0
  · rw [if_pos q]
  · rw [if_neg q, if_pos (h.resolve_left q)]
theorem en_iff {e p : Nat} : sp_en N e p = true ↔ sp_a N e = p ∨ sp_b N e = p := by simp [sp_en]
theorem by_ne (hN : sp_wN N) {e p : Nat} (he : e < sp_E N) (h : sp_en N e p = true) : sp_by N e p ≠ p := by
  have hw := hN.2.2.2.2 e he
  unfold sp_by
  rcases en_iff.mp h with q | q
  · rw [if_pos q]; omega
  · by_cases r : sp_a N e = p
    · rw [if_pos r]; omega
    · rw [if_neg r]; exact r
theorem by_lt (hN : sp_wN N) {e p : Nat} (he : e < sp_E N) : sp_by N e p < sp_n N := by
  have hw := hN.2.2.2.2 e he
  unfold sp_by
  by_cases r : sp_a N e = p
  · rw [if_pos r]; omega
  · rw [if_neg r]; omega
theorem by_en {e p : Nat} : sp_en N e (sp_by N e p) = true := by
  unfold sp_by
  by_cases r : sp_a N e = p
  · rw [if_pos r]; simp [sp_en]
  · rw [if_neg r]; simp [sp_en]
/-- the two ends, of one of them -/
theorem en_two (hN : sp_wN N) {e p q : Nat} (he : e < sp_E N) (h : sp_en N e p = true) : sp_en N e q = true ↔ q = p ∨ q = sp_by N e p := by
  have hw := hN.2.2.2.2 e he
  rw [en_iff]
  unfold sp_by
  rcases en_iff.mp h with r | r
  · rw [if_pos r]; omega
  · rw [if_neg (by omega)]; omega
theorem q_other (hN : sp_wN N) (hG : sp_RG G N) {e p : Nat} (he : e < sp_E N) (hp : p < 8) (h : sp_en N e p = true) : fX1_otherEnd G (nI e) (nI p) = some (nI (sp_by N e p)) := by
  have hE := hN.2.2.2.1
  have h8 := hN.2.1
  have hl := by_lt (p := p) hN he
  unfold fX1_otherEnd
  rw [q_isE_in hG hN he, sb_, if_neg (by decide), rd_nI (by omega) (by omega), sb_, hG.2.2.2.1 e he, ms_one hp (by omega), ms_andn (by omega)]
  have e1 : fa_first (fun i => sp_en N e i && !decide (i = p)) 8 = sp_by N e p := by
    refine first_eq (by omega) ?_ ?_
    · simp [by_en, by_ne hN he h]
    · intro k hk
      by_cases q : sp_en N e k = true
      · rcases (en_two hN he h).mp q with r | r
        · simp [r]
        · omega
      · simp [q]
  rw [least_ms8 (by rw [e1]; omega), sb_, e1]
theorem q_lesser (hN : sp_wN N) (hG : sp_RG G N) {e : Nat} (he : e < sp_E N) : fX1_lesserEnd G (nI e) = some (nI (sp_a N e)) := by
  have hE := hN.2.2.2.1
  have h8 := hN.2.1
  have hw := hN.2.2.2.2 e he
  unfold fX1_lesserEnd
  rw [q_isE_in hG hN he, sb_, if_neg (by decide), rd_nI (by omega) (by omega), sb_, hG.2.2.2.1 e he]
  have e1 : fa_first (sp_en N e) 8 = sp_a N e := by
    refine first_eq (by omega) (by simp [sp_en]) ?_
    intro k hk
    have a1 : ¬ sp_a N e = k := by omega
    have a2 : ¬ sp_b N e = k := by omega
    simp [sp_en, a1, a2]
  rw [least_ms8 (by rw [e1]; omega), sb_, e1]
theorem q_greater (hN : sp_wN N) (hG : sp_RG G N) {e : Nat} (he : e < sp_E N) : fX1_greaterEnd G (nI e) = some (nI (sp_b N e)) := by
  have h8 := hN.2.1
  have hw := hN.2.2.2.2 e he
  unfold fX1_greaterEnd
  rw [q_isE_in hG hN he, sb_, if_neg (by decide), q_lesser hN hG he, sb_, q_other hN hG he (by omega) (by simp [sp_en]), sb_]
  simp [sp_by]
theorem q_edgesFrom (hG : sp_RG G N) {p : Nat} (hp : p < 8) : fX1_edgesFrom G (nI p) = some (ms (fun e => decide (e < sp_E N) && sp_en N e p) 10) := by
  unfold fX1_edgesFrom
  rw [if_neg (nI_pos (by omega)), if_neg (by exact nI_ge (b := 8) hp (by omega)), rd_nI hp (by omega), sb_, hG.2.2.2.2 p hp]
end QC
