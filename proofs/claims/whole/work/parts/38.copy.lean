/-! copies of a stand and of a page; the first stand and the first page -/
section CO
variable {N : sN} {g : Nat → Nat} {T U G M : dk_O} {w u : Nat → Int32}
theorem q_bec_L : ∀ d i fu (I a1 a2 : Nat → Int32), i + d = 4 → d < fu → (∀ s, s < i → a1 s = U.2 1 s ∧ a2 s = U.2 2 s) → ∃ b1 b2 : Nat → Int32, fX3_become_L2 T U fu (nI i) I a1 a2 = some (upd (upd (upd (upd (upd (upd I 3 (U.1 3)) 4 (U.1 4)) 5 (U.1 5)) 6 (U.1 6)) 7 (U.1 7)) 8 (U.1 8), b1, b2) ∧ ∀ s, s < 4 → b1 s = U.2 1 s ∧ b2 s = U.2 2 s
  | 0, i, fu, I, a1, a2, h1, h2, hs => by
    obtain ⟨fu, rfl⟩ : ∃ k, fu = k + 1 := ⟨fu - 1, by omega⟩
    refine ⟨a1, a2, ?_, fun s h => hs s (by omega)⟩
    rw [fX3_become_L2, if_pos (show (4 : Int32) ≤ nI i from nI_le (a := 4) (by omega) (by omega))]
  | d + 1, i, fu, I, a1, a2, h1, h2, hs => by
    obtain ⟨fu, rfl⟩ : ∃ k, fu = k + 1 := ⟨fu - 1, by omega⟩
    rw [fX3_become_L2, if_neg (show ¬ (4 : Int32) ≤ nI i from nI_ge (b := 4) (by omega) (by omega)), rd_nI (by omega) (by omega), sb_, wr_nI (by omega) (by omega), sb_, rd_nI (by omega) (by omega), sb_, wr_nI (by omega) (by omega), sb_, nI_1]
    refine q_bec_L d (i + 1) fu I _ _ (by omega) (by omega) (fun s h => ?_)
    by_cases z : s = i
    · rw [z, upd_s, upd_s]; exact ⟨rfl, rfl⟩
    · rw [upd_n z, upd_n z]; exact hs s (by omega)
theorem q_become (hU : sp_RT U N g) : ∃ I a1 a2, fX3_become T U = some (I, a1, a2) ∧ sp_RT (I, dk_upA (dk_upA T.2 1 a1) 2 a2) N g := by
  obtain ⟨b1, b2, y1, y2⟩ := q_bec_L (T := T) (U := U) 4 0 1000 T.1 (T.2 1) (T.2 2) (by omega) (by omega) (fun s h => absurd h (by omega))
  refine ⟨_, b1, b2, y1, ?_⟩
  exact RT_mk hU.1 hU.2.1 hU.2.2.1 hU.2.2.2.1 hU.2.2.2.2.1 hU.2.2.2.2.2.1 (fun s hs => by rw [(y2 s hs).1]; exact RT_at hU hs) (fun s hs => by rw [(y2 s hs).2]; exact RT_ot hU hs)
theorem up0_vis {p : Nat} (q : Nat) : sp_vis N (sp_up g 0 p) q = sp_vis N g q := vis_cong (fun e _ => by unfold sp_sf; rw [up_n (by omega)]) q
theorem q_suppose {p : Nat} (hU : sp_RT U N g) : ∃ I a1 a2, fX3_suppose T U (nI p) = some (I, a1, a2) ∧ sp_RT (I, dk_upA (dk_upA T.2 1 a1) 2 a2) N (sp_up g 0 p) := by
  obtain ⟨I, a1, a2, y1, y2⟩ := q_become (T := T) hU
  refine ⟨upd I 4 (nI p), a1, a2, ?_, ?_⟩
  · unfold fX3_suppose
    rw [y1, sb_]
  · have y8 : I 8 = ms (sp_vis N g) 8 := y2.2.2.2.2.2.1
    refine RT_mk y2.1 ?_ y2.2.2.1 y2.2.2.2.1 y2.2.2.2.2.1 ?_ (fun s hs => ?_) (fun s hs => ?_)
    · rw [upd_s, up_s]
    · rw [upd_n (by omega), y8]
      exact ms_cong (fun q _ => (up0_vis q).symm)
    · have q : a1 s = sp_pl (g (3 + s)) := y2.2.2.2.2.2.2.1 s hs
      rw [q, up_n (by omega)]
    · have q : a2 s = sp_ot (g (7 + s)) := y2.2.2.2.2.2.2.2 s hs
      rw [q, up_n (by omega)]
/-- a new page -/
def sp_f0 (N : sN) (h k : Nat) : Nat → Nat := fun j => if j = 0 then h else if j = 1 then k else if 3 ≤ j ∧ j < 7 then sp_h N else 0
theorem f0_0 {h k : Nat} : sp_f0 N h k 0 = h := rfl
theorem f0_1 {h k : Nat} : sp_f0 N h k 1 = k := rfl
theorem f0_3 {h k s : Nat} (hs : s < 4) : sp_f0 N h k (3 + s) = sp_h N := by
  unfold sp_f0
  rw [if_neg (by omega), if_neg (by omega), if_pos (by omega)]
theorem f0_7 {h k s : Nat} : sp_f0 N h k (7 + s) = 0 := by
  unfold sp_f0
  rw [if_neg (by omega), if_neg (by omega), if_neg (by omega)]
theorem f0_11 {h k s : Nat} : sp_f0 N h k (11 + s) = 0 := by
  unfold sp_f0
  rw [if_neg (by omega), if_neg (by omega), if_neg (by omega)]
theorem f0_vis {h k : Nat} (q : Nat) : sp_vis N (sp_f0 N h k) q = decide (q = sp_h N) := by
  unfold sp_vis
  rw [sp_any_no.mpr, Bool.or_false]
  intro e _
  unfold sp_sf
  rw [f0_11]
  rfl
theorem f0_wP (hN : sp_wN N) {h k : Nat} (hh : h < sp_n N) (hk1 : 1 ≤ k) (hk4 : k ≤ 4) : sp_wP N (sp_f0 N h k) := by
  refine ⟨hh, hk1, hk4, fun s hs => ?_, fun s hs => Or.inl f0_7, fun e he => ?_, fun s t hs ht _ => Or.inl f0_7⟩
  · rw [f0_3 hs]; exact Or.inr hN.2.2.1
  · rw [f0_11]; omega
theorem f0_wV {h k : Nat} (hk4 : k ≤ 4) (hh : h ≠ sp_h N) : sp_wV N (sp_f0 N h k) := by
  refine ⟨?_, fun s hs hl => ?_⟩
  · rw [f0_vis, f0_0]; simp [hh]
  · rw [f0_1] at hs
    rw [f0_7, f0_3 (by omega), f0_vis]
    exact ⟨fun _ => by simp, fun z => absurd z (by omega)⟩
theorem fill_L {n : Nat} (hn : n < 100) {w0 : Nat → Int32} {v : Int32} : ∀ d i fu (f : Nat → Int32), i + d = n → d < fu → (∀ s, s < i → f s = v) → ∃ f', fJ7_fill_53178_L5 n w0 fu v (nI i) (nI n) f = some f' ∧ ∀ s, s < n → f' s = v
  | 0, i, fu, f, h1, h2, hs => by
    obtain ⟨fu, rfl⟩ : ∃ k, fu = k + 1 := ⟨fu - 1, by omega⟩
    rw [fJ7_fill_53178_L5, if_pos (nI_le (by omega) (by omega))]
    exact ⟨f, rfl, fun s h => hs s (by omega)⟩
  | d + 1, i, fu, f, h1, h2, hs => by
    obtain ⟨fu, rfl⟩ : ∃ k, fu = k + 1 := ⟨fu - 1, by omega⟩
    rw [fJ7_fill_53178_L5, if_neg (nI_ge (by omega) (by omega)), wr_nI (by omega) (by omega), sb_, nI_1]
    refine fill_L hn d (i + 1) fu _ (by omega) (by omega) (fun s h => ?_)
    by_cases z : s = i
    · rw [z, upd_s]
    · rw [upd_n z]; exact hs s (by omega)
theorem fill_at {n : Nat} (hn : n < 100) (f : Nat → Int32) (v : Int32) : ∃ f', fJ7_fill_53178 n f v = some f' ∧ ∀ s, s < n → f' s = v :=
  fill_L hn n 0 1000 f (by omega) (by omega) (fun s h => absurd h (by omega))
theorem q_allEdges (hN : sp_wN N) (hG : sp_RG G N) : fX1_allEdges G = some (ms (fun e => decide (e < sp_E N)) 10) := by
  unfold fX1_allEdges
  rw [hG.2.2.1, ms_full10 _ (by have := hN.2.2.2.1; omega)]
theorem q_begin (hN : sp_wN N) (hG : sp_RG G N) {h k : Nat} (hk4 : k ≤ 4) : ∃ I a1 a2, fX3_begin T G (nI k) (nI h) = some (I, a1, a2) ∧ sp_RT (I, dk_upA (dk_upA T.2 1 a1) 2 a2) N (sp_f0 N h k) := by
  have h8 := hN.2.1
  have hh := hN.2.2.1
  obtain ⟨a1, y1, y2⟩ := fill_at (n := 4) (by omega) (T.2 1) (G.1 1)
  obtain ⟨a2, z1, z2⟩ := fill_at (n := 4) (by omega) (T.2 2) (-9)
  unfold fX3_begin
  rw [y1, sb_, z1, sb_, q_allEdges hN hG, sb_]
  refine ⟨_, a1, a2, rfl, RT_mk ?_ ?_ ?_ ?_ ?_ ?_ (fun s hs => ?_) (fun s hs => ?_)⟩
  · show (if (4 : Int32) < nI k then 4 else nI k) = nI k
    rw [if_neg]
    intro z
    have : ¬ (4 : Int32) < nI k := by
      rcases Nat.lt_or_ge k 4 with q | q
      · have := nI_le (a := k) (b := 4) (by omega) (by omega)
        intro y
        exact absurd (Int32.lt_of_lt_of_le y this) (Int32.lt_irrefl)
      · rw [show k = 4 by omega]; decide
    exact this z
  · rfl
  · rfl
  · show ms (fun e => decide (e < sp_E N)) 10 = _
    refine ms_cong (fun e _ => ?_)
    unfold sp_un
    rw [f0_11]
    simp
  · show (0 : Int32) = _
    refine ((ms_zero (by omega)).mpr (fun e _ => ?_)).symm
    unfold sp_sf
    rw [f0_11]
    simp
  · show (1 : Int32) <<< ((G.1 1) &&& 31) = _
    rw [hG.2.1, ms_one (k := 8) (by omega) (by omega)]
    exact ms_cong (fun q _ => (f0_vis q).symm)
  · rw [y2 s hs, f0_3 hs, hG.2.1, pl_n (by omega)]
  · rw [z2 s hs, f0_7]; rfl
theorem m_lay_L (hw : sp_RP w g) : ∀ d i fu (r : Nat → Int32), i + d = 21 → d < fu → (∀ k, k < i → r k = nI (g k)) → ∃ r', fX6_lay_L2 w u fu (nI i) r = some r' ∧ sp_RP r' g
  | 0, i, fu, r, h1, h2, hs => by
    obtain ⟨fu, rfl⟩ : ∃ k, fu = k + 1 := ⟨fu - 1, by omega⟩
    rw [fX6_lay_L2, if_pos (show (21 : Int32) ≤ nI i from nI_le (a := 21) (by omega) (by omega))]
    exact ⟨r, rfl, fun k hk => hs k (by omega)⟩
  | d + 1, i, fu, r, h1, h2, hs => by
    obtain ⟨fu, rfl⟩ : ∃ k, fu = k + 1 := ⟨fu - 1, by omega⟩
    rw [fX6_lay_L2, if_neg (show ¬ (21 : Int32) ≤ nI i from nI_ge (b := 21) (by omega) (by omega)), rd_w hw (by omega), sb_, wr_nI (by omega) (by omega), sb_, nI_1]
    refine m_lay_L hw d (i + 1) fu _ (by omega) (by omega) (fun s h => ?_)
    by_cases z : s = i
    · rw [z, upd_s]
    · rw [upd_n z]; exact hs s (by omega)
theorem m_lay (hw : sp_RP w g) : ∃ r', fX6_lay w u = some r' ∧ sp_RP r' g :=
  m_lay_L hw 21 0 1000 u (by omega) (by omega) (fun s h => absurd h (by omega))
theorem m_lf32 (hM : sp_RN M N) {h k : Nat} : ∀ d i fu (r : Nat → Int32), i + d = 4 → d < fu → (∀ j, j < 21 → r j = nI (if j = 0 then h else if j = 1 then k else if 3 ≤ j ∧ j < 3 + i then sp_h N else 0)) → ∃ r', fX6_layFirst_L32 M w fu (nI i) r = some r' ∧ sp_RP r' (sp_f0 N h k)
  | 0, i, fu, r, h1, h2, hs => by
    obtain ⟨fu, rfl⟩ : ∃ k, fu = k + 1 := ⟨fu - 1, by omega⟩
    rw [fX6_layFirst_L32, if_pos (show (4 : Int32) ≤ nI i from nI_le (a := 4) (by omega) (by omega))]
    refine ⟨r, rfl, fun j hj => ?_⟩
    rw [hs j hj, show i = 4 by omega]
    rfl
  | d + 1, i, fu, r, h1, h2, hs => by
    obtain ⟨fu, rfl⟩ : ∃ k, fu = k + 1 := ⟨fu - 1, by omega⟩
    rw [fX6_layFirst_L32, if_neg (show ¬ (4 : Int32) ≤ nI i from nI_ge (b := 4) (by omega) (by omega)), i_3, wr_nI (by omega) (by omega), sb_, nI_1, hM.2.1]
    refine m_lf32 hM d (i + 1) fu _ (by omega) (by omega) (fun j hj => ?_)
    by_cases z : j = 3 + i
    · rw [z, upd_s, if_neg (by omega), if_neg (by omega), if_pos (by omega)]
    · rw [upd_n z, hs j hj]
      by_cases z0 : j = 0
      · rw [if_pos z0, if_pos z0]
      · by_cases z1 : j = 1
        · rw [if_neg z0, if_neg z0, if_pos z1, if_pos z1]
        · rw [if_neg z0, if_neg z0, if_neg z1, if_neg z1]
          by_cases z2 : 3 ≤ j ∧ j < 3 + i
          · rw [if_pos z2, if_pos (by omega)]
          · rw [if_neg z2, if_neg (by omega)]
theorem m_lf3 (hM : sp_RN M N) {h k : Nat} : ∀ d i fu (r : Nat → Int32), i + d = 21 → d < fu → (∀ j, j < i → r j = 0) → ∃ r', fX6_layFirst_L3 M w fu (nI h) (nI k) (nI i) r = some r' ∧ sp_RP r' (sp_f0 N h k)
  | 0, i, fu, r, h1, h2, hs => by
    obtain ⟨fu, rfl⟩ : ∃ k, fu = k + 1 := ⟨fu - 1, by omega⟩
    rw [fX6_layFirst_L3, if_pos (show (21 : Int32) ≤ nI i from nI_le (a := 21) (by omega) (by omega)), show dk_wr r 21 0 (nI h) = some (upd r 0 (nI h)) from wr_nI (k := 0) (by omega) (by omega), sb_, show dk_wr (upd r 0 (nI h)) 21 1 (nI k) = some (upd (upd r 0 (nI h)) 1 (nI k)) from wr_nI (k := 1) (by omega) (by omega), sb_]
    refine m_lf32 hM 4 0 1000 _ (by omega) (by omega) (fun j hj => ?_)
    by_cases z1 : j = 1
    · rw [z1, upd_s]; rfl
    · rw [upd_n z1]
      by_cases z0 : j = 0
      · rw [z0, upd_s]; rfl
      · rw [upd_n z0, if_neg z0, if_neg z1, if_neg (by omega)]
        exact hs j (by omega)
  | d + 1, i, fu, r, h1, h2, hs => by
    obtain ⟨fu, rfl⟩ : ∃ k, fu = k + 1 := ⟨fu - 1, by omega⟩
    rw [fX6_layFirst_L3, if_neg (show ¬ (21 : Int32) ≤ nI i from nI_ge (b := 21) (by omega) (by omega)), wr_nI (by omega) (by omega), sb_, nI_1]
    refine m_lf3 hM d (i + 1) fu _ (by omega) (by omega) (fun s h => ?_)
    by_cases z : s = i
    · rw [z, upd_s]
    · rw [upd_n z]; exact hs s (by omega)
theorem m_layFirst (hM : sp_RN M N) {h k : Nat} : ∃ r', fX6_layFirst M w (nI h) (nI k) = some r' ∧ sp_RP r' (sp_f0 N h k) :=
  m_lf3 hM 21 0 1000 w (by omega) (by omega) (fun s h => absurd h (by omega))
end CO
