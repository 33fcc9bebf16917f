/-! what only asks: edge, searcher, ask, fate, which, luck -/
section AQ
variable {N : sN} {g : Nat → Nat} {Q X T U G C E M : dk_O} {CB SB : Nat → dk_O} {k : Nat} {b : Nat → Nat → Nat}
def sp_wh (f : Nat → Bool) (i : Nat) : Int32 := if fa_first f i < i then nI (fa_first f i) else -9
theorem wh_t {f : Nat → Bool} {i : Nat} (h : f i = true) (hn : ∀ j, j < i → f j = false) : sp_wh f (i + 1) = nI i := by
  unfold sp_wh
  rw [first_eq (i := i) (by omega) h hn, if_pos (by omega)]
theorem wh_f {f : Nat → Bool} {i : Nat} (h : f i = false) : sp_wh f (i + 1) = sp_wh f i := by
  unfold sp_wh
  by_cases q : fa_first f i < i
  · rw [first_eq (n := i + 1) (i := fa_first f i) (by omega) (fa_first_yes f i q) (fun k hk => fa_first_no f i k hk), if_pos (by omega), if_pos q]
  · have hn : ∀ k, k < i → f k = false := fun k hk => fa_first_no f i k (by have := fa_first_le f i; omega)
    rw [if_neg q, if_neg]
    rw [first_none (n := i + 1) (fun k hk => by
      by_cases z : k = i
      · rw [z]; exact h
      · exact hn k (by omega))]
    omega
def sp_wo1 (g : Nat → Nat) (e : Nat) : Nat → Bool := fun s => decide (g (7 + s) = e + 1)
theorem ot_e {x e : Nat} (hx : x ≤ 10) (he : e < 10) : sp_ot x = nI e ↔ x = e + 1 := by
  unfold sp_ot
  by_cases z : x = 0
  · rw [if_pos z]
    exact ⟨fun q => absurd q.symm (m9_ne (by omega)), fun q => by omega⟩
  · rw [if_neg z, nI_eq (by omega) (by omega)]
    omega
theorem q_who_L (hN : sp_wN N) (hP : sp_wP N g) (hT : sp_RT T N g) {e : Nat} (he : e < 10) : ∀ d i fu, i + d = g 1 → d < fu → (∀ j, j < i → sp_wo1 g e j = false) → fX3_whoIsOutThrough_L2 T G fu (nI e) (nI i) = some (sp_wh (sp_wo1 g e) (g 1))
  | 0, i, fu, h1, h2, hn => by
    have h4 := hP.2.2.1
    obtain ⟨fu, rfl⟩ : ∃ k, fu = k + 1 := ⟨fu - 1, by omega⟩
    rw [fX3_whoIsOutThrough_L2, hT.1, if_pos (nI_le (by omega) (by omega))]
    unfold sp_wh
    rw [first_none (fun k hk => hn k (by omega)), if_neg (by omega)]
  | d + 1, i, fu, h1, h2, hn => by
    have h4 := hP.2.2.1
    obtain ⟨fu, rfl⟩ : ∃ k, fu = k + 1 := ⟨fu - 1, by omega⟩
    have ho := wP_ot hN hP (show i < 4 by omega)
    rw [fX3_whoIsOutThrough_L2, hT.1, if_neg (nI_ge (by omega) (by omega)), rd_nI (by omega) (by omega), sb_, RT_ot hT (by omega)]
    by_cases q : g (7 + i) = e + 1
    · rw [if_pos ((ot_e ho he).mpr q)]
      unfold sp_wh
      rw [first_eq (f := sp_wo1 g e) (n := g 1) (i := i) (by omega) (by simp [sp_wo1, q]) hn, if_pos (by omega)]
    · rw [if_neg (fun z => q ((ot_e ho he).mp z)), nI_1]
      refine q_who_L hN hP hT he d (i + 1) fu (by omega) (by omega) (fun j hj => ?_)
      by_cases z : j = i
      · rw [z]; simp [sp_wo1, q]
      · exact hn j (by omega)
def sp_ed (N : sN) (g : Nat → Nat) (e : Nat) (v : Int32) : Int32 := if v = 0 then nI (sp_a N e) else if v = 1 then nI (sp_b N e) else if v = 2 then nI (g (11 + e)) else if v = 3 then sp_wh (sp_wo1 g e) (g 1) else -2
theorem m_edge_L (hN : sp_wN N) (hP : sp_wP N g) (hM : sp_RN M N) (hw : sp_RP (M.2 16) g) {e : Nat} (he : e < sp_E N) {v : Int32} {J : Nat → Int32} : ∀ d i fu, i + d = g 1 → d < fu → fX6_edge_L21 M fu (nI e) v (sp_wh (sp_wo1 g e) i) (nI i) J = some (sp_ed N g e v, J)
  | 0, i, fu, h1, h2 => by
    have h4 := hP.2.2.1
    have hE := hN.2.2.2.1
    obtain ⟨fu, rfl⟩ : ∃ k, fu = k + 1 := ⟨fu - 1, by omega⟩
    have r1 : dk_rd (M.2 16) 21 1 = some (nI (g 1)) := rd_w hw (k := 1) (by omega)
    rw [fX6_edge_L21, r1, sb_, if_pos (nI_le (by omega) (by omega)), rd_nI (by omega) (by omega), sb_, rd_nI (by omega) (by omega), sb_, i_11, rd_w hw (by omega), sb_, (hM.2.2.2 e he).1, (hM.2.2.2 e he).2, show i = g 1 by omega]
    unfold sp_ed
    by_cases a0 : v = 0
    · rw [if_pos a0, if_pos a0]
    · rw [if_neg a0, if_neg a0]
      by_cases a1 : v = 1
      · rw [if_pos a1, if_pos a1]
      · rw [if_neg a1, if_neg a1]
        by_cases a2 : v = 2
        · rw [if_pos a2, if_pos a2]
        · rw [if_neg a2, if_neg a2]
          by_cases a3 : v = 3
          · rw [if_pos a3, if_pos a3]
          · rw [if_neg a3, if_neg a3]
  | d + 1, i, fu, h1, h2 => by
    have h4 := hP.2.2.1
    have hE := hN.2.2.2.1
    obtain ⟨fu, rfl⟩ : ∃ k, fu = k + 1 := ⟨fu - 1, by omega⟩
    have r1 : dk_rd (M.2 16) 21 1 = some (nI (g 1)) := rd_w hw (k := 1) (by omega)
    have ho := wP_ot hN hP (show i < 4 by omega)
    have ih := m_edge_L hN hP hM hw he (v := v) (J := J) d (i + 1) fu (by omega) (by omega)
    rw [fX6_edge_L21, r1, sb_, if_neg (nI_ge (by omega) (by omega)), i_7, rd_w hw (by omega), sb_, nI_1, nI_1]
    by_cases q : g (7 + i) = e + 1
    · rw [if_pos (by rw [q]), ← wh_t (f := sp_wo1 g e) (i := i) (by simp [sp_wo1, q]) (fun j hj => ?_)]
      · exact ih
      · unfold sp_wo1
        simp only [decide_eq_false_iff_not]
        intro z
        rcases hP.2.2.2.2.2.2 j i (by omega) (by omega) (z.trans q.symm) with y | y
        · omega
        · omega
    · rw [if_neg (fun z => q ((nI_eq (by omega) (by omega)).mp z)), ← wh_f (f := sp_wo1 g e) (i := i) (by simp [sp_wo1, q])]
      exact ih
theorem cl_edge (h : rl Q X G T C E CB SB M) (v1 v2 : Int32) : ∃ A, fX5_edge Q G T v1 v2 = some A ∧ fX6_edge M v1 v2 = some (A, upd M.1 0 0) := by
  obtain ⟨N, g, k, b, n, t, j, a, c, hr, hb, hX, hE, hM, hK⟩ := h
  obtain ⟨hN, hP, hV, hG, hT, hMN, hw, h15⟩ := hr
  have hE := hN.2.2.2.1
  have hM0 : sp_RN (upd M.1 0 0, M.2) N := hMN
  unfold fX5_edge fX6_edge
  rcases v_cases v1 (n := sp_E N) (by omega) with o | ⟨e, he, rfl⟩
  · rw [q_isE_out hG o, sb_, if_pos rfl, m_noEdge_out hN hM0 o, sb_, if_neg one_ne]
    exact ⟨_, rfl, rfl⟩
  · rw [q_isE_in hG hN he, sb_, if_neg one_ne, m_noEdge_in hN hM0 he, sb_, if_pos rfl]
    have m1 := m_edge_L hN hP hMN hw he (v := v2) (J := upd M.1 0 0) (g 1) 0 1000 (by omega) (by have := hP.2.2.1; omega)
    have m2 : fX6_edge_L21 M 1000 (nI e) v2 (-9) 0 (upd M.1 0 0) = some (sp_ed N g e v2, upd M.1 0 0) := m1
    have q1 : fX3_whoIsOutThrough T G (nI e) = some (sp_wh (sp_wo1 g e) (g 1)) := q_who_L hN hP hT (by omega) (g 1) 0 1000 (by omega) (by have := hP.2.2.1; omega) (fun j hj => absurd hj (by omega))
    refine ⟨_, ?_, m2⟩
    rw [q_lesser hN hG he, q_greater hN hG he, RT_stateOf hT hN hP he, q1, sb_, sb_, sb_, sb_]
    unfold sp_ed
    by_cases a0 : v2 = 0
    · rw [if_pos a0, if_pos a0]
    · rw [if_neg a0, if_neg a0]
      by_cases a1 : v2 = 1
      · rw [if_pos a1, if_pos a1]
      · rw [if_neg a1, if_neg a1]
        by_cases a2 : v2 = 2
        · rw [if_pos a2, if_pos a2]
        · rw [if_neg a2, if_neg a2]
          by_cases a3 : v2 = 3
          · rw [if_pos a3, if_pos a3]
          · rw [if_neg a3, if_neg a3]
theorem m_steps_L (hN : sp_wN N) (hP : sp_wP N g) (hM : sp_RN M N) (hw : sp_RP (M.2 16) g) {s : Nat} (hs : s < 1000) : ∀ d i fu, i + d = sp_E N → d < fu → fX6_steps_L4 M fu (nI s) (ms (sp_pre i (sp_cs N g s)) 10) (nI i) = some (ms (sp_pre (sp_E N) (sp_cs N g s)) 10)
  | 0, i, fu, h1, h2 => by
    have hE := hN.2.2.2.1
    obtain ⟨fu, rfl⟩ : ∃ k, fu = k + 1 := ⟨fu - 1, by omega⟩
    rw [fX6_steps_L4, hM.2.2.1, if_pos (nI_le (by omega) (by omega)), show i = sp_E N by omega]
  | d + 1, i, fu, h1, h2 => by
    have hE := hN.2.2.2.1
    obtain ⟨fu, rfl⟩ : ∃ k, fu = k + 1 := ⟨fu - 1, by omega⟩
    have ih := m_steps_L hN hP hM hw hs d (i + 1) fu (by omega) (by omega)
    rw [fX6_steps_L4, hM.2.2.1, if_neg (nI_ge (by omega) (by omega)), m_canStep hN hP hM hw hs (by omega), sb_, nI_1]
    by_cases q : sp_cs N g s i = true
    · rw [if_pos q, if_neg one_ne, pre_t (by omega) (by omega) q]
      exact ih
    · rw [if_neg q, if_pos rfl, or_0, pre_f (by simpa using q)]
      exact ih
theorem cl_searcher (h : rl Q X G T C E CB SB M) (v1 v2 : Int32) : ∃ A f, fX5_searcher Q T G v1 v2 = some A ∧ fX6_searcher M v1 v2 = some (A, upd M.1 0 0, f) := by
  obtain ⟨N, g, k, b, n, t, j, a, c, hr, hb, hX, hE, hM, hK⟩ := h
  obtain ⟨hN, hP, hV, hG, hT, hMN, hw, h15⟩ := hr
  have h4 := hP.2.2.1
  have hE := hN.2.2.2.1
  have hM0 : sp_RN (upd M.1 0 0, M.2) N := hMN
  unfold fX5_searcher fX6_searcher
  rcases v_cases v1 (n := g 1) (by omega) with o | ⟨s, hs, rfl⟩
  · rw [q_isS_out hT o, sb_, if_pos rfl, m_noS_out (M := (upd M.1 0 0, M.2)) hP hw o, sb_, if_neg one_ne]
    exact ⟨_, _, rfl, rfl⟩
  · have hb1 := wP_at hN hP (show s < 4 by omega)
    have ho := wP_ot hN hP (show s < 4 by omega)
    rw [q_isS_in hT h4 hs, sb_, if_neg one_ne, m_noS_in (M := (upd M.1 0 0, M.2)) hP hw hs, sb_, if_pos rfl]
    by_cases a0 : v2 = 0
    · rw [if_pos a0, if_pos a0, q_placeOf_in hP hT hs, sb_, m_lives hw (by omega) (by omega), sb_]
      by_cases l : sp_lv g s = true
      · rw [if_pos l, if_neg one_ne, i_3, rd_w hw (by omega), sb_, pl_n (lv_true.mp l)]
        exact ⟨_, _, rfl, rfl⟩
      · have l9 : g (3 + s) = 9 := lv_false.mp (by simpa using l)
        rw [if_neg l, if_pos rfl, l9]
        exact ⟨_, _, rfl, rfl⟩
    rw [if_neg a0, if_neg a0]
    by_cases a1 : v2 = 1
    · rw [if_pos a1, if_pos a1, q_wayOut_in hP hT hs, sb_, i_7, rd_w hw (by omega), sb_]
      by_cases l : g (7 + s) = 0
      · rw [if_pos (by rw [l]; exact nI_le (a := 0) (b := 0) (by omega) (by omega)), l]
        exact ⟨_, _, rfl, rfl⟩
      · rw [if_neg (fun z => (pos_nI (by omega)).mp z (by omega)), sb_, ot_n l, show nI (g (7 + s)) - 1 = nI (g (7 + s) - 1) from pk_sub (b := 1) (by omega)]
        exact ⟨_, _, rfl, rfl⟩
    rw [if_neg a1, if_neg a1]
    by_cases a2 : v2 = 2
    · have m1 := m_steps_L (M := (upd M.1 0 0, M.2)) hN hP hM0 hw (s := s) (by omega) (sp_E N) 0 1000 (by omega) (by omega)
      rw [pre_0 (by omega)] at m1
      have m2 : fX6_steps (upd M.1 0 0, M.2) (nI s) = some (ms (sp_pre (sp_E N) (sp_cs N g s)) 10) := m1
      rw [if_pos a2, if_pos a2, q_openEdges hN hP hG hT hs, sb_, m2, sb_]
      exact ⟨_, _, rfl, rfl⟩
    rw [if_neg a2, if_neg a2]
    by_cases a3 : v2 = 3
    · obtain ⟨r, m1⟩ := m_chosen (M := (upd M.1 0 0, M.2)) hN hP hM0 hw (s := s) (by omega)
      rw [if_pos a3, if_pos a3, q_care hN hP hG hT hs, sb_, m1, sb_]
      exact ⟨_, _, rfl, rfl⟩
    rw [if_neg a3, if_neg a3]
    exact ⟨_, _, rfl, rfl⟩
theorem cl_ask (h : rl Q X G T C E CB SB M) (v : Int32) : ∃ A I a1 a2 f u, fX5_ask Q T G U v = some (A, I, a1, a2) ∧ fX6_ask M v = some (A, upd M.1 0 0, f, u) := by
  obtain ⟨N, g, k, b, n, t, j, a, c, hr, hb, hX, hE, hM, hK⟩ := h
  obtain ⟨hN, hP, hV, hG, hT, hMN, hw, h15⟩ := hr
  have hM0 : sp_RN (upd M.1 0 0, M.2) N := hMN
  have r2 : dk_rd (M.2 16) 21 2 = some (nI (g 2)) := rd_w hw (k := 2) (by omega)
  unfold fX5_ask fX6_ask
  by_cases a0 : v = 0
  · rw [if_pos a0, if_pos a0, q_living hN hP hT, sb_, m_living hN hP hw, sb_]
    exact ⟨_, _, _, _, _, _, rfl, rfl⟩
  rw [if_neg a0, if_neg a0]
  by_cases a1 : v = 1
  · rw [if_pos a1, if_pos a1, r2, sb_, hT.2.2.1]
    exact ⟨_, _, _, _, _, _, rfl, rfl⟩
  rw [if_neg a1, if_neg a1]
  by_cases a2 : v = 2
  · rw [if_pos a2, if_pos a2, m_visited hN hP hM0 hw, sb_, RT_vi hT]
    exact ⟨_, _, _, _, _, _, rfl, rfl⟩
  rw [if_neg a2, if_neg a2]
  by_cases a3 : v = 3
  · rw [if_pos a3, if_pos a3, q_mayBe hN hG hT, sb_, m_mayBe hN hP hM0 hw, sb_]
    exact ⟨_, _, _, _, _, _, rfl, rfl⟩
  rw [if_neg a3, if_neg a3]
  by_cases a4 : v = 4
  · rw [if_pos a4, if_pos a4, q_isKnown hN hG hT, sb_, m_isKnown hN hP hM0 hw, sb_]
    by_cases q : sp_kn N g = true
    · rw [if_pos q, if_neg one_ne, if_neg one_ne]
      exact ⟨_, _, _, _, _, _, rfl, rfl⟩
    · rw [if_neg q, if_pos rfl, if_pos rfl]
      exact ⟨_, _, _, _, _, _, rfl, rfl⟩
  rw [if_neg a4, if_neg a4]
  by_cases a5 : v = 5
  · obtain ⟨I, a1, a2, y⟩ := q_worst (Q := Q) (U := U) hN hP hV hG hT
    obtain ⟨f, u, z⟩ := m_worst (M := (upd M.1 0 0, M.2)) hN hP hV hM0 h15 hw
    rw [if_pos a5, if_pos a5, y, sb_, z, sb_]
    exact ⟨_, _, _, _, _, _, rfl, rfl⟩
  rw [if_neg a5, if_neg a5]
  by_cases a6 : v = 6
  · obtain ⟨I, a1, a2, y⟩ := q_fewest (Q := Q) (U := U) hN hG
    obtain ⟨f, u, z⟩ := m_fewest (M := (upd M.1 0 0, M.2)) hN hM0 h15
    rw [if_pos a6, if_pos a6, y, sb_, z, sb_]
    exact ⟨_, _, _, _, _, _, rfl, rfl⟩
  rw [if_neg a6, if_neg a6]
  by_cases a7 : v = 7
  · rw [if_pos a7, if_pos a7, q_fated hN hP hG hT, sb_, m_fated (M := (upd M.1 0 0, M.2)) hN hP hM0 hw, sb_]
    exact ⟨_, _, _, _, _, _, rfl, rfl⟩
  rw [if_neg a7, if_neg a7]
  exact ⟨_, _, _, _, _, _, rfl, rfl⟩
theorem in2_in {r : Nat} (h : r < 3) : fX6_in (nI r).toInt64 0 2 = some 1 := no_in (k := r) (n := 3) h (by omega)
theorem in2_out {v : Int32} (h : v < 0 ∨ nI 3 ≤ v) : fX6_in v.toInt64 0 2 = some 0 := no_out (v := v) (n := 3) (by omega) (by omega) h
theorem cl_fate (h : rl Q X G T C E CB SB M) (v1 v2 : Int32) : ∃ A I a1 a2 f u, fX5_fate Q T G U v1 v2 = some (A, I, a1, a2) ∧ fX6_fate M v1 v2 = some (A, upd M.1 0 0, f, u) := by
  obtain ⟨N, g, k, b, n, t, j, a, c, hr, hb, hX, hE, hM, hK⟩ := h
  obtain ⟨hN, hP, hV, hG, hT, hMN, hw, h15⟩ := hr
  have h8 := hN.2.1
  have hM0 : sp_RN (upd M.1 0 0, M.2) N := hMN
  unfold fX5_fate fX6_fate
  rcases v_cases v1 (n := sp_n N) (by omega) with o | ⟨p, hp, rfl⟩
  · rw [q_isP_out hG o, sb_, if_pos rfl, m_noPlace_out hN hM0 o, sb_, if_neg one_ne]
    exact ⟨_, _, _, _, _, _, rfl, rfl⟩
  · rw [q_isP_in hN hG hp, sb_, if_neg one_ne, m_noPlace_in hN hM0 hp, sb_, if_pos rfl]
    rcases v_cases v2 (n := 3) (by omega) with o | ⟨y, hy, rfl⟩
    · rw [in2_out o, sb_, if_pos rfl]
      by_cases q : v2 < 0
      · rw [if_pos q]
        exact ⟨_, _, _, _, _, _, rfl, rfl⟩
      · have q2 : ¬ v2 ≤ 2 := fun z => by
          have o2 := o.resolve_left q
          rw [fa_le, nI_toInt (by omega)] at o2
          rw [fa_le] at z
          have : (2 : Int32).toInt = 2 := by decide
          omega
        rw [if_neg q, if_neg q2]
        exact ⟨_, _, _, _, _, _, rfl, rfl⟩
    · rw [in2_in hy, sb_, if_neg one_ne, if_neg (nI_pos (by omega)), if_pos (show nI y ≤ 2 from nI_le (b := 2) (by omega) (by omega)), q_fated hN hP hG hT, sb_, holds_ms (by omega) (by omega), sb_, m_isFree hN hP hM0 hw (by omega), sb_]
      have l1 : decide (p < 8) = true := by simp; omega
      rw [l1, Bool.true_and]
      by_cases f : sp_ft N g p = true
      · have hP2 := ft_wP hP f
        have hV2 := ft_wV hP hV f
        obtain ⟨I, a1, a2, s1, s2⟩ := q_suppose (T := U) (p := p) hT
        obtain ⟨I', b1, b2, t1, t2⟩ := q_till (T := (I, dk_upA (dk_upA U.2 1 a1) 2 a2)) hN hP2 hV2 hG s2
        obtain ⟨u, w1, w2⟩ := m_lay (u := M.2 17) hw
        have w3 : dk_wr u 21 0 (nI p) = some (upd u 0 (nI p)) := wr_nI (k := 0) (by omega) (by omega)
        obtain ⟨r', w', z1, z2⟩ := m_trial (M := (upd M.1 0 0, dk_upA M.2 17 (upd u 0 (nI p)))) hN hP2 hMN h15 (RP_up w2)
        have hP3 := tg_wP hN hP2
        have t2' : sp_RT (I', dk_upA (dk_upA U.2 1 b1) 2 b2) N (sp_tg N (sp_up g 0 p)) := t2
        have r2 : dk_rd w' 21 2 = some (nI (sp_tg N (sp_up g 0 p) 2)) := rd_w z2 (k := 2) (by omega)
        rw [if_pos f, if_neg one_ne, if_neg one_ne, s1, sb_]
        dsimp only
        rw [t1, sb_, w1, sb_, w3, sb_, z1, sb_]
        dsimp only
        by_cases y0 : nI y = 0
        · rw [if_pos y0, if_pos y0]
          exact ⟨_, _, _, _, _, _, rfl, rfl⟩
        rw [if_neg y0, if_neg y0]
        by_cases y1 : nI y = 1
        · rw [if_pos y1, if_pos y1, r2, sb_, show I' 5 = nI (sp_tg N (sp_up g 0 p) 2) from t2'.2.2.1]
          exact ⟨_, _, _, _, _, _, rfl, rfl⟩
        rw [if_neg y1, if_neg y1, q_living hN hP3 t2', sb_, m_living hN hP3 z2, sb_]
        exact ⟨_, _, _, _, _, _, rfl, rfl⟩
      · rw [if_neg f, if_pos rfl, if_pos rfl]
        exact ⟨_, _, _, _, _, _, rfl, rfl⟩
theorem cl_which (h : rl Q X G T C E CB SB M) : ∃ A I a1 a2 f u, fX5_which Q T G U E = some (A, I, a1, a2) ∧ fX6_which M = some (A, upd M.1 0 0, f, u) := by
  obtain ⟨N, g, k, b, n, t, j, a, c, hr, hb, hX, hE, hM, hK⟩ := h
  obtain ⟨hN, hP, hV, hG, hT, hMN, hw, h15⟩ := hr
  obtain ⟨I, a1, a2, y⟩ := q_which (Q := Q) (U := U) hN hP hG hT hE
  obtain ⟨f, u, z⟩ := m_which hN hP hMN h15 hw hM
  exact ⟨_, I, a1, a2, f, u, y, z⟩
theorem cl_luck (h : rl Q X G T C E CB SB M) (v1 v2 v3 : Int32) (h3 : v3 = 0 ∨ v3 = 1) : ∃ A I a1 a2 f u, fX5_luck Q T G U v1 v2 v3 = some (A, I, a1, a2) ∧ fX6_luck M v1 v2 v3 = some (A, upd M.1 0 0, f, u) := by
  obtain ⟨N, g, k, b, n, t, j, a, c, hr, hb, hX, hE, hM, hK⟩ := h
  obtain ⟨hN, hP, hV, hG, hT, hMN, hw, h15⟩ := hr
  have h8 := hN.2.1
  have hM0 : sp_RN (upd M.1 0 0, M.2) N := hMN
  unfold fX5_luck fX6_luck
  rcases v_cases v1 (n := 21) (by omega) with o | ⟨r, hr1, rfl⟩
  · rw [oos_r o, sb_, if_neg one_ne, in20_out o, sb_, if_pos rfl]
    exact ⟨_, _, _, _, _, _, rfl, rfl⟩
  · rw [in20_in hr1, sb_, if_neg one_ne]
    rcases v_cases v2 (n := 5) (by omega) with o | ⟨v, hv1, rfl⟩
    · rw [oos_v hr1 o, sb_, if_neg one_ne, in4_out o, sb_, if_pos rfl]
      exact ⟨_, _, _, _, _, _, rfl, rfl⟩
    · rw [oos_in hr1 hv1, sb_, if_pos rfl, in4_in hv1, sb_, if_neg one_ne, q_fated hN hP hG hT, sb_, m_fated (M := (upd M.1 0 0, M.2)) hN hP hM0 hw, sb_]
      by_cases q : ms (sp_ft N g) 8 = 0
      · rw [if_pos q, if_pos q]
        exact ⟨_, _, _, _, _, _, rfl, rfl⟩
      · obtain ⟨A, A1, A2⟩ := lu_frac (r := r) (v := v) h3 q
        obtain ⟨I, a1, a2, y⟩ := q_luck_L (Q := Q) (U := U) hN hP hG hT (by omega) (by omega) A1 8 0 1000 U.1 (U.2 1) (U.2 2) (by omega) (by omega)
        obtain ⟨f, u, z⟩ := m_luck_L (M := M) (J := upd M.1 0 0) hN hP hM0 h15 hw (by omega) (by omega) A2 (sp_n N) 0 1000 (M.2 26) (M.2 17) (by omega) (by omega)
        rw [if_neg q, if_neg q]
        exact ⟨A, I, a1, a2, f, u, y, z⟩
end AQ
