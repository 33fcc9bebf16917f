/-! the reference's way towards the nearest unseen edge; the edge that caution tells -/
section FC
variable {N : sN} {g : Nat → Nat} {M : dk_O} {w : Nat → Int32}
theorem RN_26 {r : Nat → Int32} (h : sp_RN M N) : sp_RN (M.1, dk_upA M.2 26 r) N := h
theorem di_top {p q : Nat} : sp_di N g p q ≤ 99 := by
  unfold sp_di
  split
  · omega
  · omega
theorem di_iff (hN : sp_wN N) {p q d : Nat} (hp : p < sp_n N) (hd : d < 99) : sp_di N g p q ≤ d ↔ sp_rs N g p d q = true := by
  have h8 := hN.2.1
  unfold sp_di
  constructor
  · intro h
    by_cases a : fa_first (fun k => sp_rs N g p k q) 8 < 8
    · rw [if_pos a] at h
      exact rs_mono h (fa_first_yes (fun k => sp_rs N g p k q) 8 a)
    · rw [if_neg a] at h; omega
  · intro h
    have h2 := rs_near hN hp h
    have a : fa_first (fun k => sp_rs N g p k q) 8 < 8 := first_lt (f := fun k => sp_rs N g p k q) (show sp_n N - 1 < 8 by omega) h2
    rw [if_pos a]
    rcases Nat.lt_or_ge d (fa_first (fun k => sp_rs N g p k q) 8) with z | z
    · have h1 := fa_first_no (fun k => sp_rs N g p k q) 8 d z
      have h3 : sp_rs N g p d q = false := h1
      rw [h] at h3; cases h3
    · exact z
/-- the best so far -/
def tw_b (N : sN) (g : Nat → Nat) (p i b : Nat) : Prop := b < i ∧ sp_go N g b = true ∧ sp_di N g p b < 99 ∧ (∀ q, q < i → sp_go N g q = true → sp_di N g p b ≤ sp_di N g p q) ∧ ∀ q, q < b → sp_go N g q = true → sp_di N g p b < sp_di N g p q
theorem tw_none (hN : sp_wN N) {p : Nat} (hp : p < sp_n N) (h : ∀ q, q < sp_n N → sp_go N g q = true → ¬ sp_di N g p q < 99) : ¬ sp_nd N g p < 8 := by
  intro z
  obtain ⟨f1, f2, f3, f4⟩ := nd_facts z
  have := (di_iff hN hp (by omega)).mpr f3
  exact h _ (rs_lt hN hp f3) f2 (by omega)
theorem tw_some (hN : sp_wN N) {p b : Nat} (hp : p < sp_n N) (h : tw_b N g p (sp_n N) b) : sp_nd N g p < 8 ∧ sp_nq N g p = b := by
  obtain ⟨b1, b2, b3, b4, b5⟩ := h
  have h8 := hN.2.1
  have hb := (di_iff hN hp b3).mp (Nat.le_refl (sp_di N g p b))
  have hb7 := rs_near hN hp hb
  have lt7 := (di_iff hN hp (show sp_n N - 1 < 99 by omega)).mpr hb7
  have nd : sp_nd N g p = sp_di N g p b := by
    unfold sp_nd
    refine first_eq (f := fun d => sp_any (fun q => sp_go N g q && sp_rs N g p d q) 8) (by omega) ?_ (fun k hk => ?_)
    · exact sp_any_iff.mpr ⟨b, by omega, by rw [b2, hb]; rfl⟩
    · refine sp_any_no.mpr (fun q hq => ?_)
      cases z : (sp_go N g q && sp_rs N g p k q)
      · rfl
      · exfalso
        rw [Bool.and_eq_true] at z
        have z1 := (di_iff hN hp (by omega)).mpr z.2
        have z2 := b4 q (rs_lt hN hp z.2) z.1
        omega
  refine ⟨by omega, ?_⟩
  unfold sp_nq
  rw [nd]
  refine first_eq (f := fun q => sp_go N g q && sp_rs N g p (sp_di N g p b) q) (by omega) (by rw [b2, hb]; rfl) (fun q hq => ?_)
  cases z : (sp_go N g q && sp_rs N g p (sp_di N g p b) q)
  · rfl
  · exfalso
    rw [Bool.and_eq_true] at z
    have z1 := (di_iff hN hp b3).mpr z.2
    have z2 := b5 q hq z.1
    omega
theorem m_tow12 (hN : sp_wN N) (hP : sp_wP N g) (hM : sp_RN M N) (hw : sp_RP w g) {p : Nat} (hp : p < sp_n N) {r : Nat → Int32} (hr : fr_R r (sp_di N g p)) : ∀ d i fu x3, i + d = sp_n N → d < fu → ((x3 = -9 ∧ ∀ q, q < i → sp_go N g q = true → ¬ sp_di N g p q < 99) ∨ ∃ b, x3 = nI b ∧ tw_b N g p i b) → fX6_towards_L12 M w fu (nI p) x3 (nI i) r = if sp_nd N g p < 8 then ((fX6_layFar (M.1, dk_upA M.2 26 r) w (nI (sp_nq N g p))).bind fun r' => fX6_towards_L110 M w 1000 (nI p) 0 r') else some (-9, r)
  | 0, i, fu, x3, h1, h2, hx => by
    have h8 := hN.2.1
    obtain ⟨fu, rfl⟩ : ∃ k, fu = k + 1 := ⟨fu - 1, by omega⟩
    rw [fX6_towards_L12, hM.1, if_pos (nI_le (by omega) (by omega))]
    have hi : i = sp_n N := by omega
    subst hi
    rcases hx with ⟨e1, e2⟩ | ⟨b, e1, e2⟩
    · rw [if_pos e1, if_neg (tw_none hN hp e2)]
    · have f := tw_some hN hp e2
      have b1 := e2.1
      rw [if_neg (by rw [e1]; exact m9_ne (by omega)), if_pos f.1, f.2, e1]
  | d + 1, i, fu, x3, h1, h2, hx => by
    have h8 := hN.2.1
    have hE := hN.2.2.2.1
    obtain ⟨fu, rfl⟩ : ∃ k, fu = k + 1 := ⟨fu - 1, by omega⟩
    have ti := di_top (N := N) (g := g) (p := p) (q := i)
    have no : (sp_go N g i = true → ¬ sp_di N g p i < 99) → ((x3 = -9 ∧ ∀ q, q < i + 1 → sp_go N g q = true → ¬ sp_di N g p q < 99) ∨ ∃ b, x3 = nI b ∧ tw_b N g p (i + 1) b) := by
      intro hn
      rcases hx with ⟨e1, e2⟩ | ⟨b, e1, b1, b2, b3, b4, b5⟩
      · refine Or.inl ⟨e1, fun q hq => ?_⟩
        by_cases z : q = i
        · rw [z]; exact hn
        · exact e2 q (by omega)
      · refine Or.inr ⟨b, e1, by omega, b2, b3, fun q hq gq => ?_, b5⟩
        by_cases z : q = i
        · rw [z] at gq
          have := hn gq
          rw [z]; omega
        · exact b4 q (by omega) gq
    have next := fun x => m_tow12 hN hP hM hw hp hr d (i + 1) fu x (by omega) (by omega)
    rw [fX6_towards_L12, hM.1, if_neg (nI_ge (by omega) (by omega)), fr_rd hr (by omega), sb_]
    by_cases a1 : sp_di N g p i < 99
    · rw [if_neg (show ¬ (99 : Int32) ≤ nI (sp_di N g p i) from nI_ge (b := 99) (by omega) (by omega)), m_unseenAt hN hP (RN_26 hM) hw (by omega), sb_]
      by_cases a2 : sp_ua N g i < sp_E N
      · have gi := ua_go.mp a2
        rw [if_pos a2, if_neg (m9_ne (by omega)), fX6_towards_L50, if_neg (by decide)]
        rcases hx with ⟨e1, e2⟩ | ⟨b, e1, b1, b2, b3, b4, b5⟩
        · rw [if_pos e1, nI_1]
          refine next (nI i) (Or.inr ⟨i, rfl, by omega, gi, a1, fun q hq gq => ?_, fun q hq gq => ?_⟩)
          · by_cases z : q = i
            · rw [z]; omega
            · have := e2 q (by omega) gq; omega
          · have := e2 q hq gq; omega
        · rw [if_neg (by rw [e1]; exact m9_ne (by omega)), fr_rd hr (by omega), sb_, e1, fr_rd hr (by omega), sb_, nI_1]
          by_cases a3 : sp_di N g p b ≤ sp_di N g p i
          · rw [if_pos (nI_le a3 (by omega))]
            refine next (nI b) (Or.inr ⟨b, rfl, by omega, b2, b3, fun q hq gq => ?_, b5⟩)
            by_cases z : q = i
            · rw [z]; exact a3
            · exact b4 q (by omega) gq
          · rw [if_neg (nI_ge (by omega) (by omega))]
            refine next (nI i) (Or.inr ⟨i, rfl, by omega, gi, a1, fun q hq gq => ?_, fun q hq gq => ?_⟩)
            · by_cases z : q = i
              · rw [z]; omega
              · have := b4 q (by omega) gq; omega
            · have := b4 q (by omega) gq; omega
      · rw [if_neg a2, if_pos rfl, fX6_towards_L50, if_pos rfl, nI_1]
        exact next x3 (no (fun z => absurd (ua_go.mpr z) a2))
    · rw [if_pos (show (99 : Int32) ≤ nI (sp_di N g p i) from nI_le (a := 99) (by omega) (by omega)), fX6_towards_L50, if_pos rfl, nI_1]
      exact next x3 (no (fun _ => a1))
theorem m_tow110 (hN : sp_wN N) (hP : sp_wP N g) (hM : sp_RN M N) (hw : sp_RP w g) {p : Nat} (hp : p < sp_n N) (h : sp_nd N g p < 8) (h0 : sp_go N g p = false) {r : Nat → Int32} (hr : fr_R r (sp_di N g (sp_nq N g p))) : ∀ d i fu, i + d = sp_E N → d < fu → (∀ j, j < i → (sp_sf g j && (sp_en N j p && sp_rs N g (sp_nq N g p) (sp_nd N g p - 1) (sp_by N j p))) = false) → fX6_towards_L110 M w fu (nI p) (nI i) r = some (if sp_tw N g p < sp_E N then nI (sp_tw N g p) else -9, r) := by
  have h8 := hN.2.1
  have hE := hN.2.2.2.1
  obtain ⟨t1, t2, t3⟩ := tw_facts h h0
  have hQ := rs_lt hN hp (nd_facts h).2.2.1
  have dp : sp_di N g (sp_nq N g p) p = sp_nd N g p := by
    have l := (di_iff hN hQ (show sp_nd N g p < 99 by omega)).mpr t3
    rcases Nat.lt_or_ge (sp_di N g (sp_nq N g p) p) (sp_nd N g p) with z | z
    · have y := (di_iff hN hQ (show sp_di N g (sp_nq N g p) p < 99 by omega)).mp (Nat.le_refl _)
      rw [t2 _ z] at y; cases y
    · omega
  intro d
  induction d with
  | zero =>
    intro i fu h1 h2 hj
    obtain ⟨fu, rfl⟩ : ∃ k, fu = k + 1 := ⟨fu - 1, by omega⟩
    rw [fX6_towards_L110, hM.2.2.1, if_pos (nI_le (by omega) (by omega)), if_neg]
    unfold sp_tw
    rw [first_none (fun k hk => hj k (by omega))]
    omega
  | succ d ih =>
    intro i fu h1 h2 hj
    obtain ⟨fu, rfl⟩ : ∃ k, fu = k + 1 := ⟨fu - 1, by omega⟩
    have he := hP.2.2.2.2.2.1 i (by omega)
    have hb := by_lt hN (e := i) (p := p) (by omega)
    have tb := di_top (N := N) (g := g) (p := sp_nq N g p) (q := sp_by N i p)
    rw [fX6_towards_L110, hM.2.2.1, if_neg (nI_ge (by omega) (by omega)), i_11, rd_w hw (by omega), sb_, nI_1]
    have next : (sp_sf g i && (sp_en N i p && sp_rs N g (sp_nq N g p) (sp_nd N g p - 1) (sp_by N i p))) = false → fX6_towards_L110 M w fu (nI p) (nI (i + 1)) r = some (if sp_tw N g p < sp_E N then nI (sp_tw N g p) else -9, r) := by
      intro hi
      refine ih (i + 1) fu (by omega) (by omega) (fun j hj2 => ?_)
      by_cases z : j = i
      · rw [z]; exact hi
      · exact hj j (by omega)
    by_cases a1 : g (11 + i) = 2
    · rw [if_pos (by rw [a1]; rfl), m_ends hN (RN_26 hM) (by omega) (by omega), sb_]
      cases b : sp_en N i p
      · rw [show (if false = true then (1 : Int32) else 0) = 0 from rfl, if_pos rfl]
        exact next (by rw [b]; simp)
      · rw [show (if true = true then (1 : Int32) else 0) = 1 from rfl, if_neg (by decide), m_beyond hN (RN_26 hM) (by omega) (by omega), sb_, fr_rd hr (by omega), sb_, fr_rd hr (by omega), sb_, dp]
        by_cases a2 : sp_nd N g p ≤ sp_di N g (sp_nq N g p) (sp_by N i p)
        · rw [if_pos (nI_le a2 (by omega))]
          refine next ?_
          cases z : sp_rs N g (sp_nq N g p) (sp_nd N g p - 1) (sp_by N i p)
          · simp
          · have := (di_iff hN hQ (by omega)).mpr z
            omega
        · rw [if_neg (nI_ge (by omega) (by omega))]
          have y := (di_iff hN hQ (show sp_nd N g p - 1 < 99 by omega)).mp (show sp_di N g (sp_nq N g p) (sp_by N i p) ≤ sp_nd N g p - 1 by omega)
          have e1 : sp_tw N g p = i := by
            unfold sp_tw
            exact first_eq (f := fun e => sp_sf g e && (sp_en N e p && sp_rs N g (sp_nq N g p) (sp_nd N g p - 1) (sp_by N e p))) (by omega) (by simp [b, y, sp_sf, a1]) hj
          rw [e1, if_pos (by omega)]
    · rw [if_neg (show ¬ nI (g (11 + i)) = 2 from fun z => a1 ((nI_eq (b := 2) (by omega) (by omega)).mp z))]
      exact next (by simp [sp_sf, a1])
theorem m_towards (hN : sp_wN N) (hP : sp_wP N g) (hM : sp_RN M N) (hw : sp_RP w g) {p : Nat} (hp : p < sp_n N) (h0 : sp_go N g p = false) : ∃ r, fX6_towards M w (nI p) = some (if sp_nd N g p < 8 then (if sp_tw N g p < sp_E N then nI (sp_tw N g p) else -9) else -9, r) := by
  have h8 := hN.2.1
  have hE := hN.2.2.2.1
  obtain ⟨r1, y1, y2⟩ := m_layFar hN hP hM hw hp
  unfold fX6_towards
  rw [y1, sb_]
  have y3 := m_tow12 hN hP hM hw hp y2 (sp_n N) 0 1000 (-9) (by omega) (by omega) (Or.inl ⟨rfl, fun q hq => absurd hq (by omega)⟩)
  by_cases a : sp_nd N g p < 8
  · obtain ⟨r2, z1, z2⟩ := m_layFar hN hP (RN_26 (r := r1) hM) hw (rs_lt hN hp (nd_facts a).2.2.1)
    refine ⟨r2, ?_⟩
    refine y3.trans ?_
    rw [if_pos a, if_pos a, z1, sb_]
    exact m_tow110 hN hP hM hw hp a h0 z2 (sp_E N) 0 1000 (by omega) (by omega) (fun j hj => absurd hj (by omega))
  · refine ⟨r1, ?_⟩
    refine y3.trans ?_
    rw [if_neg a, if_neg a]
theorem m_chosen (hN : sp_wN N) (hP : sp_wP N g) (hM : sp_RN M N) (hw : sp_RP w g) {s : Nat} (hs : s < 4) : ∃ r, fX6_chosen M w (nI s) = some (if sp_ch N g s < sp_E N then nI (sp_ch N g s) else -9, r) := by
  have h8 := hN.2.1
  have hE := hN.2.2.2.1
  have ho := wP_ot hN hP hs
  have ha := wP_at hN hP hs
  unfold fX6_chosen
  rw [m_lives hw hs (by omega), sb_]
  by_cases a1 : sp_lv g s = true
  · have hp := wP_pl hN hP hs a1
    rw [if_pos a1, if_neg (by decide), i_7, rd_w hw (by omega), sb_]
    by_cases a2 : 0 < g (7 + s)
    · rw [if_neg (fun z => (pos_nI (by omega)).mp z a2), sb_]
      have c : sp_ch N g s = g (7 + s) - 1 := by
        unfold sp_ch
        rw [if_neg (by rw [a1]; decide), if_pos a2]
      have le : g (7 + s) ≤ sp_E N := by
        rcases hP.2.2.2.2.1 s hs with z | z
        · omega
        · exact z.1
      rw [c, if_pos (by omega)]
      exact ⟨_, by rw [show nI (g (7 + s)) - 1 = nI (g (7 + s) - 1) from pk_sub (b := 1) (by omega)]⟩
    · rw [if_pos ((pos_nI (by omega)).mpr a2), m_isKnown hN hP hM hw, sb_]
      by_cases a3 : sp_kn N g = true
      · have c : sp_ch N g s = sp_E N := by
          unfold sp_ch
          rw [if_neg (by rw [a1]; decide), if_neg a2, if_pos a3]
        rw [if_pos a3, if_neg (by decide), c, if_neg (by omega)]
        exact ⟨_, rfl⟩
      · rw [if_neg a3, if_pos rfl, i_3, rd_w hw (by omega), sb_, m_unseenAt hN hP hM hw (by omega), sb_]
        by_cases a4 : sp_ua N g (g (3 + s)) < sp_E N
        · have c : sp_ch N g s = sp_ua N g (g (3 + s)) := by
            unfold sp_ch
            rw [if_neg (by rw [a1]; decide), if_neg a2, if_neg a3, if_pos a4]
          rw [if_pos a4, if_neg (m9_ne (by omega)), c, if_pos a4]
          exact ⟨_, rfl⟩
        · rw [if_neg a4, if_pos rfl, sb_]
          have h0 : sp_go N g (g (3 + s)) = false := by
            rw [← Bool.not_eq_true]
            exact fun z => a4 (ua_go.mpr z)
          obtain ⟨r, y⟩ := m_towards hN hP hM hw hp h0
          rw [y, sb_]
          refine ⟨r, ?_⟩
          by_cases a5 : sp_nd N g (g (3 + s)) < 8
          · have c : sp_ch N g s = sp_tw N g (g (3 + s)) := by
              unfold sp_ch
              rw [if_neg (by rw [a1]; decide), if_neg a2, if_neg a3, if_neg a4, if_pos a5]
            rw [c, if_pos a5]
          · have c : sp_ch N g s = sp_E N := by
              unfold sp_ch
              rw [if_neg (by rw [a1]; decide), if_neg a2, if_neg a3, if_neg a4, if_neg a5]
            rw [c, if_neg a5, if_neg (Nat.lt_irrefl _)]
  · have c : sp_ch N g s = sp_E N := by
      unfold sp_ch
      rw [if_pos (by simpa using a1)]
    rw [if_neg a1, if_pos rfl, c, if_neg (Nat.lt_irrefl _)]
    exact ⟨_, rfl⟩
end FC
