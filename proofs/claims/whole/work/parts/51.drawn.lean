/-! drawn; a told doing -/
theorem wb_tb (n : Nat) : (lN n).toBitVec = BitVec.ofNat 64 n := rfl
theorem wb_inj {a b : Int64} (h : a.toBitVec = b.toBitVec) : a = b := Int64.toBitVec_inj.mp h
theorem wb_tn {n : Nat} (h : n < 2 ^ 64) : (lN n).toBitVec.toNat = n := by rw [wb_tb, BitVec.toNat_ofNat, Nat.mod_eq_of_lt h]
theorem wb_of (x : Int64) : ∃ n, n < 2 ^ 64 ∧ x = lN n := ⟨x.toBitVec.toNat, x.toBitVec.isLt, wb_inj (by rw [wb_tb]; simp)⟩
theorem wb_cu : ∀ k, k < 64 → ((nI k).toInt64.toUInt64 &&& Int64.toUInt64 63) = UInt64.ofNat k := by decide +kernel
theorem wb_shr {n k : Nat} (hn : n < 2 ^ 64) (hk : k < 64) : ((lN n).toUInt64 >>> ((nI k).toInt64.toUInt64 &&& Int64.toUInt64 63)).toInt64 = lN (n / 2 ^ k) := by
  rw [wb_cu k hk]
  apply wb_inj
  apply BitVec.eq_of_toNat_eq
  show ((lN n).toUInt64 >>> UInt64.ofNat k).toNat = (BitVec.ofNat 64 _).toNat
  have h1 : (UInt64.ofNat k).toNat = k := by
    show (BitVec.ofNat 64 k).toNat = k
    rw [BitVec.toNat_ofNat, Nat.mod_eq_of_lt (by omega)]
  have h2 : (lN n).toUInt64.toNat = n := wb_tn hn
  rw [UInt64.toNat_shiftRight, h1, h2, Nat.mod_eq_of_lt hk, Nat.shiftRight_eq_div_pow, BitVec.toNat_ofNat, Nat.mod_eq_of_lt (Nat.lt_of_le_of_lt (Nat.div_le_self _ _) hn)]
theorem dr_v (x : Int64) : ∃ y, y < 2 ^ 31 ∧ ((x.toUInt64 >>> ((33 : Int32).toInt64.toUInt64 &&& Int64.toUInt64 63)).toInt64).toInt32 = nI y := by
  obtain ⟨n, hn, rfl⟩ := wb_of x
  refine ⟨n / 2 ^ 33, by omega, ?_⟩
  have h := wb_shr (n := n) (k := 33) hn (by omega)
  have h' : ((lN n).toUInt64 >>> ((33 : Int32).toInt64.toUInt64 &&& Int64.toUInt64 63)).toInt64 = lN (n / 2 ^ 33) := h
  rw [h', lN_i]
section DR
variable {N : sN} {g : Nat → Nat} {Q X T U G C E M : dk_O} {CB SB : Nat → dk_O} {k : Nat} {b : Nat → Nat → Nat}
theorem rem4 {y : Nat} (hy : y < 2 ^ 31) : nI y - nI y / 4 * 4 = nI (y % 4) := pk_rem (d := 4) hy (by omega) (by omega)
theorem div4 {y : Nat} (hy : y < 2 ^ 31) : nI y / 4 = nI (y / 4) := pk_div (d := 4) hy (by omega) (by omega)
theorem rem10 {y : Nat} (hy : y < 2 ^ 31) : nI y - nI y / 10 * 10 = nI (y % 10) := pk_rem (d := 10) hy (by omega) (by omega)
theorem div10 {y : Nat} (hy : y < 2 ^ 31) : nI y / 10 = nI (y / 10) := pk_div (d := 10) hy (by omega) (by omega)
/-- a step, if it can be -/
def sp_ps (N : sN) (g : Nat → Nat) (s e : Nat) : Nat → Nat := if sp_cs N g s e = true then sp_st N g s e else g
theorem ps_wP (hN : sp_wN N) (hP : sp_wP N g) {s e : Nat} : sp_wP N (sp_ps N g s e) := by
  unfold sp_ps
  by_cases q : sp_cs N g s e = true
  · rw [if_pos q]; exact wP_st hN hP q
  · rw [if_neg q]; exact hP
theorem q_goIf (hN : sp_wN N) (hP : sp_wP N g) (hG : sp_RG G N) (hT : sp_RT T N g) {s e : Nat} (hs : s < 1000) (he : e < 1000) : ∃ I a1 a2, fX3_goIfPossible T G (nI s) (nI e) = some (if sp_cs N g s e = true then 1 else 0, I, a1, a2) ∧ sp_RT (I, dk_upA (dk_upA T.2 1 a1) 2 a2) N (sp_ps N g s e) := by
  unfold fX3_goIfPossible sp_ps
  rw [q_canGo hN hP hG hT hs he, sb_]
  by_cases q : sp_cs N g s e = true
  · obtain ⟨I, a1, a2, y1, y2⟩ := q_go hN hP hG hT q
    rw [if_pos q, if_pos q, if_neg one_ne, y1, sb_]
    exact ⟨I, a1, a2, rfl, y2⟩
  · rw [if_neg q, if_neg q, if_pos rfl]
    exact ⟨_, _, _, rfl, hT⟩
theorem drawn_L (hN : sp_wN N) (hG : sp_RG G N) {J : Nat → Int32} (hM : sp_RN (J, M.2) N) {m : Nat} (hm : m ≤ 60) {s0 s1 : Int64} : ∀ d i fu (g : Nat → Nat) (x : Int32) (z : Int64) (I a1 a2 u : Nat → Int32), i + d = m → d < fu → sp_wP N g → sp_RT (I, dk_upA (dk_upA U.2 1 a1) 2 a2) N g → sp_RP u g → ∃ A z' I' a1' a2' u', fX5_drawn_L29 s0 Q T G U fu (nI m) x (nI i) z I a1 a2 = some (A, z', I', a1', a2') ∧ fX6_drawn_L35 s1 M fu (nI m) x (nI i) J u z = some (A, J, u', z')
  | 0, i, fu, g, x, z, I, a1, a2, u, h1, h2, hP, hT, hw => by
    obtain ⟨fu, rfl⟩ : ∃ k, fu = k + 1 := ⟨fu - 1, by omega⟩
    rw [fX5_drawn_L29, fX6_drawn_L35, if_pos (nI_le (by omega) (by omega)), if_pos (nI_le (by omega) (by omega))]
    exact ⟨_, _, _, _, _, _, rfl, rfl⟩
  | d + 1, i, fu, g, x, z, I, a1, a2, u, h1, h2, hP, hT, hw => by
    obtain ⟨fu, rfl⟩ : ∃ k, fu = k + 1 := ⟨fu - 1, by omega⟩
    obtain ⟨y, hy, ey⟩ := dr_v (z * 6364136223846793005 + 1442695040888963407)
    rw [fX5_drawn_L29, fX6_drawn_L35, if_neg (nI_ge (by omega) (by omega)), if_neg (nI_ge (by omega) (by omega)), ey, rem4 hy, div4 hy, rem10 (by omega)]
    obtain ⟨I', b1, b2, y1, y2⟩ := q_goIf (T := (I, dk_upA (dk_upA U.2 1 a1) 2 a2)) hN hP hG hT (s := y % 4) (e := y / 4 % 10) (by omega) (by omega)
    have hP2 := ps_wP hN hP (s := y % 4) (e := y / 4 % 10)
    have y2' : sp_RT (I', dk_upA (dk_upA U.2 1 b1) 2 b2) N (sp_ps N g (y % 4) (y / 4 % 10)) := y2
    rw [y1, sb_]
    dsimp only
    rw [q_living hN hP2 y2', sb_, nI_1, m_canStep (M := (J, dk_upA M.2 17 u)) hN hP hM hw (by omega) (by omega), sb_]
    have fin : ∀ u', sp_RP u' (sp_ps N g (y % 4) (y / 4 % 10)) → ∃ A z' I'' a1' a2' u'', fX5_drawn_L29 s0 Q T G U fu (nI m) (x + nI (sp_nl (sp_ps N g (y % 4) (y / 4 % 10)))) (nI (i + 1)) (z * 6364136223846793005 + 1442695040888963407) I' b1 b2 = some (A, z', I'', a1', a2') ∧ fX6_drawn_L107 s1 M (fun z0 z1 z2 z3 z4 z5 => fX6_drawn_L35 s1 M fu z0 z1 z2 z3 z4 z5) (nI m) x (nI i) J u' (z * 6364136223846793005 + 1442695040888963407) = some (A, J, u'', z') := by
      intro u' hu
      unfold fX6_drawn_L107
      rw [m_living hN hP2 hu, sb_, nI_1]
      exact drawn_L hN hG hM hm d (i + 1) fu _ _ _ I' b1 b2 u' (by omega) (by omega) hP2 y2' hu
    by_cases q : sp_cs N g (y % 4) (y / 4 % 10) = true
    · have c := cs_iff.mp q
      obtain ⟨w', u1, u2⟩ := m_stepOn (M := (J, dk_upA M.2 17 u)) hN hP hM hw (s := y % 4) (e := y / 4 % 10) (by omega) c.2.1 c.2.2.1
      rw [if_pos q, if_neg one_ne, u1, sb_]
      exact fin w' (by unfold sp_ps; rw [if_pos q]; exact u2)
    · rw [if_neg q, if_pos rfl]
      exact fin u (by unfold sp_ps; rw [if_neg q]; exact hw)
theorem in60_in {r : Nat} (h0 : 1 ≤ r) (h : r ≤ 60) : fX6_in (nI r).toInt64 1 60 = some 1 := by
  rw [in_eq, if_pos]
  exact ⟨(fa_wide_le 1 (nI r)).mpr (nI_le (a := 1) h0 (by omega)), (fa_wide_le (nI r) 60).mpr (nI_le (b := 60) h (by omega))⟩
theorem in60_out {v : Int32} (h : v < 1 ∨ ¬ v ≤ 60) : fX6_in v.toInt64 1 60 = some 0 := by
  rw [in_eq, if_neg]
  rintro ⟨q1, q2⟩
  have q1 := (fa_wide_le 1 v).mp q1
  have q2 := (fa_wide_le v 60).mp q2
  rcases h with h | h
  · rw [fa_lt] at h
    rw [fa_le] at q1
    omega
  · exact h q2
theorem cl_drawn (h : rl Q X G T C E CB SB M) (z : Int64) (v : Int32) : ∃ A z' I a1 a2 u, fX5_drawn z Q T G U v = some (A, z', I, a1, a2) ∧ fX6_drawn z M v = some (A, upd M.1 0 0, u, z') := by
  obtain ⟨N, g, k, b, n, t, j, a, c, hr, hb, hX, hE, hM, hK⟩ := h
  obtain ⟨hN, hP, hV, hG, hT, hMN, hw, h15⟩ := hr
  unfold fX5_drawn fX6_drawn
  by_cases q1 : v < 1
  · rw [if_pos q1, in60_out (Or.inl q1), sb_, if_pos rfl]
    exact ⟨_, _, _, _, _, _, rfl, rfl⟩
  · by_cases q2 : v ≤ 60
    · have e1 : v = nI v.toInt.toNat := by
        rw [fa_lt] at q1
        rw [fa_le] at q2
        have o1 : (1 : Int32).toInt = 1 := by decide
        have o2 : (60 : Int32).toInt = 60 := by decide
        apply Int32.toInt_inj.mp
        rw [nI_toInt (by omega)]
        omega
      have l1 : 1 ≤ v.toInt.toNat ∧ v.toInt.toNat ≤ 60 := by
        rw [fa_lt] at q1
        rw [fa_le] at q2
        have o1 : (1 : Int32).toInt = 1 := by decide
        have o2 : (60 : Int32).toInt = 60 := by decide
        omega
      generalize v.toInt.toNat = m at e1 l1
      subst e1
      obtain ⟨I, a1, a2, y1, y2⟩ := q_become (T := U) hT
      obtain ⟨u, w1, w2⟩ := m_lay (u := M.2 17) hw
      obtain ⟨A, z', I', b1, b2, u', d1, d2⟩ := drawn_L (Q := Q) (T := T) (U := U) (M := M) hN hG (J := upd M.1 0 0) hMN l1.2 (s0 := z) (s1 := z) m 0 1000 g 0 z I a1 a2 u (by omega) (by omega) hP y2 w2
      rw [if_neg q1, if_pos q2, in60_in l1.1 l1.2, sb_, if_neg one_ne, y1, sb_, w1, sb_]
      exact ⟨A, z', I', b1, b2, u', d1, d2⟩
    · rw [if_neg q1, if_neg q2, in60_out (Or.inr q2), sb_, if_pos rfl]
      exact ⟨_, _, _, _, _, _, rfl, rfl⟩
-- a told doing
theorem one_ct : ∀ z, z < 8 → fb_ct (fun i => decide (i = z)) 8 = 1 := by decide +kernel
theorem known_at {z : Nat} (hz : z < 8) : (sp_kn N g && sp_mb N g z) = true ↔ ms (sp_mb N g) 8 = (1 : Int32) <<< (nI z &&& 31) := by
  rw [ms_one hz (by omega), ms_eq (by omega), Bool.and_eq_true]
  constructor
  · rintro ⟨h1, h2⟩ i hi
    have o := known_one h1
    by_cases e : i = z
    · rw [e, h2]; simp
    · have : ¬ sp_mb N g i = true := fun y => e (((o.2 i hi).mp y).trans ((o.2 z hz).mp h2).symm)
      simp [e, this]
  · intro h
    refine ⟨?_, by rw [h z hz]; simp⟩
    unfold sp_kn
    rw [fb_ct_cong (q := fun i => decide (i = z)) h, one_ct z hz]
    rfl
theorem does (hN : sp_wN N) (hP : sp_wP N g) (hG : sp_RG G N) (hT : sp_RT T N g) (hM : sp_RN M N) (h15 : M.1 27 = 15) (hw : sp_RP (M.2 17) g) {x y z : Nat} (hx : x < 10) (hy : y < 10) (hz : z < 10) : ∃ A I a1 a2 f u g', fX3_allows T G (nI x) (nI y) (nI z) = some (A, I, a1, a2) ∧ fX6_does M (nI x) (nI y) (nI z) = some (A, f, u) ∧ sp_wP N g' ∧ sp_RT (I, dk_upA (dk_upA T.2 1 a1) 2 a2) N g' ∧ sp_RP u g' := by
  have h4 := hP.2.2.1
  have h8 := hN.2.1
  have hE := hN.2.2.2.1
  have rest : sp_wP N g ∧ sp_RT (T.1, dk_upA (dk_upA T.2 1 (T.2 1)) 2 (T.2 2)) N g ∧ sp_RP (M.2 17) g := ⟨hP, hT, hw⟩
  have l4 := nl_le hP
  unfold fX3_allows fX6_does
  rw [m_mayBe hN hP hM hw, sb_]
  by_cases x1 : nI x = 1
  · rw [if_pos x1, if_pos x1, m_canStep hN hP hM hw (by omega) (by omega), sb_]
    obtain ⟨I, a1, a2, y1, y2⟩ := q_goIf hN hP hG hT (s := y) (e := z) (by omega) (by omega)
    rw [y1, sb_]
    dsimp only
    unfold sp_ps at y2
    by_cases q : sp_cs N g y z = true
    · have c := cs_iff.mp q
      obtain ⟨w', u1, u2⟩ := m_stepOn hN hP hM hw (s := y) (e := z) (by omega) c.2.1 c.2.2.1
      rw [if_pos q] at y2
      rw [if_pos q, if_pos (Or.inr rfl), if_neg one_ne, u1, sb_]
      exact ⟨_, _, _, _, _, _, _, rfl, rfl, wP_st hN hP q, y2, u2⟩
    · rw [if_neg q] at y2
      rw [if_neg q, if_pos (Or.inl rfl), if_pos rfl]
      exact ⟨_, _, _, _, _, _, _, rfl, rfl, hP, y2, hw⟩
  rw [if_neg x1, if_neg x1]
  by_cases x2 : nI x = 2
  · rw [if_pos x2, if_pos x2]
    by_cases y0 : nI y = 0
    · rw [if_pos y0, if_pos y0]
      by_cases z0 : nI z = 0
      · rw [if_pos z0, if_pos z0]
        unfold fX3_playIfAnyLives
        rw [q_living hN hP hT, sb_, m_living hN hP hw, sb_]
        by_cases a : sp_nl g = 0
        · rw [if_pos (by rw [a]; rfl), if_pos (by rw [a]; rfl), sb_]
          dsimp only
          rw [if_pos rfl]
          exact ⟨_, _, _, _, _, _, _, rfl, rfl, rest⟩
        · have ne : ¬ nI (sp_nl g) = 0 := fun y => a ((nI_eq (b := 0) (by omega) (by omega)).mp y)
          obtain ⟨I, a1, a2, y1, y2⟩ := q_round (c := sp_all) hN hP hG hT (fun i hi => holds_15 hi)
          obtain ⟨f, w, u1, u2⟩ := m_round (c := sp_all) (M := M) hN hP hM hw (fun i hi => by rw [h15]; exact has_15 hi)
          rw [if_neg ne, if_neg ne, y1, sb_]
          dsimp only
          rw [sb_]
          dsimp only
          rw [if_neg one_ne, u1, sb_]
          exact ⟨_, _, _, _, _, _, _, rfl, rfl, (ro_wP hN hP).1, y2, u2⟩
      · rw [if_neg z0, if_neg z0]
        exact ⟨_, _, _, _, _, _, _, rfl, rfl, rest⟩
    · rw [if_neg y0, if_neg y0]
      exact ⟨_, _, _, _, _, _, _, rfl, rfl, rest⟩
  rw [if_neg x2, if_neg x2]
  by_cases x3 : nI x = 3
  · rw [if_pos x3, if_pos x3]
    by_cases y0 : nI y = 0
    · rw [if_pos y0, if_pos y0, q_living hN hP hT, sb_, m_living hN hP hw, sb_]
      by_cases q : nI (sp_nl g) = nI z
      · rw [if_pos q, if_pos q]
        exact ⟨_, _, _, _, _, _, _, rfl, rfl, rest⟩
      · rw [if_neg q, if_neg q]
        exact ⟨_, _, _, _, _, _, _, rfl, rfl, rest⟩
    · rw [if_neg y0, if_neg y0]
      exact ⟨_, _, _, _, _, _, _, rfl, rfl, rest⟩
  rw [if_neg x3, if_neg x3]
  by_cases x4 : nI x = 4
  · rw [if_pos x4, if_pos x4]
    by_cases y0 : nI y = 0
    · rw [if_pos y0, if_pos y0, q_mayBe hN hG hT, sb_, holds_ms (by omega) (by omega), sb_, has_ms (by omega) (by omega), sb_]
      by_cases q : (decide (z < 8) && sp_mb N g z) = true
      · rw [if_pos q, if_neg one_ne, if_neg one_ne]
        exact ⟨_, _, _, _, _, _, _, rfl, rfl, rest⟩
      · rw [if_neg q, if_pos rfl, if_pos rfl]
        exact ⟨_, _, _, _, _, _, _, rfl, rfl, rest⟩
    · rw [if_neg y0, if_neg y0]
      exact ⟨_, _, _, _, _, _, _, rfl, rfl, rest⟩
  rw [if_neg x4, if_neg x4]
  by_cases x5 : nI x = 5
  · have r1 : dk_rd (M.2 17) 21 1 = some (nI (g 1)) := rd_w hw (k := 1) (by omega)
    rw [if_pos x5, if_pos x5, r1, sb_]
    by_cases a : y < g 1
    · have hb := wP_at hN hP (show y < 4 by omega)
      rw [q_lives_in hN hP hT a, sb_, if_neg (nI_ge a (by omega)), q_placeOf_in hP hT a, sb_]
      by_cases p : z < sp_n N
      · rw [m_noPlace_in hN hM p, sb_, if_pos rfl, i_3, rd_w hw (by omega), sb_]
        by_cases q : g (3 + y) = z
        · have l : sp_lv g y = true := lv_true.mpr (by omega)
          rw [if_pos l, if_neg one_ne, pl_n (by omega), if_pos (by rw [q]), if_pos (by rw [q])]
          exact ⟨_, _, _, _, _, _, _, rfl, rfl, rest⟩
        · have n1 : ¬ nI (g (3 + y)) = nI z := fun w => q ((nI_eq (by omega) (by omega)).mp w)
          rw [if_neg n1]
          by_cases l : sp_lv g y = true
          · rw [if_pos l, if_neg one_ne, pl_n (lv_true.mp l), if_neg n1]
            exact ⟨_, _, _, _, _, _, _, rfl, rfl, rest⟩
          · rw [if_neg l, if_pos rfl]
            exact ⟨_, _, _, _, _, _, _, rfl, rfl, rest⟩
      · rw [m_noPlace_out hN hM (Or.inr (nI_le (by omega) (by omega))), sb_, if_neg one_ne]
        by_cases l : sp_lv g y = true
        · have hl := wP_pl hN hP (show y < 4 by omega) l
          rw [if_pos l, if_neg one_ne, pl_n (lv_true.mp l), if_neg (fun w => by have := (nI_eq (by omega) (by omega)).mp w; omega)]
          exact ⟨_, _, _, _, _, _, _, rfl, rfl, rest⟩
        · rw [if_neg l, if_pos rfl]
          exact ⟨_, _, _, _, _, _, _, rfl, rfl, rest⟩
    · rw [q_lives_out hT (Or.inr (nI_le (by omega) (by omega))), sb_, if_pos rfl, if_pos (nI_le (by omega) (by omega))]
      exact ⟨_, _, _, _, _, _, _, rfl, rfl, rest⟩
  rw [if_neg x5, if_neg x5]
  by_cases x6 : nI x = 6
  · rw [if_pos x6, if_pos x6]
    by_cases a : y < sp_E N
    · rw [q_isE_in hG hN a, sb_, if_neg one_ne, m_noEdge_in hN hM a, sb_, if_pos rfl, RT_stateOf hT hN hP a, sb_, i_11, rd_w hw (by omega), sb_]
      by_cases q : nI (g (11 + y)) = nI z
      · rw [if_pos q, if_pos q]
        exact ⟨_, _, _, _, _, _, _, rfl, rfl, rest⟩
      · rw [if_neg q, if_neg q]
        exact ⟨_, _, _, _, _, _, _, rfl, rfl, rest⟩
    · rw [q_isE_out hG (Or.inr (nI_le (by omega) (by omega))), sb_, if_pos rfl, m_noEdge_out hN hM (Or.inr (nI_le (by omega) (by omega))), sb_, if_neg one_ne]
      exact ⟨_, _, _, _, _, _, _, rfl, rfl, rest⟩
  rw [if_neg x6, if_neg x6]
  by_cases x7 : nI x = 7
  · rw [if_pos x7, if_pos x7]
    by_cases y0 : nI y = 0
    · have ka : fX3_isKnownAt T G (nI z) = some (if (sp_kn N g && (decide (z < 8) && sp_mb N g z)) = true then 1 else 0) := by
        unfold fX3_isKnownAt
        rw [q_isKnown hN hG hT, sb_]
        by_cases q : sp_kn N g = true
        · rw [if_pos q, if_neg one_ne, q_mayBe hN hG hT, sb_, holds_ms (by omega) (by omega), sb_, q, Bool.true_and]
          by_cases w : (decide (z < 8) && sp_mb N g z) = true
          · rw [if_pos w, if_neg one_ne]
          · rw [if_neg w, if_pos rfl]
        · rw [if_neg q, if_pos rfl, if_neg]
          intro w
          rw [Bool.and_eq_true] at w
          exact q w.1
      rw [if_pos y0, if_pos y0, ka, sb_]
      by_cases p : z < sp_n N
      · have l1 : decide (z < 8) = true := by simp; omega
        rw [m_noPlace_in hN hM p, sb_, if_pos rfl, l1, Bool.true_and]
        by_cases q : (sp_kn N g && sp_mb N g z) = true
        · rw [if_pos q, if_neg one_ne, if_pos ((known_at (by omega)).mp q)]
          exact ⟨_, _, _, _, _, _, _, rfl, rfl, rest⟩
        · rw [if_neg q, if_pos rfl, if_neg (fun w => q ((known_at (by omega)).mpr w))]
          exact ⟨_, _, _, _, _, _, _, rfl, rfl, rest⟩
      · have m0 : sp_mb N g z = false := by unfold sp_mb; simp [p]
        rw [m_noPlace_out hN hM (Or.inr (nI_le (by omega) (by omega))), sb_, if_neg one_ne, m0, Bool.and_false, Bool.and_false, if_neg (show ¬ false = true by decide), if_pos rfl]
        exact ⟨_, _, _, _, _, _, _, rfl, rfl, rest⟩
    · rw [if_neg y0, if_neg y0]
      exact ⟨_, _, _, _, _, _, _, rfl, rfl, rest⟩
  rw [if_neg x7, if_neg x7]
  exact ⟨_, _, _, _, _, _, _, rfl, rfl, rest⟩
end DR
