/-! the class's step -/
theorem one_uniq {p : Nat → Bool} {n : Nat} (h : fb_ct p n = 1) {i j : Nat} (hi : i < n) (hj : j < n) (pi : p i = true) (pj : p j = true) : i = j := by
  have key : ∀ a b, a < b → b < n → p a = true → p b = true → False := by
    intro a b hab hb pa pb
    have h1 := fb_ct_succ p a
    rw [if_pos pa] at h1
    have h2 := fb_ct_succ p b
    rw [if_pos pb] at h2
    have h3 := fb_ct_mono p (show a + 1 ≤ b by omega)
    have h4 := fb_ct_mono p (show b + 1 ≤ n by omega)
    omega
  rcases Nat.lt_trichotomy i j with q | q | q
  · exact (key i j q hj pi pj).elim
  · exact q
  · exact (key j i q hi pj pi).elim
theorem holds_0 {i : Nat} (hi : i < 31) : fX5_holds 0 (nI i) = some 0 := by
  have h := holds_ms (f := fun _ => false) (k := 10) (i := i) (by omega) hi
  rw [ms_none (by omega)] at h
  simpa using h
section GO
variable {N : sN} {g : Nat → Nat} {T G : dk_O}
theorem known_one (hk : sp_kn N g = true) : fa_first (sp_mb N g) 8 < 8 ∧ ∀ p, p < 8 → (sp_mb N g p = true ↔ p = fa_first (sp_mb N g) 8) := by
  have h1 : fb_ct (sp_mb N g) 8 = 1 := by simpa [sp_kn] using hk
  obtain ⟨k, hk1, hk2⟩ := fb_ct_pos.mp (show 0 < fb_ct (sp_mb N g) 8 by omega)
  have hl := first_lt hk1 hk2
  refine ⟨hl, fun p hp => ⟨fun q => one_uniq h1 hp hl q (fa_first_yes _ _ hl), fun q => ?_⟩⟩
  rw [q]; exact fa_first_yes _ _ hl
theorem q_open65 (hN : sp_wN N) (hP : sp_wP N g) (hG : sp_RG G N) (hT : sp_RT T N g) {s : Nat} (hs : s < g 1) (hl : sp_lv g s = true) (f : Nat → Bool) : fX3_openEdges_L65 T G (nI s) (ms (fun e => decide (e < sp_E N) && f e) 10) = some (ms (fun e => decide (e < sp_E N) && (sp_en N e (g (3 + s)) && (sp_sf g e || f e))) 10) := by
  have h4 := hP.2.2.1
  have h8 := hN.2.1
  have hp := wP_pl hN hP (show s < 4 by omega) hl
  unfold fX3_openEdges_L65
  rw [rd_nI (by omega) (by omega), sb_, RT_at hT (by omega), pl_n (lv_true.mp hl), q_edgesFrom hG (by omega), sb_, RT_sf hT, ms_or (by omega), ms_and (by omega)]
  congr 1
  refine ms_cong (fun j _ => ?_)
  by_cases q : j < sp_E N <;> simp [q]
theorem q_openEdges (hN : sp_wN N) (hP : sp_wP N g) (hG : sp_RG G N) (hT : sp_RT T N g) {s : Nat} (hs : s < g 1) : fX3_openEdges T G (nI s) = some (ms (fun e => decide (e < sp_E N) && sp_cs N g s e) 10) := by
  have h4 := hP.2.2.1
  have h8 := hN.2.1
  have hE := hN.2.2.2.1
  have ho := wP_ot hN hP (show s < 4 by omega)
  unfold fX3_openEdges
  rw [q_lives_in hN hP hT hs, sb_]
  by_cases a1 : sp_lv g s = true
  · rw [if_pos a1, if_neg (by decide), rd_nI (by omega) (by omega), sb_, RT_ot hT (by omega)]
    by_cases a2 : g (7 + s) = 0
    · rw [if_pos ((ot_m9 (by omega)).mpr a2), q_isKnown hN hG hT, sb_]
      by_cases a3 : sp_kn N g = true
      · obtain ⟨k1, k2⟩ := known_one a3
        rw [if_pos a3, if_neg (by decide), q_mayBe hN hG hT, sb_, least_ms8 k1, sb_, q_edgesFrom hG k1, sb_, RT_un hT, ms_andn (by omega)]
        have e1 : ms (fun i => (decide (i < sp_E N) && sp_un g i) && !(decide (i < sp_E N) && sp_en N i (fa_first (sp_mb N g) 8))) 10 = ms (fun e => decide (e < sp_E N) && (sp_un g e && !sp_en N e (fa_first (sp_mb N g) 8))) 10 := by
          refine ms_cong (fun j _ => ?_)
          by_cases q : j < sp_E N <;> simp [q]
        rw [e1, q_open65 hN hP hG hT hs a1]
        congr 1
        refine ms_cong (fun j _ => ?_)
        by_cases q : j < sp_E N
        · have hw := hN.2.2.2.2 j q
          have e2 : (sp_mb N g (sp_a N j) || sp_mb N g (sp_b N j)) = sp_en N j (fa_first (sp_mb N g) 8) := by
            rw [Bool.eq_iff_iff, Bool.or_eq_true, en_iff, k2 _ (by omega), k2 _ (by omega)]
          simp [q, sp_cs, hs, a1, a2, a3, e2]
        · simp [q]
      · rw [if_neg a3, if_pos rfl, RT_un hT, q_open65 hN hP hG hT hs a1]
        congr 1
        refine ms_cong (fun j _ => ?_)
        have a3' : sp_kn N g = false := by simpa using a3
        by_cases q : j < sp_E N
        · simp [q, sp_cs, hs, a1, a2, a3']
        · simp [q]
    · rcases hP.2.2.2.2.1 s (by omega) with z | ⟨z1, z2, z3, z4, z5⟩
      · exact absurd z a2
      · rw [if_neg (fun q => a2 ((ot_m9 (by omega)).mp q)), sb_, ot_n a2, ms_one (k := 10) (by omega) (by omega)]
        congr 1
        refine ms_cong (fun j _ => ?_)
        by_cases q : j = g (7 + s) - 1
        · have hc : sp_cs N g s (g (7 + s) - 1) = true := cs_iff.mpr ⟨hs, by omega, a1, z4, by rw [if_pos (by omega)]; simp; omega⟩
          rw [q, hc]
          simp; omega
        · simp [sp_cs, q, show 0 < g (7 + s) by omega, show ¬ g (7 + s) = j + 1 by omega]
  · have a1' : sp_lv g s = false := by simpa using a1
    rw [if_neg a1, if_pos rfl]
    congr 1
    refine ((ms_zero (by omega)).mpr (fun i _ => ?_)).symm
    simp [sp_cs, a1']
theorem q_canGo (hN : sp_wN N) (hP : sp_wP N g) (hG : sp_RG G N) (hT : sp_RT T N g) {s e : Nat} (hs : s < 1000) (he : e < 1000) : fX3_canGo T G (nI s) (nI e) = some (if sp_cs N g s e = true then 1 else 0) := by
  have h4 := hP.2.2.1
  have hE := hN.2.2.2.1
  unfold fX3_canGo
  by_cases a1 : e < sp_E N
  · rw [q_isE_in hG hN a1, sb_, if_neg (by decide)]
    by_cases a2 : s < g 1
    · rw [q_openEdges hN hP hG hT a2, sb_, holds_ms (by omega) (by omega), sb_]
      cases q : sp_cs N g s e <;> simp [a1, show e < 10 by omega] <;> rfl
    · have : fX3_openEdges T G (nI s) = some 0 := by
        unfold fX3_openEdges
        rw [q_lives_out hT (Or.inr (nI_le (by omega) (by omega))), sb_, if_pos rfl]
      rw [this, sb_, holds_0 (by omega), sb_, if_pos rfl, if_neg (by simp [sp_cs, a2])]
  · rw [q_isE_out hG (Or.inr (nI_le (by omega) (by omega))), sb_, if_pos rfl, if_neg (by simp [sp_cs, a1])]
/-- a Stand out of its parts -/
theorem RT_mk {I a1 a2 : Nat → Int32} {A : Nat → Nat → Int32} (h3 : I 3 = nI (g 1)) (h4 : I 4 = nI (g 0)) (h5 : I 5 = nI (g 2)) (h6 : I 6 = ms (fun e => decide (e < sp_E N) && sp_un g e) 10) (h7 : I 7 = ms (fun e => decide (e < sp_E N) && sp_sf g e) 10) (h8 : I 8 = ms (sp_vis N g) 8) (ha : ∀ s, s < 4 → a1 s = sp_pl (g (3 + s))) (ho : ∀ s, s < 4 → a2 s = sp_ot (g (7 + s))) : sp_RT (I, dk_upA (dk_upA A 1 a1) 2 a2) N g :=
  ⟨h3, h4, h5, h6, h7, h8, fun s hs => by show dk_upA (dk_upA A 1 a1) 2 a2 1 s = _; rw [upA_n (by omega), upA_s]; exact ha s hs, fun s hs => by show dk_upA (dk_upA A 1 a1) 2 a2 2 s = _; rw [upA_s]; exact ho s hs⟩
/-- only the edges' states matter for what is visited -/
theorem vis_cong {g' : Nat → Nat} (h : ∀ e, e < sp_E N → sp_sf g' e = sp_sf g e) (p : Nat) : sp_vis N g' p = sp_vis N g p := by
  unfold sp_vis
  rw [sp_any_cong (fun e he => by rw [h e he])]
theorem vis_back {g' : Nat → Nat} {e : Nat} (he : e < sp_E N) (h1 : sp_sf g' e = true) (h : ∀ i, i < sp_E N → i ≠ e → sp_sf g' i = sp_sf g i) (p : Nat) : sp_vis N g' p = (sp_vis N g p || sp_en N e p) := by
  rw [Bool.eq_iff_iff]
  unfold sp_vis
  simp only [Bool.or_eq_true, sp_any_iff, Bool.and_eq_true]
  constructor
  · rintro (q | ⟨i, q1, q2, q3⟩)
    · exact Or.inl (Or.inl q)
    · by_cases z : i = e
      · exact Or.inr (z ▸ q3)
      · exact Or.inl (Or.inr ⟨i, q1, by rw [← h i q1 z]; exact q2, q3⟩)
  · rintro ((q | ⟨i, q1, q2, q3⟩) | q)
    · exact Or.inl q
    · by_cases z : i = e
      · exact Or.inr ⟨i, q1, by rw [z]; exact h1, q3⟩
      · exact Or.inr ⟨i, q1, by rw [h i q1 z]; exact q2, q3⟩
    · exact Or.inr ⟨e, he, h1, q⟩
theorem q_go (hN : sp_wN N) (hP : sp_wP N g) (hG : sp_RG G N) (hT : sp_RT T N g) {s e : Nat} (h : sp_cs N g s e = true) : ∃ I a1 a2, fX3_go T G (nI s) (nI e) = some (I, a1, a2) ∧ sp_RT (I, dk_upA (dk_upA T.2 1 a1) 2 a2) N (sp_st N g s e) := by
  obtain ⟨c1, c2, c3, c4, -⟩ := cs_iff.mp h
  have c5 := cs_edge h
  have h4 := hP.2.2.1
  have h8 := hN.2.1
  have hE := hN.2.2.2.1
  have hs : s < 4 := by omega
  have h0 := hP.1
  have ho := wP_ot hN hP hs
  have hp := wP_pl hN hP hs c3
  have hy := by_lt (p := g (3 + s)) hN c2
  obtain ⟨q0, q1, q2, q3, q4, q5⟩ := st_all (N := N) (g := g) (s := s) (e := e) hs
  have hl9 := lv_true.mp c3
  unfold fX3_go
  rw [q_lives_in hN hP hT c1, sb_, if_pos c3, if_neg (by decide), rd_nI (by omega) (by omega), sb_, RT_at hT hs, pl_n hl9, q_other hN hG c2 (by omega) c4, sb_, rd_nI (by omega) (by omega), sb_, RT_ot hT hs]
  have atE : ∀ x, x = sp_sA N g s e → ∀ t, t < 4 → upd (T.2 1) s (sp_pl x) t = sp_pl (sp_st N g s e (3 + t)) := by
    intro x hx t ht
    rw [q3 t ht]
    by_cases z : t = s
    · rw [z, upd_s, if_pos rfl, hx]
    · rw [upd_n z, if_neg z]; exact RT_at hT ht
  have otE : ∀ x, x = sp_sO N g s e → ∀ t, t < 4 → upd (T.2 2) s (sp_ot x) t = sp_ot (sp_st N g s e (7 + t)) := by
    intro x hx t ht
    rw [q4 t ht]
    by_cases z : t = s
    · rw [z, upd_s, if_pos rfl, hx]
    · rw [upd_n z, if_neg z]; exact RT_ot hT ht
  have mv : T.1 5 + 1 = nI (g 2 + 1) := by rw [hT.2.2.1, nI_1]
  rcases c5 with ⟨w1, w2⟩ | ⟨w1, w2⟩ | ⟨w1, w2⟩
  · -- it comes back
    have sA : sp_sA N g s e = sp_by N e (g (3 + s)) := by unfold sp_sA; rw [if_pos w1]
    have sO : sp_sO N g s e = 0 := by unfold sp_sO; rw [if_pos w1]
    have sS : sp_sS g s e = 2 := by unfold sp_sS; rw [if_pos w1]
    rw [if_neg (fun z => by have := (ot_m9 (by omega)).mp z; omega)]
    unfold fX3_comeBack
    have r1 : dk_rd (T.2 1) 4 (nI s) = some (nI (g (3 + s))) := by rw [rd_nI (by omega) (by omega), RT_at hT hs, pl_n hl9]
    dsimp only
    rw [r1, sb_, wr_nI (by omega) (by omega), sb_, wr_nI (by omega) (by omega), sb_, sb_]
    dsimp only
    refine ⟨_, _, _, rfl, RT_mk ?_ ?_ ?_ ?_ ?_ ?_ ?_ ?_⟩
    · rw [upd_n (by omega), upd_n (by omega), upd_n (by omega), q1]; exact hT.1
    · rw [upd_n (by omega), upd_n (by omega), upd_n (by omega), q0]; exact hT.2.1
    · rw [upd_n (by omega), upd_n (by omega), upd_s, q2, mv]
    · rw [upd_n (by omega), upd_n (by omega), upd_n (by omega), RT_un hT]
      refine ms_cong (fun i _ => ?_)
      unfold sp_un
      rw [q5 i]
      by_cases z : i = e
      · have z5 : g (11 + e) = 1 := by
          rcases hP.2.2.2.2.1 s hs with y | ⟨-, -, -, -, y⟩
          · omega
          · rw [w2, show e + 1 - 1 = e by omega] at y; exact y
        rw [if_pos z, z, sS, z5]; simp
      · rw [if_neg z]
    · rw [upd_n (by omega), upd_s, upd_n (by omega), RT_sf hT, ms_one (k := 10) (by omega) (by omega), ms_or (by omega)]
      refine ms_cong (fun i _ => ?_)
      unfold sp_sf
      rw [q5 i]
      by_cases z : i = e
      · rw [if_pos z, z, sS]; simp [c2]
      · rw [if_neg z]; simp [z]
    · rw [upd_s, upd_n (by omega), RT_vi hT, ms_one (k := 8) (by omega) (by omega), ms_one (k := 8) (by omega) (by omega), ms_or (by omega), ms_or (by omega)]
      refine ms_cong (fun i _ => ?_)
      rw [vis_back (g := g) (g' := sp_st N g s e) c2 (by unfold sp_sf; rw [q5 e, if_pos rfl, sS]; rfl) (fun i _ z => by unfold sp_sf; rw [q5 i, if_neg z])]
      congr 1
      rw [Bool.eq_iff_iff, en_two hN c2 c4]
      simp
    · have := atE (sp_by N e (g (3 + s))) sA.symm
      rw [pl_n (by omega)] at this
      exact this
    · have := otE 0 sO.symm
      exact this
  · -- through a safe edge
    have sA : sp_sA N g s e = sp_by N e (g (3 + s)) := by unfold sp_sA; rw [if_neg (by omega), if_pos w2]
    have sO : sp_sO N g s e = 0 := by unfold sp_sO; rw [if_neg (by omega), if_pos w2]
    have sS : sp_sS g s e = 2 := by unfold sp_sS; rw [if_neg (by omega), if_pos w2]
    have st11 : ∀ i, sp_st N g s e (11 + i) = g (11 + i) := by
      intro i
      rw [q5 i]
      by_cases z : i = e
      · rw [if_pos z, sS, z, w2]
      · rw [if_neg z]
    rw [if_pos ((ot_m9 (by omega)).mpr w1), RT_sf hT, holds_ms (by omega) (by omega), sb_]
    have e1 : (decide (e < 10) && (decide (e < sp_E N) && sp_sf g e)) = true := by simp [c2, sp_sf, w2]; omega
    rw [if_pos e1, if_neg (by decide), wr_nI (by omega) (by omega), sb_]
    refine ⟨_, _, _, rfl, RT_mk ?_ ?_ ?_ ?_ ?_ ?_ ?_ ?_⟩
    · rw [upd_n (by omega), q1]; exact hT.1
    · rw [upd_n (by omega), q0]; exact hT.2.1
    · rw [upd_s, q2, mv]
    · rw [upd_n (by omega), RT_un hT]
      refine ms_cong (fun i _ => ?_)
      unfold sp_un
      rw [st11]
    · rw [upd_n (by omega), RT_sf hT]
      refine ms_cong (fun i _ => ?_)
      unfold sp_sf
      rw [st11]
    · rw [upd_n (by omega), RT_vi hT]
      refine ms_cong (fun i _ => ?_)
      exact (vis_cong (fun i _ => by unfold sp_sf; rw [st11]) i).symm
    · have := atE (sp_by N e (g (3 + s))) sA.symm
      rw [pl_n (by omega)] at this
      exact this
    · intro t ht
      rw [q4 t ht]
      by_cases z : t = s
      · rw [if_pos z, sO, RT_ot hT ht, z, w1]
      · rw [if_neg z]; exact RT_ot hT ht
  · -- out through an unseen one
    have sS : sp_sS g s e = 1 := by unfold sp_sS; rw [if_neg (by omega), if_neg (by omega)]
    rw [if_pos ((ot_m9 (by omega)).mpr w1), RT_sf hT, holds_ms (by omega) (by omega), sb_]
    have e1 : (decide (e < 10) && (decide (e < sp_E N) && sp_sf g e)) = false := by simp [sp_sf, w2]
    rw [e1, show (if false = true then (1 : Int32) else 0) = 0 from rfl, if_pos rfl]
    unfold fX3_goOut
    dsimp only
    have un6 : T.1 6 &&& (((1 : Int32) <<< (nI e &&& 31)) ^^^ (-1)) = ms (fun i => decide (i < sp_E N) && sp_un (sp_st N g s e) i) 10 := by
      rw [RT_un hT, ms_one (k := 10) (by omega) (by omega), ms_andn (by omega)]
      refine ms_cong (fun i _ => ?_)
      unfold sp_un
      rw [q5 i]
      by_cases z : i = e
      · rw [if_pos z, sS]; simp [z]
      · rw [if_neg z]; simp [z]
    have sf7 : T.1 7 = ms (fun i => decide (i < sp_E N) && sp_sf (sp_st N g s e) i) 10 := by
      rw [RT_sf hT]
      refine ms_cong (fun i _ => ?_)
      unfold sp_sf
      rw [q5 i]
      by_cases z : i = e
      · rw [if_pos z, sS, z, w2]; simp
      · rw [if_neg z]
    have vi8 : T.1 8 = ms (sp_vis N (sp_st N g s e)) 8 := by
      rw [RT_vi hT]
      refine ms_cong (fun i _ => ?_)
      refine (vis_cong (fun i _ => ?_) i).symm
      unfold sp_sf
      rw [q5 i]
      by_cases z : i = e
      · rw [if_pos z, sS, z, w2]; simp
      · rw [if_neg z]
    have eq4 : (upd T.1 5 (T.1 5 + 1)) 4 = nI (g 0) := by rw [upd_n (by omega)]; exact hT.2.1
    have eq6 : (upd T.1 5 (T.1 5 + 1)) 6 = T.1 6 := upd_n (by omega)
    simp only [eq4, eq6, un6]
    by_cases z : sp_by N e (g (3 + s)) = g 0
    · have sA : sp_sA N g s e = 9 := by unfold sp_sA; rw [if_neg (by omega), if_neg (by omega), if_pos z]
      have sO : sp_sO N g s e = 0 := by unfold sp_sO; rw [if_neg (by omega), if_neg (by omega), if_pos z]
      rw [if_pos (by rw [z]), wr_nI (by omega) (by omega), sb_, sb_]
      dsimp only
      refine ⟨_, _, _, rfl, RT_mk ?_ ?_ ?_ ?_ ?_ ?_ ?_ ?_⟩
      · rw [upd_n (by omega), upd_n (by omega), q1]; exact hT.1
      · rw [upd_n (by omega), upd_n (by omega), q0]; exact hT.2.1
      · rw [upd_n (by omega), upd_s, q2, mv]
      · rw [upd_s]
      · rw [upd_n (by omega), upd_n (by omega)]; exact sf7
      · rw [upd_n (by omega), upd_n (by omega)]; exact vi8
      · exact atE 9 sA.symm
      · intro t ht
        rw [q4 t ht]
        by_cases y : t = s
        · rw [if_pos y, sO, RT_ot hT ht, y, w1]
        · rw [if_neg y]; exact RT_ot hT ht
    · have sA : sp_sA N g s e = sp_by N e (g (3 + s)) := by unfold sp_sA; rw [if_neg (by omega), if_neg (by omega), if_neg z]
      have sO : sp_sO N g s e = e + 1 := by unfold sp_sO; rw [if_neg (by omega), if_neg (by omega), if_neg z]
      rw [if_neg (fun y => z ((nI_eq (by omega) (by omega)).mp y)), wr_nI (by omega) (by omega), sb_, wr_nI (by omega) (by omega), sb_, sb_]
      dsimp only
      refine ⟨_, _, _, rfl, RT_mk ?_ ?_ ?_ ?_ ?_ ?_ ?_ ?_⟩
      · rw [upd_n (by omega), upd_n (by omega), q1]; exact hT.1
      · rw [upd_n (by omega), upd_n (by omega), q0]; exact hT.2.1
      · rw [upd_n (by omega), upd_s, q2, mv]
      · rw [upd_s]
      · rw [upd_n (by omega), upd_n (by omega)]; exact sf7
      · rw [upd_n (by omega), upd_n (by omega)]; exact vi8
      · have := atE (sp_by N e (g (3 + s))) sA.symm
        rw [pl_n (by omega)] at this
        exact this
      · have := otE (e + 1) sO.symm
        rw [ot_n (by omega), show e + 1 - 1 = e by omega] at this
        exact this
end GO
