/-! rounds come to an end: within 56 of them it is known, or all rest -/
section EN
variable {N : sN} {g : Nat → Nat}
theorem U_st {s e : Nat} (hs : s < 4) : sp_U N (sp_st N g s e) ≤ sp_U N g := by
  unfold sp_U
  refine fb_ct_sub (fun k _ hk => ?_)
  have t := (st_all (N := N) (g := g) (e := e) hs).2.2.2.2.2 k
  unfold sp_un at hk ⊢
  rw [t] at hk
  by_cases z : k = e
  · rw [if_pos z] at hk
    unfold sp_sS at hk
    exfalso
    split at hk
    · simp at hk
    · split at hk
      · simp at hk
      · simp at hk
  · rw [if_neg z] at hk; exact hk
theorem U_out {s e : Nat} (hs : s < 4) (he : e < sp_E N) (hu : sp_un g e = true) (ho : g (7 + s) = 0) : sp_U N (sp_st N g s e) < sp_U N g := by
  have hu2 : g (11 + e) = 0 := by simpa [sp_un] using hu
  have u := fb_ct_upd (sp_un g) false (i := e) (n := sp_E N) he
  rw [hu] at u
  simp only [Bool.false_eq_true, if_false, if_true] at u
  have c : fb_ct (sp_un (sp_st N g s e)) (sp_E N) = fb_ct (fun k => if k = e then false else sp_un g k) (sp_E N) := by
    refine fb_ct_cong (fun k _ => ?_)
    have t := (st_all (N := N) (g := g) (e := e) hs).2.2.2.2.2 k
    unfold sp_un
    rw [t]
    by_cases z : k = e
    · rw [if_pos z, if_pos z]
      unfold sp_sS
      rw [if_neg (by omega), if_neg (by omega)]
      decide
    · rw [if_neg z, if_neg z]
  unfold sp_U
  omega
/-- who rests is not out -/
theorem rest_out (hN : sp_wN N) (hP : sp_wP N g) {s : Nat} (hs : s < g 1) (h : ¬ sp_ch N g s < sp_E N) : g (7 + s) = 0 := by
  have h4 := hP.2.2.1
  rcases hP.2.2.2.2.1 s (by omega) with z | ⟨z1, z2, z3, -⟩
  · exact z
  · rcases Nat.eq_zero_or_pos (g (7 + s)) with y | y
    · exact y
    · exfalso
      apply h
      unfold sp_ch
      rw [if_neg (by rw [lv_true.mpr z3]; decide), if_pos y]
      omega
/-- what the edge told is -/
theorem ch_kind (hN : sp_wN N) (hk : ¬ sp_kn N g = true) {s : Nat} (ho : g (7 + s) = 0) (h : sp_ch N g s < sp_E N) : sp_lv g s = true ∧ ((sp_un g (sp_ch N g s) = true) ∨ (sp_nd N g (g (3 + s)) < 8 ∧ sp_go N g (g (3 + s)) = false ∧ sp_ch N g s = sp_tw N g (g (3 + s)))) := by
  cases l : sp_lv g s
  · exfalso
    unfold sp_ch at h
    rw [if_pos l] at h
    omega
  · refine ⟨rfl, ?_⟩
    by_cases a4 : sp_ua N g (g (3 + s)) < sp_E N
    · have c : sp_ch N g s = sp_ua N g (g (3 + s)) := by
        unfold sp_ch
        rw [if_neg (by rw [l]; decide), if_neg (by omega), if_neg hk, if_pos a4]
      left
      rw [c]
      have y := fa_first_yes (fun e => sp_un g e && sp_en N e (g (3 + s))) (sp_E N) a4
      rw [Bool.and_eq_true] at y
      exact y.1
    · have h0 : sp_go N g (g (3 + s)) = false := by
        rw [← Bool.not_eq_true]
        exact fun z => a4 (ua_go.mpr z)
      by_cases a5 : sp_nd N g (g (3 + s)) < 8
      · right
        refine ⟨a5, h0, ?_⟩
        unfold sp_ch
        rw [if_neg (by rw [l]; decide), if_neg (by omega), if_neg hk, if_neg a4, if_pos a5]
      · exfalso
        have c : sp_ch N g s = sp_E N := by
          unfold sp_ch
          rw [if_neg (by rw [l]; decide), if_neg (by omega), if_neg hk, if_neg a4, if_neg a5]
        omega
theorem ch_rest (hN : sp_wN N) (hk : ¬ sp_kn N g = true) {s : Nat} (ho : g (7 + s) = 0) (h : ¬ sp_ch N g s < sp_E N) (l : sp_lv g s = true) : ¬ sp_nd N g (g (3 + s)) < 8 := by
  intro a5
  apply h
  by_cases a4 : sp_ua N g (g (3 + s)) < sp_E N
  · have c : sp_ch N g s = sp_ua N g (g (3 + s)) := by
      unfold sp_ch
      rw [if_neg (by rw [l]; decide), if_neg (by omega), if_neg hk, if_pos a4]
    rw [c]; exact a4
  · have h0 : sp_go N g (g (3 + s)) = false := by
      rw [← Bool.not_eq_true]
      exact fun z => a4 (ua_go.mpr z)
    have c : sp_ch N g s = sp_tw N g (g (3 + s)) := by
      unfold sp_ch
      rw [if_neg (by rw [l]; decide), if_neg (by omega), if_neg hk, if_neg a4, if_pos a5]
    rw [c]
    exact (tw_lt hN a5 h0).1
theorem rd_out (hN : sp_wN N) : ∀ d i (z : (Nat → Nat) × Nat), i + d = z.1 1 → sp_wP N z.1 → sp_U N (sp_rd N sp_all d i z).1 ≤ sp_U N z.1 ∧ (sp_U N (sp_rd N sp_all d i z).1 = sp_U N z.1 → (∀ s, i ≤ s → s < z.1 1 → (sp_rd N sp_all d i z).1 (7 + s) = 0) ∧ ∀ s, s < i → (sp_rd N sp_all d i z).1 (7 + s) = z.1 (7 + s))
  | 0, i, z, h, hP => ⟨Nat.le_refl _, fun _ => ⟨fun s h1 h2 => absurd h2 (by omega), fun s _ => rfl⟩⟩
  | d + 1, i, z, h, hP => by
    have h4 := hP.2.2.1
    rw [sp_rd]
    by_cases a : sp_ch N z.1 i < sp_E N
    · rw [if_pos ⟨rfl, a⟩]
      have hc := ch_cs hN hP (show i < z.1 1 by omega) a
      have t := st_all (N := N) (g := z.1) (s := i) (e := sp_ch N z.1 i) (by omega)
      have e1 : sp_st N z.1 i (sp_ch N z.1 i) 1 = z.1 1 := t.2.1
      have ih := rd_out hN d (i + 1) (sp_st N z.1 i (sp_ch N z.1 i), z.2 + 1) (by show i + 1 + d = sp_st N z.1 i (sp_ch N z.1 i) 1; omega) (wP_st hN hP hc)
      have us := U_st (N := N) (g := z.1) (s := i) (e := sp_ch N z.1 i) (by omega)
      refine ⟨Nat.le_trans ih.1 us, fun hu => ?_⟩
      have ih1 := ih.1
      dsimp only at ih ih1
      have ih2 := ih.2 (by omega)
      have o0 : sp_st N z.1 i (sp_ch N z.1 i) (7 + i) = 0 := by
        rw [t.2.2.2.2.1 i (by omega), if_pos rfl]
        unfold sp_sO
        rcases cs_edge hc with ⟨q1, q2⟩ | ⟨q1, q2⟩ | ⟨q1, q2⟩
        · rw [if_pos q1]
        · rw [if_neg (by omega), if_pos q2]
        · exfalso
          have := U_out (N := N) (g := z.1) (s := i) (e := sp_ch N z.1 i) (by omega) a (by simp [sp_un, q2]) q1
          omega
      refine ⟨fun s h1 h2 => ?_, fun s h1 => ?_⟩
      · by_cases y : s = i
        · rw [y, ih2.2 i (by omega)]; exact o0
        · exact ih2.1 s (by omega) (by rw [e1]; exact h2)
      · rw [ih2.2 s (by omega), t.2.2.2.2.1 s (by omega), if_neg (by omega)]
    · rw [if_neg (fun y => a y.2)]
      have ih := rd_out hN d (i + 1) z (by omega) hP
      refine ⟨ih.1, fun hu => ?_⟩
      have ih2 := ih.2 hu
      refine ⟨fun s h1 h2 => ?_, fun s h1 => ih2.2 s (by omega)⟩
      by_cases y : s = i
      · rw [y, ih2.2 i (by omega)]
        exact rest_out hN hP (by omega) a
      · exact ih2.1 s (by omega) h2
theorem rd_walk (hN : sp_wN N) : ∀ d i (z : (Nat → Nat) × Nat), i + d = z.1 1 → sp_wP N z.1 → ¬ sp_kn N z.1 = true → sp_U N (sp_rd N sp_all d i z).1 = sp_U N z.1 → (∀ s, i ≤ s → s < z.1 1 → z.1 (7 + s) = 0) → (∀ e, e < sp_E N → (sp_rd N sp_all d i z).1 (11 + e) = z.1 (11 + e)) ∧ (∀ s, s < i → (sp_rd N sp_all d i z).1 (3 + s) = z.1 (3 + s)) ∧ (∀ s, i ≤ s → s < z.1 1 → sp_lv (sp_rd N sp_all d i z).1 s = true → sp_nd N z.1 ((sp_rd N sp_all d i z).1 (3 + s)) < 8 → sp_lv z.1 s = true ∧ sp_nd N z.1 (z.1 (3 + s)) < 8 ∧ sp_nd N z.1 ((sp_rd N sp_all d i z).1 (3 + s)) + 1 ≤ sp_nd N z.1 (z.1 (3 + s))) ∧ (z.2 < (sp_rd N sp_all d i z).2 → ∃ s, s < z.1 1 ∧ sp_lv z.1 s = true ∧ 1 ≤ sp_nd N z.1 (z.1 (3 + s)) ∧ sp_nd N z.1 (z.1 (3 + s)) < 8)
  | 0, i, z, h, hP, hk, hu, ho => ⟨fun _ _ => rfl, fun _ _ => rfl, fun s h1 h2 => absurd h2 (by omega), fun y => absurd y (Nat.lt_irrefl _)⟩
  | d + 1, i, z, h, hP, hk, hu, ho => by
    have h4 := hP.2.2.1
    have hi := ho i (Nat.le_refl _) (by omega)
    rw [sp_rd] at hu ⊢
    by_cases a : sp_ch N z.1 i < sp_E N
    · rw [if_pos ⟨rfl, a⟩] at hu ⊢
      have hc := ch_cs hN hP (show i < z.1 1 by omega) a
      have t := st_all (N := N) (g := z.1) (s := i) (e := sp_ch N z.1 i) (by omega)
      have e1 : sp_st N z.1 i (sp_ch N z.1 i) 1 = z.1 1 := t.2.1
      have us := U_st (N := N) (g := z.1) (s := i) (e := sp_ch N z.1 i) (by omega)
      have ro := (rd_out hN d (i + 1) (sp_st N z.1 i (sp_ch N z.1 i), z.2 + 1) (by show i + 1 + d = sp_st N z.1 i (sp_ch N z.1 i) 1; omega) (wP_st hN hP hc)).1
      dsimp only at ro
      obtain ⟨l, k1 | ⟨k1, k2, k3⟩⟩ := ch_kind hN hk hi a
      · exfalso
        have := U_out (N := N) (g := z.1) (s := i) (e := sp_ch N z.1 i) (by omega) a k1 hi
        omega
      · obtain ⟨w1, w2, w3, w4⟩ := tw_lt hN k1 k2
        have wk := nd_walk hN k1 k2
        have k4 : z.1 (11 + sp_ch N z.1 i) = 2 := by
          rw [k3]; simpa [sp_sf] using w2
        have tS : ∀ e, sp_st N z.1 i (sp_ch N z.1 i) (11 + e) = z.1 (11 + e) := by
          intro e
          rw [t.2.2.2.2.2 e]
          by_cases y : e = sp_ch N z.1 i
          · rw [if_pos y, y, k4]
            unfold sp_sS
            rw [if_neg (by omega), if_pos k4]
          · rw [if_neg y]
        have sA : sp_st N z.1 i (sp_ch N z.1 i) (3 + i) = sp_by N (sp_tw N z.1 (z.1 (3 + i))) (z.1 (3 + i)) := by
          rw [t.2.2.2.1 i (by omega), if_pos rfl]
          unfold sp_sA
          rw [if_neg (by omega), if_pos k4, k3]
        have tA : ∀ s, s < 4 → s ≠ i → sp_st N z.1 i (sp_ch N z.1 i) (3 + s) = z.1 (3 + s) := fun s hs y => by rw [t.2.2.2.1 s hs, if_neg y]
        have ih := rd_walk hN d (i + 1) (sp_st N z.1 i (sp_ch N z.1 i), z.2 + 1) (by show i + 1 + d = sp_st N z.1 i (sp_ch N z.1 i) 1; omega) (wP_st hN hP hc) (by show ¬ sp_kn N (sp_st N z.1 i (sp_ch N z.1 i)) = true; rw [kn_cong (fun e _ => tS e)]; exact hk) (by dsimp only; omega) (fun s h1 h2 => by
          show sp_st N z.1 i (sp_ch N z.1 i) (7 + s) = 0
          rw [t.2.2.2.2.1 s (by dsimp only at h2; omega), if_neg (by omega)]
          exact ho s (by omega) (by dsimp only at h2; omega))
        dsimp only at ih
        obtain ⟨i1, i2, i3, i4⟩ := ih
        refine ⟨fun e he => (i1 e he).trans (tS e), fun s hs => (i2 s (by omega)).trans (tA s (by omega) (by omega)), fun s h1 h2 hl hn => ?_, fun _ => ⟨i, by omega, l, (tw_facts k1 k2).1, k1⟩⟩
        by_cases y : s = i
        · have e3 := i2 i (by omega)
          rw [y, e3, sA] at hn ⊢
          exact ⟨l, k1, wk⟩
        · have r := i3 s (by omega) (by rw [e1]; exact h2) hl (by rw [nd_cong (fun e _ => tS e)]; exact hn)
          rw [nd_cong (fun e _ => tS e), nd_cong (fun e _ => tS e), tA s (by omega) y] at r
          refine ⟨?_, r.2⟩
          have r1 := r.1
          unfold sp_lv at r1 ⊢
          rw [tA s (by omega) y] at r1
          exact r1
    · rw [if_neg (fun y => a y.2)] at hu ⊢
      obtain ⟨i1, i2, i3, i4⟩ := rd_walk hN d (i + 1) z (by omega) hP hk hu (fun s h1 h2 => ho s (by omega) h2)
      refine ⟨i1, fun s hs => i2 s (by omega), fun s h1 h2 hl hn => ?_, i4⟩
      by_cases y : s = i
      · exfalso
        have e3 := i2 i (by omega)
        rw [y, e3] at hn
        rw [y] at hl
        unfold sp_lv at hl
        rw [e3] at hl
        exact ch_rest hN hk hi a hl hn
      · exact i3 s (by omega) h2 hl hn
def sp_Q (N : sN) (g : Nat → Nat) (m : Nat) : Prop := (∃ W, W ≤ dD (sp_U N g) ∧ (∀ s, s < g 1 → g (7 + s) = 0) ∧ (∀ s, s < g 1 → sp_lv g s = true → sp_nd N g (g (3 + s)) < 8 → sp_nd N g (g (3 + s)) ≤ W) ∧ fF (sp_U N g) + W ≤ m) ∨ fF (sp_U N g) + 1 + dD (sp_U N g) ≤ m
theorem fF_mono : ∀ d u, fF u ≤ fF (u + d)
  | 0, u => Nat.le_refl _
  | d + 1, u => by
    have := fF_mono d u
    show fF u ≤ fF (u + d) + 2 + dD (u + d)
    omega
theorem fF_lt {u v : Nat} (h : u < v) : fF u + 2 + dD u ≤ fF v := by
  have := fF_mono (v - (u + 1)) (u + 1)
  rw [show u + 1 + (v - (u + 1)) = v by omega] at this
  exact this
theorem end_step (hN : sp_wN N) (hP : sp_wP N g) (hV : sp_wV N g) (hk : ¬ sp_kn N g = true) {m : Nat} (hQ : sp_Q N g m) (hm : 0 < (sp_ro N sp_all g).2) : 1 ≤ m ∧ (sp_kn N (sp_ro N sp_all g).1 = true ∨ sp_Q N (sp_ro N sp_all g).1 (m - 1)) := by
  have ro := rd_out hN (g 1) 0 (g, 0) (Nat.zero_add _) hP
  have w := ro_wP (c := sp_all) hN hP
  have v := ro_wV (c := sp_all) hN hP hV
  have lt1 : ∀ t, t < (sp_ro N sp_all g).1 1 → t < g 1 := fun t ht => by rw [w.2.1] at ht; exact ht
  have hm0 : fF (sp_U N g) ≤ m := by
    rcases hQ with ⟨W, -, -, -, q⟩ | q
    · omega
    · omega
  rcases Nat.lt_or_ge (sp_U N (sp_ro N sp_all g).1) (sp_U N g) with hl | hl
  · have := fF_lt hl
    exact ⟨by omega, Or.inr (Or.inr (by omega))⟩
  · have hu : sp_U N (sp_ro N sp_all g).1 = sp_U N g := Nat.le_antisymm ro.1 hl
    have o := (ro.2 hu).1
    by_cases hk2 : sp_kn N (sp_ro N sp_all g).1 = true
    · refine ⟨?_, Or.inl hk2⟩
      rcases hQ with ⟨W, q1, q2, q3, q4⟩ | q
      · obtain ⟨-, -, -, s, s1, s2, s3, s4⟩ : _ ∧ _ ∧ _ ∧ ∃ s, s < g 1 ∧ sp_lv g s = true ∧ 1 ≤ sp_nd N g (g (3 + s)) ∧ sp_nd N g (g (3 + s)) < 8 := by
          obtain ⟨x1, x2, x3, x4⟩ := rd_walk hN (g 1) 0 (g, 0) (Nat.zero_add _) hP hk hu (fun s _ hs => q2 s hs)
          exact ⟨x1, x2, x3, x4 hm⟩
        have := q3 s s1 s2 s4
        omega
      · omega
    · rcases hQ with ⟨W, q1, q2, q3, q4⟩ | q
      · obtain ⟨x1, x2, x3, x4⟩ := rd_walk hN (g 1) 0 (g, 0) (Nat.zero_add _) hP hk hu (fun s _ hs => q2 s hs)
        obtain ⟨s, s1, s2, s3, s4⟩ := x4 hm
        have y := q3 s s1 s2 s4
        dsimp only at s1 s2 s3 s4 x1 x3
        refine ⟨by omega, Or.inr (Or.inl ⟨W - 1, ?_, fun t ht => o t (Nat.zero_le _) (lt1 t ht), fun t ht hl hn => ?_, ?_⟩)⟩
        · rw [hu]; omega
        · have e := nd_cong (N := N) (g := g) (g' := (sp_ro N sp_all g).1) x1 ((sp_ro N sp_all g).1 (3 + t))
          rw [e] at hn ⊢
          have r := x3 t (Nat.zero_le _) (lt1 t ht) hl hn
          have r2 := q3 t (lt1 t ht) r.1 r.2.1
          have r3 : sp_nd N g ((sp_ro N sp_all g).1 (3 + t)) + 1 ≤ sp_nd N g (g (3 + t)) := r.2.2
          omega
        · rw [hu]; omega
      · refine ⟨by omega, Or.inr (Or.inl ⟨dD (sp_U N g), by rw [hu]; exact Nat.le_refl _, fun t ht => o t (Nat.zero_le _) (lt1 t ht), fun t ht hl hn => ?_, ?_⟩)⟩
        · rw [← hu]
          have h4 := w.1.2.2.1
          exact nd_le hN w.1 v hk2 (wP_pl hN w.1 (by omega) hl) hn
        · rw [hu]; omega
theorem it_shift {c : Nat → Bool} : ∀ k, sp_it N c g (k + 1) = sp_it N c (sp_ro N c g).1 k
  | 0 => rfl
  | k + 1 => by
    show (sp_ro N c (sp_it N c g (k + 1))).1 = (sp_ro N c (sp_it N c (sp_ro N c g).1 k)).1
    rw [it_shift k]
theorem ends (hN : sp_wN N) : ∀ m (g : Nat → Nat), sp_wP N g → sp_wV N g → sp_Q N g m → ∃ k, k ≤ m ∧ (sp_kn N (sp_it N sp_all g k) = true ∨ (sp_ro N sp_all (sp_it N sp_all g k)).2 = 0) := by
  intro m
  induction m with
  | zero =>
    intro g hP hV hQ
    by_cases hk : sp_kn N g = true
    · exact ⟨0, Nat.le_refl _, Or.inl hk⟩
    · rcases Nat.eq_zero_or_pos (sp_ro N sp_all g).2 with z | z
      · exact ⟨0, Nat.le_refl _, Or.inr z⟩
      · have := (end_step hN hP hV hk hQ z).1
        omega
  | succ m ih =>
    intro g hP hV hQ
    by_cases hk : sp_kn N g = true
    · exact ⟨0, Nat.zero_le _, Or.inl hk⟩
    · rcases Nat.eq_zero_or_pos (sp_ro N sp_all g).2 with z | z
      · exact ⟨0, Nat.zero_le _, Or.inr z⟩
      · rcases (end_step hN hP hV hk hQ z).2 with y | y
        · exact ⟨1, by omega, Or.inl y⟩
        · obtain ⟨k, k1, k2⟩ := ih (sp_ro N sp_all g).1 (ro_wP hN hP).1 (ro_wV hN hP hV) y
          refine ⟨k + 1, by omega, ?_⟩
          rw [it_shift]
          exact k2
theorem fF_56 : ∀ u, u < 11 → fF u + 1 + dD u ≤ 56 := by decide
theorem ends56 (hN : sp_wN N) (hP : sp_wP N g) (hV : sp_wV N g) : ∃ k, k ≤ 56 ∧ (sp_kn N (sp_it N sp_all g k) = true ∨ (sp_ro N sp_all (sp_it N sp_all g k)).2 = 0) := by
  have hE := hN.2.2.2.1
  have hu := fb_ct_le (sp_un g) (sp_E N)
  exact ends hN 56 g hP hV (Or.inr (fF_56 _ (by unfold sp_U; omega)))
/-- a round in which none goes changes nothing -/
theorem rd_none {c : Nat → Bool} : ∀ d i (z : (Nat → Nat) × Nat), z.2 ≤ (sp_rd N c d i z).2 ∧ ((sp_rd N c d i z).2 = z.2 → (sp_rd N c d i z).1 = z.1)
  | 0, i, z => ⟨Nat.le_refl _, fun _ => rfl⟩
  | d + 1, i, z => by
    rw [sp_rd]
    by_cases a : c i = true ∧ sp_ch N z.1 i < sp_E N
    · rw [if_pos a]
      have ih := (rd_none (c := c) d (i + 1) (sp_st N z.1 i (sp_ch N z.1 i), z.2 + 1)).1
      dsimp only at ih
      exact ⟨by omega, fun y => absurd y (by omega)⟩
    · rw [if_neg a]
      exact rd_none d (i + 1) z
theorem rd_max {c : Nat → Bool} : ∀ d i (z : (Nat → Nat) × Nat), (sp_rd N c d i z).2 ≤ z.2 + d
  | 0, i, z => Nat.le_refl _
  | d + 1, i, z => by
    rw [sp_rd]
    by_cases a : c i = true ∧ sp_ch N z.1 i < sp_E N
    · rw [if_pos a]
      have ih := rd_max (c := c) d (i + 1) (sp_st N z.1 i (sp_ch N z.1 i), z.2 + 1)
      dsimp only at ih
      omega
    · rw [if_neg a]
      have ih := rd_max (c := c) d (i + 1) z
      omega
theorem ro_le {c : Nat → Bool} (hP : sp_wP N g) : (sp_ro N c g).2 ≤ 4 := by
  have := rd_max (N := N) (c := c) (g 1) 0 (g, 0)
  have h4 := hP.2.2.1
  unfold sp_ro
  omega
theorem ro_none {c : Nat → Bool} (h : (sp_ro N c g).2 = 0) : (sp_ro N c g).1 = g := (rd_none (N := N) (c := c) (g 1) 0 (g, 0)).2 h
theorem it_none {c : Nat → Bool} {k : Nat} (h : (sp_ro N c (sp_it N c g k)).2 = 0) : ∀ d, sp_it N c g (k + d) = sp_it N c g k
  | 0 => rfl
  | d + 1 => by
    show (sp_ro N c (sp_it N c g (k + d))).1 = _
    rw [it_none h d, ro_none h]
end EN
