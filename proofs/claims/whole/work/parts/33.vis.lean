/-! the hole is never visited -/
section VI
variable {N : sN} {g : Nat → Nat}
def sp_wV (N : sN) (g : Nat → Nat) : Prop := sp_vis N g (g 0) = false ∧ ∀ s, s < g 1 → sp_lv g s = true → (g (7 + s) = 0 → sp_vis N g (g (3 + s)) = true) ∧ (0 < g (7 + s) → g (3 + s) ≠ g 0 ∧ sp_vis N g (sp_by N (g (7 + s) - 1) (g (3 + s))) = true)
theorem by_by (hN : sp_wN N) {e p : Nat} (he : e < sp_E N) (h : sp_en N e p = true) : sp_by N e (sp_by N e p) = p := by
  have h1 := hN.2.2.2.2 e he
  unfold sp_by
  rcases en_iff.mp h with z | z
  · rw [if_pos z, if_neg (by omega)]; exact z
  · rw [if_neg (show ¬ sp_a N e = p by omega), if_pos rfl]; exact z
theorem vis_sf {e p : Nat} (he : e < sp_E N) (h1 : sp_sf g e = true) (h2 : sp_en N e p = true) : sp_vis N g p = true := by
  unfold sp_vis
  rw [Bool.or_eq_true]
  exact Or.inr (sp_any_iff.mpr ⟨e, he, by rw [h1, h2]; rfl⟩)
theorem wV_st (hN : sp_wN N) (hP : sp_wP N g) (hV : sp_wV N g) {s e : Nat} (h : sp_cs N g s e = true) : sp_wV N (sp_st N g s e) := by
  obtain ⟨c1, c2, c3, c4, -⟩ := cs_iff.mp h
  have c5 := cs_edge h
  have h4 := hP.2.2.1
  obtain ⟨t0, t1, t2, tA, tO, tS⟩ := st_all (N := N) (g := g) (s := s) (e := e) (by omega)
  obtain ⟨v1, v2⟩ := hV
  have hp := wP_pl hN hP (show s < 4 by omega) c3
  have vs := v2 s c1 c3
  have hb := by_lt hN (e := e) (p := g (3 + s)) c2
  have h8 := hN.2.1
  have oth : ∀ i, i < sp_E N → i ≠ e → sp_sf (sp_st N g s e) i = sp_sf g i := by
    intro i hi z
    unfold sp_sf
    rw [tS i, if_neg z]
  have others : ∀ (mono : ∀ p, sp_vis N g p = true → sp_vis N (sp_st N g s e) p = true) t, t < g 1 → t ≠ s → sp_lv (sp_st N g s e) t = true → (sp_st N g s e (7 + t) = 0 → sp_vis N (sp_st N g s e) (sp_st N g s e (3 + t)) = true) ∧ (0 < sp_st N g s e (7 + t) → sp_st N g s e (3 + t) ≠ g 0 ∧ sp_vis N (sp_st N g s e) (sp_by N (sp_st N g s e (7 + t) - 1) (sp_st N g s e (3 + t))) = true) := by
    intro mono t ht hts hl
    have eA : sp_st N g s e (3 + t) = g (3 + t) := by rw [tA t (by omega), if_neg hts]
    have eO : sp_st N g s e (7 + t) = g (7 + t) := by rw [tO t (by omega), if_neg hts]
    have hl2 : sp_lv g t = true := by
      unfold sp_lv at hl ⊢
      rw [eA] at hl; exact hl
    have w := v2 t ht hl2
    rw [eA, eO]
    exact ⟨fun z => mono _ (w.1 z), fun z => ⟨(w.2 z).1, mono _ (w.2 z).2⟩⟩
  unfold sp_wV
  rw [t0, t1]
  rcases c5 with ⟨o1, o2⟩ | ⟨o1, o2⟩ | ⟨o1, o2⟩
  · have w := vs.2 o1
    rw [o2, Nat.add_sub_cancel] at w
    have sA : sp_st N g s e (3 + s) = sp_by N e (g (3 + s)) := by rw [tA s (by omega), if_pos rfl]; unfold sp_sA; rw [if_pos o1]
    have sO : sp_st N g s e (7 + s) = 0 := by rw [tO s (by omega), if_pos rfl]; unfold sp_sO; rw [if_pos o1]
    have sS : sp_sf (sp_st N g s e) e = true := by unfold sp_sf; rw [tS e, if_pos rfl]; unfold sp_sS; rw [if_pos o1]; rfl
    have vb := vis_back c2 sS oth
    refine ⟨?_, fun t ht hl => ?_⟩
    · rw [vb, v1, Bool.false_or]
      cases z : sp_en N e (g 0)
      · rfl
      · exfalso
        rcases (en_two hN c2 c4).mp z with y | y
        · exact w.1 y.symm
        · rw [← y, v1] at w; cases w.2
    · by_cases z : t = s
      · rw [z, sA, sO]
        refine ⟨fun _ => ?_, fun y => absurd y (by omega)⟩
        rw [vb, by_en, Bool.or_true]
      · exact others (fun p hp => by rw [vb, hp]; rfl) t ht z hl
  · have sA : sp_st N g s e (3 + s) = sp_by N e (g (3 + s)) := by rw [tA s (by omega), if_pos rfl]; unfold sp_sA; rw [if_neg (by omega), if_pos o2]
    have sO : sp_st N g s e (7 + s) = 0 := by rw [tO s (by omega), if_pos rfl]; unfold sp_sO; rw [if_neg (by omega), if_pos o2]
    have vb : ∀ p, sp_vis N (sp_st N g s e) p = sp_vis N g p := by
      refine vis_cong (fun i hi => ?_)
      by_cases z : i = e
      · unfold sp_sf
        rw [tS i, if_pos z, z, o2]
        unfold sp_sS
        rw [if_neg (by omega), if_pos o2]
      · exact oth i hi z
    refine ⟨by rw [vb]; exact v1, fun t ht hl => ?_⟩
    by_cases z : t = s
    · rw [z, sA, sO]
      refine ⟨fun _ => ?_, fun y => absurd y (by omega)⟩
      rw [vb]
      exact vis_sf c2 (by unfold sp_sf; rw [o2]; rfl) by_en
    · exact others (fun p hp => by rw [vb]; exact hp) t ht z hl
  · have vb : ∀ p, sp_vis N (sp_st N g s e) p = sp_vis N g p := by
      refine vis_cong (fun i hi => ?_)
      by_cases z : i = e
      · unfold sp_sf
        rw [tS i, if_pos z, z, o2]
        unfold sp_sS
        rw [if_neg (by omega), if_neg (by omega)]
        decide
      · exact oth i hi z
    refine ⟨by rw [vb]; exact v1, fun t ht hl => ?_⟩
    by_cases z : t = s
    · by_cases y : sp_by N e (g (3 + s)) = g 0
      · have sA : sp_st N g s e (3 + s) = 9 := by rw [tA s (by omega), if_pos rfl]; unfold sp_sA; rw [if_neg (by omega), if_neg (by omega), if_pos y]
        rw [z, lv_true] at hl
        exact absurd sA hl
      · have sA : sp_st N g s e (3 + s) = sp_by N e (g (3 + s)) := by rw [tA s (by omega), if_pos rfl]; unfold sp_sA; rw [if_neg (by omega), if_neg (by omega), if_neg y]
        have sO : sp_st N g s e (7 + s) = e + 1 := by rw [tO s (by omega), if_pos rfl]; unfold sp_sO; rw [if_neg (by omega), if_neg (by omega), if_neg y]
        rw [z, sA, sO, Nat.add_sub_cancel]
        refine ⟨fun q => absurd q (by omega), fun _ => ⟨y, ?_⟩⟩
        rw [by_by hN c2 c4, vb]
        exact vs.1 o1
    · exact others (fun p hp => by rw [vb]; exact hp) t ht z hl
theorem rd_wV {c : Nat → Bool} (hN : sp_wN N) : ∀ d i (z : (Nat → Nat) × Nat), i + d = z.1 1 → sp_wP N z.1 → sp_wV N z.1 → sp_wV N (sp_rd N c d i z).1
  | 0, i, z, h, hP, hV => hV
  | d + 1, i, z, h, hP, hV => by
    have h4 := hP.2.2.1
    rw [sp_rd]
    by_cases a : c i = true ∧ sp_ch N z.1 i < sp_E N
    · rw [if_pos a]
      have hc := ch_cs hN hP (show i < z.1 1 by omega) a.2
      have e1 : sp_st N z.1 i (sp_ch N z.1 i) 1 = z.1 1 := st_many (by omega)
      exact rd_wV hN d (i + 1) (sp_st N z.1 i (sp_ch N z.1 i), z.2 + 1) (by show i + 1 + d = sp_st N z.1 i (sp_ch N z.1 i) 1; omega) (wP_st hN hP hc) (wV_st hN hP hV hc)
    · rw [if_neg a]
      exact rd_wV hN d (i + 1) z (by omega) hP hV
theorem ro_wV {c : Nat → Bool} (hN : sp_wN N) (hP : sp_wP N g) (hV : sp_wV N g) : sp_wV N (sp_ro N c g).1 := rd_wV hN (g 1) 0 (g, 0) (Nat.zero_add _) hP hV
theorem it_wV {c : Nat → Bool} (hN : sp_wN N) (hP : sp_wP N g) (hV : sp_wV N g) : ∀ k, sp_wV N (sp_it N c g k)
  | 0 => hV
  | k + 1 => ro_wV hN (it_wP hN hP k).1 (it_wV hN hP hV k)
end VI
