/-! how far the nearest unseen edge can be -/
section NE
variable {N : sN} {g : Nat → Nat}
theorem rs_cong {g' : Nat → Nat} (h : ∀ e, e < sp_E N → g' (11 + e) = g (11 + e)) {p : Nat} : ∀ d q, sp_rs N g' p d q = sp_rs N g p d q
  | 0, q => rfl
  | d + 1, q => by
    rw [sp_rs, sp_rs]
    dsimp only
    have ih := rs_cong h (p := p) d
    rw [ih q, sp_any_cong (fun e he => ?_)]
    rw [ih, ih]
    unfold sp_sf
    rw [h e he]
theorem go_cong {g' : Nat → Nat} (h : ∀ e, e < sp_E N → g' (11 + e) = g (11 + e)) (q : Nat) : sp_go N g' q = sp_go N g q := by
  unfold sp_go
  refine sp_any_cong (fun e he => ?_)
  unfold sp_un
  rw [h e he]
theorem nd_cong {g' : Nat → Nat} (h : ∀ e, e < sp_E N → g' (11 + e) = g (11 + e)) (p : Nat) : sp_nd N g' p = sp_nd N g p := by
  unfold sp_nd
  refine fa_first_cong (fun d _ => sp_any_cong (fun q _ => ?_))
  rw [go_cong h, rs_cong h]
theorem kn_cong {g' : Nat → Nat} (h : ∀ e, e < sp_E N → g' (11 + e) = g (11 + e)) : sp_kn N g' = sp_kn N g := by
  unfold sp_kn
  rw [fb_ct_cong (q := sp_mb N g) (fun p _ => ?_)]
  unfold sp_mb
  rw [vis_cong (fun e he => by unfold sp_sf; rw [h e he])]
theorem tw_lt (hN : sp_wN N) {p : Nat} (h : sp_nd N g p < 8) (h0 : sp_go N g p = false) : sp_tw N g p < sp_E N ∧ sp_sf g (sp_tw N g p) = true ∧ sp_en N (sp_tw N g p) p = true ∧ sp_rs N g (sp_nq N g p) (sp_nd N g p - 1) (sp_by N (sp_tw N g p) p) = true := by
  obtain ⟨t1, t2, t3⟩ := tw_facts h h0
  have ex : ∃ e, e < sp_E N ∧ (sp_sf g e && (sp_en N e p && sp_rs N g (sp_nq N g p) (sp_nd N g p - 1) (sp_by N e p))) = true := by
    have h3 := t3
    rw [show sp_nd N g p = (sp_nd N g p - 1) + 1 by omega] at h3
    rcases rs_s.mp h3 with z | ⟨r, ⟨e, e1, e2, e3, e4⟩, z⟩
    · rw [t2 (sp_nd N g p - 1) (by omega)] at z; cases z
    · refine ⟨e, e1, ?_⟩
      rw [e2, e3, Bool.true_and, Bool.true_and]
      have hr : r = sp_by N e p := by
        rcases (en_two hN e1 e3).mp e4 with y | y
        · rw [y, t2 (sp_nd N g p - 1) (by omega)] at z; cases z
        · exact y
      rw [← hr]; exact z
  obtain ⟨e, e1, e2⟩ := ex
  have fl : sp_tw N g p < sp_E N := first_lt (f := fun e => sp_sf g e && (sp_en N e p && sp_rs N g (sp_nq N g p) (sp_nd N g p - 1) (sp_by N e p))) e1 e2
  have fy := fa_first_yes (fun e => sp_sf g e && (sp_en N e p && sp_rs N g (sp_nq N g p) (sp_nd N g p - 1) (sp_by N e p))) (sp_E N) fl
  simp only [Bool.and_eq_true] at fy
  exact ⟨fl, fy.1, fy.2.1, fy.2.2⟩
/-- a step towards it is nearer -/
theorem nd_walk (hN : sp_wN N) {p : Nat} (h : sp_nd N g p < 8) (h0 : sp_go N g p = false) : sp_nd N g (sp_by N (sp_tw N g p) p) + 1 ≤ sp_nd N g p := by
  obtain ⟨t1, t2, t3⟩ := tw_facts h h0
  obtain ⟨f1, f2, f3, f4⟩ := nd_facts h
  obtain ⟨w1, w2, w3, w4⟩ := tw_lt hN h h0
  have hy : sp_any (fun q => sp_go N g q && sp_rs N g (sp_by N (sp_tw N g p) p) (sp_nd N g p - 1) q) 8 = true := sp_any_iff.mpr ⟨_, f1, by rw [f2, rs_sym w4]; rfl⟩
  have : sp_nd N g (sp_by N (sp_tw N g p) p) ≤ sp_nd N g p - 1 := by
    rcases Nat.lt_or_ge (sp_nd N g p - 1) (sp_nd N g (sp_by N (sp_tw N g p) p)) with z | z
    · have n := fa_first_no (fun d => sp_any (fun q => sp_go N g q && sp_rs N g (sp_by N (sp_tw N g p) p) d q) 8) 8 _ z
      have n2 : sp_any (fun q => sp_go N g q && sp_rs N g (sp_by N (sp_tw N g p) p) (sp_nd N g p - 1) q) 8 = false := n
      rw [hy] at n2; cases n2
    · exact z
  omega
/-- a place that first comes at d: d safe edges lie ahead of it -/
theorem rs_edges {p : Nat} : ∀ {d q : Nat}, sp_rs N g p d q = true → (∀ k, k < d → sp_rs N g p k q = false) → d ≤ fb_ct (fun e => sp_sf g e && (sp_rs N g p d (sp_a N e) && sp_rs N g p d (sp_b N e))) (sp_E N)
  | 0, q, _, _ => Nat.zero_le _
  | d + 1, q, h, hn => by
    have h0 := hn d (by omega)
    obtain ⟨r, ha, hr⟩ : ∃ r, sp_ad N g q r ∧ sp_rs N g p d r = true := by
      rcases rs_s.mp h with h1 | h1
      · rw [h0] at h1; cases h1
      · exact h1
    have hr2 : ∀ k, k < d → sp_rs N g p k r = false := by
      intro k hk
      cases hh : sp_rs N g p k r
      · rfl
      · have : sp_rs N g p (k + 1) q = true := rs_s.mpr (Or.inr ⟨r, ha, hh⟩)
        rw [hn (k + 1) (by omega)] at this
        cases this
    have ih := rs_edges hr hr2
    obtain ⟨e, e1, e2, e3, e4⟩ := ha
    have hq2 := rs_mono1 hr
    have old : (sp_sf g e && (sp_rs N g p d (sp_a N e) && sp_rs N g p d (sp_b N e))) = false := by
      rcases en_iff.mp e3 with z | z
      · rw [z, h0]; simp
      · rw [z, h0]; simp
    have new : (sp_sf g e && (sp_rs N g p (d + 1) (sp_a N e) && sp_rs N g p (d + 1) (sp_b N e))) = true := by
      have hne : q ≠ r := by
        intro z; rw [z, hr] at h0; cases h0
      rcases en_iff.mp e3 with z | z
      · rcases en_iff.mp e4 with y | y
        · exact absurd (z.symm.trans y) hne
        · rw [z, y, e2, h, hq2]; rfl
      · rcases en_iff.mp e4 with y | y
        · rw [z, y, e2, h, hq2]; rfl
        · exact absurd (z.symm.trans y) hne
    have u := fb_ct_upd (fun e => sp_sf g e && (sp_rs N g p d (sp_a N e) && sp_rs N g p d (sp_b N e))) true (i := e) (n := sp_E N) e1
    simp only [old, Bool.false_eq_true, if_false, if_true] at u
    have s : fb_ct (fun k => if k = e then true else (sp_sf g k && (sp_rs N g p d (sp_a N k) && sp_rs N g p d (sp_b N k)))) (sp_E N) ≤ fb_ct (fun e => sp_sf g e && (sp_rs N g p (d + 1) (sp_a N e) && sp_rs N g p (d + 1) (sp_b N e))) (sp_E N) := by
      refine fb_ct_sub (fun k _ hk => ?_)
      by_cases z : k = e
      · rw [z]; exact new
      · rw [if_neg z] at hk
        simp only [Bool.and_eq_true] at hk ⊢
        exact ⟨hk.1, rs_mono1 hk.2.1, rs_mono1 hk.2.2⟩
    omega
def sp_U (N : sN) (g : Nat → Nat) : Nat := fb_ct (sp_un g) (sp_E N)
def dD (u : Nat) : Nat := if u = 0 then 0 else min (10 - u) 5
def fF : Nat → Nat
  | 0 => 0
  | u + 1 => fF u + 2 + dD u
theorem nd_le (hN : sp_wN N) (hP : sp_wP N g) (hV : sp_wV N g) (hk : ¬ sp_kn N g = true) {p : Nat} (hp : p < sp_n N) (h : sp_nd N g p < 8) : sp_nd N g p ≤ dD (sp_U N g) := by
  have h8 := hN.2.1
  have hE := hN.2.2.2.1
  obtain ⟨f1, f2, f3, f4⟩ := nd_facts h
  unfold dD
  have hU : ¬ sp_U N g = 0 := by
    intro z
    obtain ⟨e, e1, e2⟩ := sp_any_iff.mp f2
    rw [Bool.and_eq_true] at e2
    have := fb_ct_zero.mp z e e1
    rw [e2.1] at this; cases this
  rw [if_neg hU]
  have l1 : sp_nd N g p ≤ 10 - sp_U N g := by
    have a1 := rs_edges f3 f4
    have a2 : fb_ct (fun e => sp_sf g e && (sp_rs N g p (sp_nd N g p) (sp_a N e) && sp_rs N g p (sp_nd N g p) (sp_b N e))) (sp_E N) ≤ fb_ct (sp_sf g) (sp_E N) := fb_ct_sub (fun k _ hk => by
      rw [Bool.and_eq_true] at hk; exact hk.1)
    have a3 := fb_ct_or (p := sp_sf g) (q := sp_un g) (n := sp_E N) (fun k _ z => by
      unfold sp_sf sp_un at z
      simp only [decide_eq_true_eq] at z
      omega)
    have a4 := fb_ct_le (fun k => sp_sf g k || sp_un g k) (sp_E N)
    unfold sp_U
    omega
  have l2 : sp_nd N g p ≤ 5 := by
    rcases Nat.eq_zero_or_pos (sp_nd N g p) with z | z
    · omega
    · -- its own place is the end of a safe edge
      have vp : sp_vis N g p = true := by
        have s1 := rs_sym f3
        rw [show sp_nd N g p = (sp_nd N g p - 1) + 1 by omega] at s1
        rcases rs_s.mp s1 with y | ⟨r, ⟨e, e1, e2, e3, -⟩, -⟩
        · have := f4 (sp_nd N g p - 1) (by omega)
          rw [rs_sym y] at this; cases this
        · exact vis_sf e1 e2 e3
      have hf : ∀ d q, sp_rs N g p d q = true → sp_vis N g q = true ∧ q < 8 := by
        intro d q hq
        refine ⟨?_, by have := rs_lt hN hp hq; omega⟩
        induction d with
        | zero => rw [rs_0.mp hq]; exact vp
        | succ d ih =>
          rcases rs_s.mp hq with y | ⟨r, ⟨e, e1, e2, e3, -⟩, -⟩
          · exact ih y
          · exact vis_sf e1 e2 e3
      have c1 := rs_count hf (by omega) f3 f4
      have c2 : 2 ≤ fb_ct (sp_mb N g) 8 := by
        have y1 : 0 < fb_ct (sp_mb N g) 8 := fb_ct_pos.mpr ⟨g 0, by have := hP.1; omega, by unfold sp_mb; rw [hV.1]; simp [hP.1]⟩
        have y2 : ¬ fb_ct (sp_mb N g) 8 = 1 := by
          intro y; apply hk; unfold sp_kn; rw [y]; rfl
        omega
      have c3 := fb_ct_or (p := sp_rs N g p (sp_nd N g p)) (q := sp_mb N g) (n := 8) (fun k _ y => by
        have y1 := (hf _ _ y.1).1
        have y2 := y.2
        unfold sp_mb at y2
        rw [y1] at y2
        simp at y2)
      have c4 := fb_ct_le (fun k => sp_rs N g p (sp_nd N g p) k || sp_mb N g k) 8
      omega
  omega
end NE
