/-! a step, place by place; what every page keeps -/
section ST
variable {N : sN} {g : Nat → Nat}
def sp_sA (N : sN) (g : Nat → Nat) (s e : Nat) : Nat := if 0 < g (7 + s) then sp_by N e (g (3 + s)) else if g (11 + e) = 2 then sp_by N e (g (3 + s)) else if sp_by N e (g (3 + s)) = g 0 then 9 else sp_by N e (g (3 + s))
def sp_sO (N : sN) (g : Nat → Nat) (s e : Nat) : Nat := if 0 < g (7 + s) then 0 else if g (11 + e) = 2 then 0 else if sp_by N e (g (3 + s)) = g 0 then 0 else e + 1
def sp_sS (g : Nat → Nat) (s e : Nat) : Nat := if 0 < g (7 + s) then 2 else if g (11 + e) = 2 then 2 else 1
theorem st_all {s e : Nat} (hs : s < 4) : sp_st N g s e 0 = g 0 ∧ sp_st N g s e 1 = g 1 ∧ sp_st N g s e 2 = g 2 + 1 ∧ (∀ t, t < 4 → sp_st N g s e (3 + t) = if t = s then sp_sA N g s e else g (3 + t)) ∧ (∀ t, t < 4 → sp_st N g s e (7 + t) = if t = s then sp_sO N g s e else g (7 + t)) ∧ ∀ i, sp_st N g s e (11 + i) = if i = e then sp_sS g s e else g (11 + i) := by
  unfold sp_st sp_sA sp_sO sp_sS
  by_cases a1 : 0 < g (7 + s)
  · simp only [a1, if_true]
    refine ⟨?_, ?_, ?_, fun t ht => ?_, fun t ht => ?_, fun i => ?_⟩
    · rw [up_n (by omega), up_n (by omega), up_n (by omega), up_n (by omega)]
    · rw [up_n (by omega), up_n (by omega), up_n (by omega), up_n (by omega)]
    · rw [up_s]
    · by_cases q : t = s
      · rw [if_pos q, q, up_n (by omega), up_s]
      · rw [if_neg q, up_n (by omega), up_n (by omega), up_n (by omega), up_n (by omega)]
    · by_cases q : t = s
      · rw [if_pos q, q, up_n (by omega), up_n (by omega), up_n (by omega), up_s]
      · rw [if_neg q, up_n (by omega), up_n (by omega), up_n (by omega), up_n (by omega)]
    · by_cases q : i = e
      · rw [if_pos q, q, up_n (by omega), up_n (by omega), up_s]
      · rw [if_neg q, up_n (by omega), up_n (by omega), up_n (by omega), up_n (by omega)]
  · simp only [a1, if_false]
    by_cases a2 : g (11 + e) = 2
    · simp only [a2, if_true]
      refine ⟨?_, ?_, ?_, fun t ht => ?_, fun t ht => ?_, fun i => ?_⟩
      · rw [up_n (by omega), up_n (by omega)]
      · rw [up_n (by omega), up_n (by omega)]
      · rw [up_s]
      · by_cases q : t = s
        · rw [if_pos q, q, up_n (by omega), up_s]
        · rw [if_neg q, up_n (by omega), up_n (by omega)]
      · by_cases q : t = s
        · rw [if_pos q, q, up_n (by omega), up_n (by omega)]; omega
        · rw [if_neg q, up_n (by omega), up_n (by omega)]
      · by_cases q : i = e
        · rw [if_pos q, q, up_n (by omega), up_n (by omega), a2]
        · rw [if_neg q, up_n (by omega), up_n (by omega)]
    · simp only [a2, if_false]
      refine ⟨?_, ?_, ?_, fun t ht => ?_, fun t ht => ?_, fun i => ?_⟩
      · rw [up_n (by omega), up_n (by omega), up_n (by omega), up_n (by omega)]
      · rw [up_n (by omega), up_n (by omega), up_n (by omega), up_n (by omega)]
      · rw [up_s]
      · by_cases q : t = s
        · rw [if_pos q, q, up_n (by omega), up_n (by omega), up_s]
        · rw [if_neg q, up_n (by omega), up_n (by omega), up_n (by omega), up_n (by omega)]
      · by_cases q : t = s
        · rw [if_pos q, q, up_n (by omega), up_s]
        · rw [if_neg q, up_n (by omega), up_n (by omega), up_n (by omega), up_n (by omega)]
      · by_cases q : i = e
        · rw [if_pos q, q, up_n (by omega), up_n (by omega), up_n (by omega), up_s]
        · rw [if_neg q, up_n (by omega), up_n (by omega), up_n (by omega), up_n (by omega)]
/-- what a step that can be tells -/
theorem cs_iff {s e : Nat} : sp_cs N g s e = true ↔ s < g 1 ∧ e < sp_E N ∧ sp_lv g s = true ∧ sp_en N e (g (3 + s)) = true ∧ (if 0 < g (7 + s) then decide (g (7 + s) = e + 1) else (sp_sf g e || (sp_un g e && !(sp_kn N g && (sp_mb N g (sp_a N e) || sp_mb N g (sp_b N e)))))) = true := by
  unfold sp_cs
  simp only [Bool.and_eq_true, decide_eq_true_eq, and_assoc]
theorem cs_edge {s e : Nat} (h : sp_cs N g s e = true) : (0 < g (7 + s) ∧ g (7 + s) = e + 1) ∨ (g (7 + s) = 0 ∧ g (11 + e) = 2) ∨ (g (7 + s) = 0 ∧ g (11 + e) = 0) := by
  obtain ⟨-, -, -, -, h5⟩ := cs_iff.mp h
  by_cases a1 : 0 < g (7 + s)
  · rw [if_pos a1] at h5
    exact Or.inl ⟨a1, by simpa using h5⟩
  · rw [if_neg a1] at h5
    right
    cases q : sp_sf g e
    · right
      rw [q, Bool.false_or, Bool.and_eq_true] at h5
      exact ⟨by omega, by simpa [sp_un] using h5.1⟩
    · left
      exact ⟨by omega, by simpa [sp_sf] using q⟩
theorem wP_st (hN : sp_wN N) (hP : sp_wP N g) {s e : Nat} (h : sp_cs N g s e = true) : sp_wP N (sp_st N g s e) := by
  obtain ⟨c1, c2, c3, c4, -⟩ := cs_iff.mp h
  have c5 := cs_edge h
  obtain ⟨p0, p1, p2, p3, p4, p5, p6⟩ := hP
  have hE := hN.2.2.2.1
  have h8 := hN.2.1
  have hs : s < 4 := by omega
  have hy := by_lt (p := g (3 + s)) hN c2
  have hby := by_en (N := N) (e := e) (p := g (3 + s))
  have he := p5 e (by omega)
  obtain ⟨q0, q1, q2, q3, q4, q5⟩ := st_all (N := N) (g := g) (s := s) (e := e) hs
  refine ⟨by rw [q0]; exact p0, by rw [q1]; exact p1, by rw [q1]; exact p2, fun t ht => ?_, fun t ht => ?_, fun i hi => ?_, fun t u ht hu htu => ?_⟩
  · rw [q3 t ht]
    by_cases q : t = s
    · rw [if_pos q]
      unfold sp_sA
      split
      · exact Or.inr hy
      · split
        · exact Or.inr hy
        · split
          · exact Or.inl rfl
          · exact Or.inr hy
    · rw [if_neg q]; exact p3 t ht
  · rw [q4 t ht]
    by_cases q : t = s
    · rw [if_pos q]
      unfold sp_sO
      split
      · exact Or.inl rfl
      · rename_i a1
        split
        · exact Or.inl rfl
        · rename_i a2
          split
          · exact Or.inl rfl
          · rename_i a3
            right
            refine ⟨by omega, by rw [q1]; omega, ?_, ?_, ?_⟩
            · rw [q3 t ht, if_pos q]; unfold sp_sA; rw [if_neg a1, if_neg a2, if_neg a3]; omega
            · rw [q3 t ht, if_pos q]; unfold sp_sA; rw [if_neg a1, if_neg a2, if_neg a3]; exact hby
            · rw [show e + 1 - 1 = e by omega, q5 e, if_pos rfl]; unfold sp_sS; rw [if_neg a1, if_neg a2]
    · rw [if_neg q]
      rcases p4 t ht with z | ⟨z1, z2, z3, z4, z5⟩
      · exact Or.inl z
      · by_cases z0 : g (7 + t) = 0
        · exact Or.inl z0
        · right
          rw [q3 t ht, if_neg q, q1, q5]
          refine ⟨z1, z2, z3, z4, ?_⟩
          by_cases y : g (7 + t) - 1 = e
          · exfalso
            rw [y] at z5
            rcases c5 with ⟨w1, w2⟩ | ⟨w1, w2⟩ | ⟨w1, w2⟩
            · rcases p6 s t hs ht (by omega) with v | v
              · omega
              · exact q v.symm
            · omega
            · omega
          · rw [if_neg y]; exact z5
  · rw [q5]
    by_cases q : i = e
    · rw [if_pos q]; unfold sp_sS; split
      · omega
      · split <;> omega
    · rw [if_neg q]; exact p5 i hi
  · rw [q4 t ht, q4 u hu] at htu
    rw [q4 t ht]
    have key : ∀ v, v < 4 → v ≠ s → sp_sO N g s e = g (7 + v) → sp_sO N g s e = 0 := by
      intro v hv hvs hh
      rcases c5 with ⟨w1, w2⟩ | ⟨w1, w2⟩ | ⟨w1, w2⟩
      · unfold sp_sO; rw [if_pos w1]
      · unfold sp_sO; rw [if_neg (by omega), if_pos w2]
      · unfold sp_sO at hh ⊢
        rw [if_neg (by omega), if_neg (by omega)] at hh ⊢
        split
        · rfl
        · rename_i a3
          rw [if_neg a3] at hh
          rcases p4 v hv with z | ⟨-, -, -, -, z5⟩
          · omega
          · rw [← hh, show e + 1 - 1 = e by omega] at z5
            omega
    by_cases a : t = s
    · by_cases b : u = s
      · right; omega
      · rw [if_pos a, if_neg b] at htu
        rw [if_pos a]
        exact Or.inl (key u hu b htu)
    · by_cases b : u = s
      · rw [if_neg a, if_pos b] at htu
        rw [if_neg a, htu]
        exact Or.inl (key t ht a htu.symm)
      · rw [if_neg a, if_neg b] at htu
        rw [if_neg a]
        exact p6 t u ht hu htu
/-- the edge that caution tells is one through which it can go -/
theorem ch_cs (hN : sp_wN N) (hP : sp_wP N g) {s : Nat} (hs : s < g 1) (h : sp_ch N g s < sp_E N) : sp_cs N g s (sp_ch N g s) = true := by
  obtain ⟨p0, p1, p2, p3, p4, p5, p6⟩ := hP
  rw [cs_iff]
  revert h
  unfold sp_ch
  by_cases a1 : sp_lv g s = false
  · rw [if_pos a1]; intro h; omega
  · rw [if_neg a1]
    have l1 : sp_lv g s = true := by simpa using a1
    by_cases a2 : 0 < g (7 + s)
    · rw [if_pos a2, if_pos a2]
      intro h
      rcases p4 s (by omega) with z | ⟨z1, z2, z3, z4, z5⟩
      · omega
      · exact ⟨hs, h, l1, z4, by simp; omega⟩
    · rw [if_neg a2, if_neg a2]
      by_cases a3 : sp_kn N g = true
      · rw [if_pos a3]; intro h; omega
      · rw [if_neg a3]
        have k1 : sp_kn N g = false := by simpa using a3
        by_cases a4 : sp_ua N g (g (3 + s)) < sp_E N
        · rw [if_pos a4]
          intro h
          have y := fa_first_yes _ _ h
          rw [Bool.and_eq_true] at y
          refine ⟨hs, h, l1, y.2, ?_⟩
          have y1 := y.1
          unfold sp_ua
          rw [y1, k1]
          simp
        · rw [if_neg a4]
          by_cases a5 : sp_nd N g (g (3 + s)) < 8
          · rw [if_pos a5]
            intro h
            have y := fa_first_yes _ _ h
            rw [Bool.and_eq_true, Bool.and_eq_true] at y
            refine ⟨hs, h, l1, y.2.1, ?_⟩
            have y1 := y.1
            unfold sp_tw
            rw [y1]
            simp
          · rw [if_neg a5]; intro h; omega
end ST
