/-! what lies so many safe edges away -/
section BF
variable {N : sN} {g : Nat → Nat}
/-- two places at which one safe edge ends -/
def sp_ad (N : sN) (g : Nat → Nat) (p q : Nat) : Prop := ∃ e, e < sp_E N ∧ sp_sf g e = true ∧ sp_en N e p = true ∧ sp_en N e q = true
theorem ad_sym {p q : Nat} (h : sp_ad N g p q) : sp_ad N g q p := by
  obtain ⟨e, h1, h2, h3, h4⟩ := h
  exact ⟨e, h1, h2, h4, h3⟩
theorem rs_0 {p q : Nat} : sp_rs N g p 0 q = true ↔ q = p := by simp [sp_rs]
theorem rs_s {p d q : Nat} : sp_rs N g p (d + 1) q = true ↔ sp_rs N g p d q = true ∨ ∃ r, sp_ad N g q r ∧ sp_rs N g p d r = true := by
  rw [sp_rs, Bool.or_eq_true, sp_any_iff]
  constructor
  · rintro (h | ⟨e, h1, h2⟩)
    · exact Or.inl h
    · simp only [Bool.and_eq_true, Bool.or_eq_true] at h2
      obtain ⟨h3, h4, h5⟩ := h2
      rcases h5 with h5 | h5
      · exact Or.inr ⟨sp_a N e, ⟨e, h1, h3, h4, by simp [sp_en]⟩, h5⟩
      · exact Or.inr ⟨sp_b N e, ⟨e, h1, h3, h4, by simp [sp_en]⟩, h5⟩
  · rintro (h | ⟨r, ⟨e, h1, h2, h3, h4⟩, h5⟩)
    · exact Or.inl h
    · refine Or.inr ⟨e, h1, ?_⟩
      simp only [Bool.and_eq_true, Bool.or_eq_true]
      refine ⟨h2, h3, ?_⟩
      rcases en_iff.mp h4 with q1 | q1
      · exact Or.inl (by rw [q1]; exact h5)
      · exact Or.inr (by rw [q1]; exact h5)
theorem rs_mono1 {p d q : Nat} (h : sp_rs N g p d q = true) : sp_rs N g p (d + 1) q = true := rs_s.mpr (Or.inl h)
theorem rs_mono {p q : Nat} : ∀ {d k : Nat}, d ≤ k → sp_rs N g p d q = true → sp_rs N g p k q = true := by
  intro d k hk h
  induction k with
  | zero => rw [show d = 0 by omega] at h; exact h
  | succ k ih =>
    by_cases e : d = k + 1
    · rw [← e]; exact h
    · exact rs_mono1 (ih (by omega))
theorem rs_left {q r : Nat} (ha : sp_ad N g q r) : ∀ {d p : Nat}, sp_rs N g r d p = true → sp_rs N g q (d + 1) p = true
  | 0, p, h => by
    rw [rs_0] at h
    exact rs_s.mpr (Or.inr ⟨q, by rw [h]; exact ad_sym ha, rs_0.mpr rfl⟩)
  | d + 1, p, h => by
    rcases rs_s.mp h with h | ⟨t, h1, h2⟩
    · exact rs_mono1 (rs_left ha h)
    · exact rs_s.mpr (Or.inr ⟨t, h1, rs_left ha h2⟩)
theorem rs_sym : ∀ {d p q : Nat}, sp_rs N g p d q = true → sp_rs N g q d p = true
  | 0, p, q, h => by rw [rs_0] at h ⊢; exact h.symm
  | d + 1, p, q, h => by
    rcases rs_s.mp h with h | ⟨r, h1, h2⟩
    · exact rs_mono1 (rs_sym h)
    · exact rs_left h1 (rs_sym h2)
theorem ad_lt (hN : sp_wN N) {p q : Nat} (h : sp_ad N g p q) : p < sp_n N ∧ q < sp_n N := by
  obtain ⟨e, h1, h2, h3, h4⟩ := h
  have hw := hN.2.2.2.2 e h1
  rcases en_iff.mp h3 with a | a <;> rcases en_iff.mp h4 with b | b <;> omega
theorem rs_lt (hN : sp_wN N) {p : Nat} (hp : p < sp_n N) : ∀ {d q : Nat}, sp_rs N g p d q = true → q < sp_n N
  | 0, q, h => by rw [rs_0] at h; omega
  | d + 1, q, h => by
    rcases rs_s.mp h with h | ⟨r, h1, h2⟩
    · exact rs_lt hN hp h
    · exact (ad_lt hN h1).1
/-- where a turn adds nothing, none does -/
theorem rs_still {p d : Nat} (h : ∀ q, sp_rs N g p (d + 1) q = true → sp_rs N g p d q = true) : ∀ {k q : Nat}, sp_rs N g p k q = true → sp_rs N g p d q = true
  | 0, q, hk => rs_mono (Nat.zero_le d) hk
  | k + 1, q, hk => by
    rcases rs_s.mp hk with h1 | ⟨r, h1, h2⟩
    · exact rs_still h h1
    · exact h q (rs_s.mpr (Or.inr ⟨r, h1, rs_still h h2⟩))
/-- a place that first comes at d: d places came ahead of it -/
theorem rs_count {p : Nat} {f : Nat → Bool} (hf : ∀ d q, sp_rs N g p d q = true → f q = true ∧ q < 8) (hp : p < 8) : ∀ {d q : Nat}, sp_rs N g p d q = true → (∀ k, k < d → sp_rs N g p k q = false) → d + 1 ≤ fb_ct (sp_rs N g p d) 8
  | 0, q, h, _ => by
    have : 0 < fb_ct (sp_rs N g p 0) 8 := fb_ct_pos.mpr ⟨p, hp, rs_0.mpr rfl⟩
    omega
  | d + 1, q, h, hn => by
    have h0 := hn d (by omega)
    -- some place came first at d
    have hex : ∃ r, sp_rs N g p d r = true ∧ ∀ k, k < d → sp_rs N g p k r = false := by
      rcases rs_s.mp h with h1 | ⟨r, h1, h2⟩
      · rw [h0] at h1; cases h1
      · refine ⟨r, h2, fun k hk => ?_⟩
        cases hh : sp_rs N g p k r
        · rfl
        · have : sp_rs N g p (k + 1) q = true := rs_s.mpr (Or.inr ⟨r, h1, hh⟩)
          rw [hn (k + 1) (by omega)] at this
          cases this
    obtain ⟨r, hr1, hr2⟩ := hex
    have ih := rs_count hf hp hr1 hr2
    have hq := (hf _ _ h).2
    have hlt : fb_ct (sp_rs N g p d) 8 + 1 ≤ fb_ct (sp_rs N g p (d + 1)) 8 := by
      have e1 := fb_ct_upd (sp_rs N g p d) true (i := q) (n := 8) hq
      rw [h0] at e1
      simp only [Bool.false_eq_true, if_false, if_true] at e1
      have e2 : fb_ct (fun k => if k = q then true else sp_rs N g p d k) 8 ≤ fb_ct (sp_rs N g p (d + 1)) 8 := by
        refine fb_ct_sub (fun k _ hk => ?_)
        by_cases z : k = q
        · rw [z]; exact h
        · rw [if_neg z] at hk; exact rs_mono1 hk
      omega
    omega
/-- so it comes within as many turns as there are places -/
theorem rs_near (hN : sp_wN N) {p : Nat} (hp : p < sp_n N) {d q : Nat} (h : sp_rs N g p d q = true) : sp_rs N g p (sp_n N - 1) q = true := by
  have h8 := hN.2.1
  obtain ⟨k, hk1, hk2⟩ := pk_least (fun k => sp_rs N g p k q = true) ⟨d, h⟩
  have hc := rs_count (f := fun _ => true) (fun d q hq => ⟨rfl, by have := rs_lt hN hp hq; omega⟩) (by omega) hk1 (fun j hj => by simpa using hk2 j hj)
  have hb : fb_ct (sp_rs N g p k) 8 ≤ sp_n N := by
    have e1 : fb_ct (sp_rs N g p k) 8 ≤ fb_ct (fun i => decide (i < sp_n N) && true) 8 := fb_ct_sub (fun i _ hi => by
      have := rs_lt hN hp hi
      simp [this])
    have e2 := fb_ct_widen (f := fun _ => true) (k := sp_n N) (8 - sp_n N)
    rw [show sp_n N + (8 - sp_n N) = 8 by omega] at e2
    have e3 := fb_ct_le (fun _ => true) (sp_n N)
    omega
  exact rs_mono (show k ≤ sp_n N - 1 by omega) hk1
end BF
