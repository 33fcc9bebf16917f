/-! the reference's distances: the loops, and that they are right -/
section FB
variable {N : sN} {g : Nat → Nat} {M : dk_O} {w : Nat → Int32}
def fr_ca (N : sN) (g : Nat → Nat) (p t : Nat) (F : Nat → Nat) : Prop := ∀ j, j ≤ t → fr_cp N g p j F
theorem m_far44 (hN : sp_wN N) (hP : sp_wP N g) (hM : sp_RN M N) (hw : sp_RP w g) {p t : Nat} (hp : p < 8) {k33 : Int32 → (Nat → Int32) → Option ((Nat → Int32))} : ∀ d i fu (r : Nat → Int32) (F : Nat → Nat), i + d = sp_E N → d < fu → fr_R r F → fr_ok N g p F → fr_ca N g p t F → (∀ q, q < 8 → (∃ e, e < i ∧ sp_sf g e = true ∧ sp_en N e q = true ∧ ∃ x, sp_en N e x = true ∧ sp_rs N g p t x = true) → F q ≤ t + 1) → ∃ (r' : Nat → Int32) (F' : Nat → Nat), fr_R r' F' ∧ fr_ok N g p F' ∧ fr_ca N g p (t + 1) F' ∧ fX6_layFar_L44 M w k33 fu (nI t) (nI i) r = k33 (nI (t + 1)) r' := by
  have hE := hN.2.2.2.1
  have h8 := hN.2.1
  intro d
  induction d with
  | zero =>
    intro i fu r F h1 h2 hr hok hca hx
    obtain ⟨fu, rfl⟩ : ∃ k, fu = k + 1 := ⟨fu - 1, by omega⟩
    refine ⟨r, F, hr, hok, fun j hj => ?_, ?_⟩
    · by_cases z : j ≤ t
      · exact hca j z
      · intro q hq hrs
        rw [show j = t + 1 by omega] at hrs ⊢
        rcases rs_s.mp hrs with y | ⟨x, ⟨e, e1, e2, e3, e4⟩, y⟩
        · have := hca t (by omega) q hq y
          omega
        · exact hx q hq ⟨e, by omega, e2, e3, x, e4, y⟩
    · rw [fX6_layFar_L44, hM.2.2.1, if_pos (nI_le (by omega) (by omega)), nI_1]
  | succ d ih =>
    intro i fu r F h1 h2 hr hok hca hx
    have he := hP.2.2.2.2.2.1 i (by omega)
    have hw2 := hN.2.2.2.2 i (by omega)
    obtain ⟨fu, rfl⟩ : ∃ k, fu = k + 1 := ⟨fu - 1, by omega⟩
    rw [fX6_layFar_L44, hM.2.2.1, if_neg (nI_ge (by omega) (by omega)), i_11, rd_w hw (by omega), sb_]
    by_cases a : g (11 + i) = 2
    · have s1 : sp_sf g i = true := by simp [sp_sf, a]
      rw [if_pos (by rw [a]; rfl)]
      have hm := m_relax (w := w) hN hM (k33 := k33) (k44 := fun z0 z1 z2 => fX6_layFar_L44 M w k33 fu z0 z1 z2) (t := t) hr (show i < sp_E N by omega) (fun q hq => (hok.2 q hq).1)
      have hr2 : fr_R (upd (upd r (sp_a N i) (nI (min (F (sp_a N i)) (F (sp_b N i) + 1)))) (sp_b N i) (nI (min (fr_1 N i F (sp_b N i)) (fr_1 N i F (sp_a N i) + 1)))) (fr_2 N i F) := fr_up (fr_up hr)
      obtain ⟨r', F', q1, q2, q3, q4⟩ := ih (i + 1) fu _ (fr_2 N i F) (by omega) (by omega) hr2 (fr_2_ok hN (by omega) s1 hok hp) (fun j hj q hq hrs => Nat.le_trans (fr_2_le q) (hca j hj q hq hrs)) (fun q hq hh => by
        obtain ⟨e, e1, e2, e3, x, e4, e5⟩ := hh
        by_cases z : e = i
        · subst z
          have y := fr_2_near hN (F := F) (show e < sp_E N by omega) e3 e4
          have hl : x < 8 := by
            rcases en_iff.mp e4 with v | v <;> omega
          have := hca t (by omega) x hl e5
          omega
        · exact Nat.le_trans (fr_2_le q) (hx q hq ⟨e, by omega, e2, e3, x, e4, e5⟩))
      exact ⟨r', F', q1, q2, q3, hm.trans q4⟩
    · rw [if_neg (show ¬ nI (g (11 + i)) = 2 from fun z => a ((nI_eq (b := 2) (by omega) (by omega)).mp z)), nI_1]
      have s1 : sp_sf g i = false := by simp [sp_sf, a]
      exact ih (i + 1) fu r F (by omega) (by omega) hr hok hca (fun q hq hh => by
        obtain ⟨e, e1, e2, e3⟩ := hh
        by_cases z : e = i
        · subst z; rw [s1] at e2; cases e2
        · exact hx q hq ⟨e, by omega, e2, e3⟩)
theorem m_far33 (hN : sp_wN N) (hP : sp_wP N g) (hM : sp_RN M N) (hw : sp_RP w g) {p : Nat} (hp : p < 8) : ∀ d t fu (r : Nat → Int32) (F : Nat → Nat), t + d = sp_n N → d < fu → fr_R r F → fr_ok N g p F → fr_ca N g p t F → ∃ (r' : Nat → Int32) (F' : Nat → Nat), fr_R r' F' ∧ fr_ok N g p F' ∧ fr_ca N g p (sp_n N) F' ∧ fX6_layFar_L33 M w fu (nI t) r = some r' := by
  have hE := hN.2.2.2.1
  have h8 := hN.2.1
  intro d
  induction d with
  | zero =>
    intro t fu r F h1 h2 hr hok hca
    obtain ⟨fu, rfl⟩ : ∃ k, fu = k + 1 := ⟨fu - 1, by omega⟩
    refine ⟨r, F, hr, hok, by rw [show sp_n N = t by omega]; exact hca, ?_⟩
    rw [fX6_layFar_L33, hM.1, if_pos (nI_le (by omega) (by omega))]
  | succ d ih =>
    intro t fu r F h1 h2 hr hok hca
    obtain ⟨fu, rfl⟩ : ∃ k, fu = k + 1 := ⟨fu - 1, by omega⟩
    obtain ⟨r', F', q1, q2, q3, q4⟩ := m_far44 (t := t) hN hP hM hw hp (k33 := fun z0 z1 => fX6_layFar_L33 M w fu z0 z1) (sp_E N) 0 1000 r F (by omega) (by omega) hr hok hca (fun q hq hh => by
      obtain ⟨e, e1, -⟩ := hh
      omega)
    obtain ⟨r2, F2, y1, y2, y3, y4⟩ := ih (t + 1) fu r' F' (by omega) (by omega) q1 q2 q3
    refine ⟨r2, F2, y1, y2, y3, ?_⟩
    rw [fX6_layFar_L33, hM.1, if_neg (nI_ge (by omega) (by omega))]
    exact q4.trans y4
theorem m_far2 {p : Nat} (hp : p < 8) : ∀ d i fu (r : Nat → Int32), i + d = 8 → d < fu → (∀ q, q < i → r q = nI (if q = p then 0 else 99)) → ∃ r' : Nat → Int32, fr_R r' (fun q => if q = p then 0 else 99) ∧ fX6_layFar_L2 M w fu (nI p) (nI i) r = fX6_layFar_L33 M w 1000 0 r' := by
  intro d
  induction d with
  | zero =>
    intro i fu r h1 h2 hr
    obtain ⟨fu, rfl⟩ : ∃ k, fu = k + 1 := ⟨fu - 1, by omega⟩
    refine ⟨r, fun q hq => hr q (by omega), ?_⟩
    rw [fX6_layFar_L2, if_pos (by exact nI_le (a := 8) (by omega) (by omega))]
  | succ d ih =>
    intro i fu r h1 h2 hr
    obtain ⟨fu, rfl⟩ : ∃ k, fu = k + 1 := ⟨fu - 1, by omega⟩
    have step : ∀ v, v = (if i = p then 0 else 99) → ∃ r' : Nat → Int32, fr_R r' (fun q => if q = p then 0 else 99) ∧ fX6_layFar_L24 M w (fun z0 z1 z2 => fX6_layFar_L2 M w fu z0 z1 z2) (nI p) (nI i) (nI i) (nI v) r = fX6_layFar_L33 M w 1000 0 r' := by
      intro v hv
      obtain ⟨r', y1, y2⟩ := ih (i + 1) fu (upd r i (nI v)) (by omega) (by omega) (fun q hq => by
        by_cases z : q = i
        · rw [z, upd_s, hv]
        · rw [upd_n z]; exact hr q (by omega))
      refine ⟨r', y1, ?_⟩
      unfold fX6_layFar_L24
      rw [wr_nI (by omega) (by omega), sb_, nI_1]
      exact y2
    rw [fX6_layFar_L2, if_neg (by exact nI_ge (b := 8) (by omega) (by omega))]
    by_cases z : i = p
    · rw [if_pos (by rw [z])]
      exact step 0 (by rw [if_pos z])
    · rw [if_neg (fun y => z ((nI_eq (by omega) (by omega)).mp y))]
      exact step 99 (by rw [if_neg z])
/-- the distance; 99: none -/
def sp_di (N : sN) (g : Nat → Nat) (p q : Nat) : Nat := if fa_first (fun k => sp_rs N g p k q) 8 < 8 then fa_first (fun k => sp_rs N g p k q) 8 else 99
theorem di_facts (hN : sp_wN N) {p q : Nat} (hp : p < sp_n N) {F : Nat → Nat} (hq : q < 8) (hok : fr_ok N g p F) (hca : fr_ca N g p (sp_n N) F) : F q = sp_di N g p q := by
  have h8 := hN.2.1
  unfold sp_di
  by_cases a : fa_first (fun k => sp_rs N g p k q) 8 < 8
  · rw [if_pos a]
    have y := fa_first_yes (fun k => sp_rs N g p k q) 8 a
    have n := fa_first_no (fun k => sp_rs N g p k q) 8
    have le : fa_first (fun k => sp_rs N g p k q) 8 ≤ sp_n N - 1 := by
      rcases Nat.lt_or_ge (sp_n N - 1) (fa_first (fun k => sp_rs N g p k q) 8) with z | z
      · have h1 := n _ z
        have h2 := rs_near hN hp y
        rw [h2] at h1; cases h1
      · exact z
    have u := hca _ (show fa_first (fun k => sp_rs N g p k q) 8 ≤ sp_n N by omega) q hq y
    have l := (hok.2 q hq).2 (by omega)
    rcases Nat.lt_or_ge (F q) (fa_first (fun k => sp_rs N g p k q) 8) with z | z
    · have h1 := n _ z
      rw [l] at h1; cases h1
    · omega
  · rw [if_neg a]
    have hl := (hok.2 q hq).1
    rcases Nat.lt_or_ge (F q) 99 with z | z
    · exfalso
      have h1 := (hok.2 q hq).2 z
      have h2 := rs_near hN hp h1
      exact a (first_lt (f := fun k => sp_rs N g p k q) (show sp_n N - 1 < 8 by omega) h2)
    · omega
theorem m_layFar (hN : sp_wN N) (hP : sp_wP N g) (hM : sp_RN M N) (hw : sp_RP w g) {p : Nat} (hp : p < sp_n N) : ∃ r', fX6_layFar M w (nI p) = some r' ∧ fr_R r' (sp_di N g p) := by
  have h8 := hN.2.1
  obtain ⟨r1, y1, y2⟩ := m_far2 (M := M) (w := w) (show p < 8 by omega) 8 0 1000 (M.2 26) (by omega) (by omega) (fun q hq => absurd hq (by omega))
  have ok0 : fr_ok N g p (fun q => if q = p then 0 else 99) := by
    refine ⟨if_pos rfl, fun q hq => ?_⟩
    by_cases z : q = p
    · simp only [z, if_true]
      exact ⟨by omega, fun _ => rs_0.mpr rfl⟩
    · simp only [z, if_false]
      exact ⟨by omega, fun y => absurd y (by omega)⟩
  have ca0 : fr_ca N g p 0 (fun q => if q = p then 0 else 99) := by
    intro j hj q hq hrs
    rw [show j = 0 by omega, rs_0] at hrs
    show (if q = p then 0 else 99) ≤ j
    rw [if_pos hrs]; omega
  obtain ⟨r', F', q1, q2, q3, q4⟩ := m_far33 hN hP hM hw (show p < 8 by omega) (sp_n N) 0 1000 r1 _ (by omega) (by omega) y1 ok0 ca0
  refine ⟨r', ?_, fun q hq => ?_⟩
  · unfold fX6_layFar
    exact y2.trans q4
  · rw [q1 q hq, di_facts hN hp hq q2 q3]
end FB
