/-! what was seen; where the hole may be -/
section WH
variable {N : sN} {g : Nat → Nat} {Q T U G M E : dk_O} {n : Nat} {a b : Nat → Nat}
/-- what was seen: n rows, rounds a, lives b -/
def sp_RE (E : dk_O) (n : Nat) (a b : Nat → Nat) : Prop := n ≤ 6 ∧ E.1 2 = nI n ∧ ∀ k, k < n → a k ≤ 20 ∧ b k ≤ 4 ∧ E.2 0 k = nI (a k) ∧ E.2 1 k = nI (b k)
def sp_RM (M : dk_O) (n : Nat) (a b : Nat → Nat) : Prop := n ≤ 6 ∧ M.1 22 = nI n ∧ ∀ k, k < n → a k ≤ 20 ∧ b k ≤ 4 ∧ M.2 23 k = nI (a k) ∧ M.2 24 k = nI (b k)
def sp_mr (a : Nat → Nat) : Nat → Nat
  | 0 => 0
  | k + 1 => max (sp_mr a k) (a k)
theorem mr_le : ∀ {k : Nat}, (∀ j, j < k → a j ≤ 20) → sp_mr a k ≤ 20
  | 0, _ => Nat.zero_le _
  | k + 1, h => by
    have := mr_le (k := k) (fun j hj => h j (by omega))
    have := h k (by omega)
    rw [sp_mr]; omega
theorem mr_ge : ∀ {k j : Nat}, j < k → a j ≤ sp_mr a k
  | 0, j, h => absurd h (by omega)
  | k + 1, j, h => by
    rw [sp_mr]
    by_cases z : j = k
    · rw [z]; omega
    · have := mr_ge (show j < k by omega); omega
theorem q_most_L (hE : sp_RE E n a b) : ∀ d i fu, i + d = n → d < fu → fX2_mostRounds_L4 E fu (nI (sp_mr a i)) (nI i) = some (nI (sp_mr a n))
  | 0, i, fu, h1, h2 => by
    have h6 := hE.1
    obtain ⟨fu, rfl⟩ : ∃ k, fu = k + 1 := ⟨fu - 1, by omega⟩
    rw [fX2_mostRounds_L4, hE.2.1, if_pos (nI_le (by omega) (by omega)), show i = n by omega]
  | d + 1, i, fu, h1, h2 => by
    have h6 := hE.1
    have hk := hE.2.2 i (by omega)
    have hm := mr_le (a := a) (k := i) (fun j hj => (hE.2.2 j (by omega)).1)
    obtain ⟨fu, rfl⟩ : ∃ k, fu = k + 1 := ⟨fu - 1, by omega⟩
    rw [fX2_mostRounds_L4, hE.2.1, if_neg (nI_ge (by omega) (by omega)), rd_nI (by omega) (by omega), sb_, hk.2.2.1, nI_1]
    have ih := q_most_L hE d (i + 1) fu (by omega) (by omega)
    rw [sp_mr] at ih
    by_cases z : sp_mr a i < a i
    · rw [if_pos (nI_lt z (by omega))]
      rw [show max (sp_mr a i) (a i) = a i by omega] at ih
      exact ih
    · rw [if_neg (nI_nlt (by omega) (by omega))]
      rw [show max (sp_mr a i) (a i) = sp_mr a i by omega] at ih
      exact ih
theorem q_most (hE : sp_RE E n a b) : fX2_mostRounds E = some (nI (sp_mr a n)) :=
  q_most_L hE n 0 1000 (by omega) (by have := hE.1; omega)
def sp_ag (n : Nat) (a b : Nat → Nat) (r v : Nat) : Bool := sp_any (fun k => decide (a k = r) && decide (b k ≠ v)) n
theorem q_against_L (hE : sp_RE E n a b) {r v : Nat} (hr : r < 100) (hv : v < 100) : ∀ d i fu, i + d = n → d < fu → (∀ j, j < i → (decide (a j = r) && decide (b j ≠ v)) = false) → fX2_speaksAgainst_L2 E fu (nI r) (nI v) (nI i) = some (if sp_ag n a b r v = true then 1 else 0)
  | 0, i, fu, h1, h2, hj => by
    have h6 := hE.1
    obtain ⟨fu, rfl⟩ : ∃ k, fu = k + 1 := ⟨fu - 1, by omega⟩
    rw [fX2_speaksAgainst_L2, hE.2.1, if_pos (nI_le (by omega) (by omega))]
    have e : sp_ag n a b r v = false := sp_any_no.mpr (fun j h => hj j (by omega))
    rw [e]
    rfl
  | d + 1, i, fu, h1, h2, hj => by
    have h6 := hE.1
    have hk := hE.2.2 i (by omega)
    obtain ⟨fu, rfl⟩ : ∃ k, fu = k + 1 := ⟨fu - 1, by omega⟩
    rw [fX2_speaksAgainst_L2, hE.2.1, if_neg (nI_ge (by omega) (by omega)), rd_nI (by omega) (by omega), sb_, hk.2.2.1, nI_1]
    have next : (decide (a i = r) && decide (b i ≠ v)) = false → fX2_speaksAgainst_L2 E fu (nI r) (nI v) (nI (i + 1)) = some (if sp_ag n a b r v = true then 1 else 0) := by
      intro hi
      refine q_against_L hE hr hv d (i + 1) fu (by omega) (by omega) (fun j h => ?_)
      by_cases z : j = i
      · rw [z]; exact hi
      · exact hj j (by omega)
    by_cases z1 : a i = r
    · rw [if_pos (by rw [z1]), rd_nI (by omega) (by omega), sb_, hk.2.2.2]
      by_cases z2 : b i = v
      · rw [if_pos (by rw [z2])]
        exact next (by simp [z2])
      · rw [if_neg (fun y => z2 ((nI_eq (by omega) (by omega)).mp y))]
        have e : sp_ag n a b r v = true := sp_any_iff.mpr ⟨i, by omega, by simp [z1, z2]⟩
        rw [e]
        rfl
    · rw [if_neg (fun y => z1 ((nI_eq (by omega) (by omega)).mp y))]
      exact next (by simp [z1])
theorem q_against (hE : sp_RE E n a b) {r v : Nat} (hr : r < 100) (hv : v < 100) : fX2_speaksAgainst E (nI r) (nI v) = some (if sp_ag n a b r v = true then 1 else 0) :=
  q_against_L hE hr hv n 0 1000 (by omega) (by have := hE.1; omega) (fun j h => absurd h (by omega))
/-- a page fits all that was seen -/
def sp_fi (N : sN) (n : Nat) (a b : Nat → Nat) (g : Nat → Nat) : Bool := !sp_any (fun k => decide (sp_nl (sp_it N sp_all g (a k)) ≠ b k)) n
theorem q_fits_L (hN : sp_wN N) (hP : sp_wP N g) (hG : sp_RG G N) (hE : sp_RE E n a b) : ∀ d k fu (I a1 a2 : Nat → Int32), k + d = sp_mr a n + 1 → d < fu → sp_RT (I, dk_upA (dk_upA U.2 1 a1) 2 a2) N (sp_it N sp_all g (k - 1)) → (∀ j, j < n → a j < k → sp_nl (sp_it N sp_all g (a j)) = b j) → ∃ I' a1' a2', fX5_fitsAllSeen_L34 Q T G U E fu (nI (sp_mr a n)) (nI k) I a1 a2 = some (if sp_fi N n a b g = true then 1 else 0, I', a1', a2') := by
  have hm := mr_le (a := a) (k := n) (fun j hj => (hE.2.2 j (by omega)).1)
  intro d
  induction d with
  | zero =>
    intro k fu I a1 a2 h1 h2 hT hj
    obtain ⟨fu, rfl⟩ : ∃ k, fu = k + 1 := ⟨fu - 1, by omega⟩
    rw [fX5_fitsAllSeen_L34, if_pos (nI_lt (by omega) (by omega))]
    have e : sp_fi N n a b g = true := by
      unfold sp_fi
      rw [sp_any_no.mpr]
      · rfl
      · intro j h
        have := hj j h (by have := mr_ge (a := a) h; omega)
        simp [this]
    rw [e]
    exact ⟨_, _, _, rfl⟩
  | succ d ih =>
    intro k fu I a1 a2 h1 h2 hT hj
    obtain ⟨fu, rfl⟩ : ∃ k, fu = k + 1 := ⟨fu - 1, by omega⟩
    have l53 : ∀ (I a1 a2 : Nat → Int32), sp_RT (I, dk_upA (dk_upA U.2 1 a1) 2 a2) N (sp_it N sp_all g k) → ∃ I' a1' a2', fX5_fitsAllSeen_L53 Q T G U E (fun z0 z1 z2 z3 z4 => fX5_fitsAllSeen_L34 Q T G U E fu z0 z1 z2 z3 z4) (nI (sp_mr a n)) (nI k) I a1 a2 = some (if sp_fi N n a b g = true then 1 else 0, I', a1', a2') := by
      intro I a1 a2 hT2
      have w := (it_wP (c := sp_all) hN hP k).1
      have l4 := nl_le w
      rw [fX5_fitsAllSeen_L53, q_living hN w hT2, sb_, q_against hE (by omega) (by omega), sb_]
      cases z : sp_ag n a b k (sp_nl (sp_it N sp_all g k))
      · rw [show (if false = true then (1 : Int32) else 0) = 0 from rfl, if_pos rfl, nI_1]
        refine ih (k + 1) fu I a1 a2 (by omega) (by omega) (by rw [Nat.add_sub_cancel]; exact hT2) (fun j h1 h2 => ?_)
        by_cases y : a j = k
        · have q := sp_any_no.mp z j h1
          rw [y]
          simp [y] at q
          exact q.symm
        · exact hj j h1 (by omega)
      · rw [show (if true = true then (1 : Int32) else 0) = 1 from rfl, if_neg (by decide)]
        obtain ⟨j, j1, j2⟩ := sp_any_iff.mp z
        simp only [Bool.and_eq_true, decide_eq_true_eq] at j2
        have e : sp_fi N n a b g = false := by
          unfold sp_fi
          rw [sp_any_iff.mpr ⟨j, j1, by rw [j2.1]; simp; exact fun y => j2.2 y.symm⟩]
          rfl
        rw [e]
        exact ⟨_, _, _, rfl⟩
    rw [fX5_fitsAllSeen_L34, if_neg (nI_nlt (by omega) (by omega))]
    by_cases z : k = 0
    · rw [if_pos (by rw [z]; decide)]
      exact l53 I a1 a2 (by rw [show k - 1 = k by omega] at hT; exact hT)
    · rw [if_neg (fun y => (pos_nI (by omega)).mp y (by omega))]
      obtain ⟨I2, b1, b2, y1, y2⟩ := q_round (c := sp_all) hN (it_wP hN hP (k - 1)).1 hG hT (fun i hi => holds_15 hi)
      rw [y1, sb_]
      dsimp only
      have y3 : sp_RT (I2, dk_upA (dk_upA U.2 1 b1) 2 b2) N (sp_it N sp_all g (k - 1 + 1)) := y2
      rw [show k - 1 + 1 = k by omega] at y3
      exact l53 I2 b1 b2 y3
theorem q_fits (hN : sp_wN N) (hP : sp_wP N g) (hG : sp_RG G N) (hT : sp_RT T N g) (hE : sp_RE E n a b) {p : Nat} (hf : sp_ft N g p = true) : ∃ I a1 a2, fX5_fitsAllSeen Q T G U E (nI p) = some (if sp_fi N n a b (sp_up g 0 p) = true then 1 else 0, I, a1, a2) := by
  have hm := mr_le (a := a) (k := n) (fun j hj => (hE.2.2 j (by omega)).1)
  have h6 := hE.1
  unfold fX5_fitsAllSeen
  rw [hE.2.1]
  by_cases z : n = 0
  · rw [if_pos (by rw [z]; rfl)]
    have e : sp_fi N n a b (sp_up g 0 p) = true := by rw [z]; rfl
    rw [e]
    exact ⟨_, _, _, rfl⟩
  · rw [if_neg (show ¬ nI n = 0 from fun y => z ((nI_eq (b := 0) (by omega) (by omega)).mp y))]
    obtain ⟨I2, b1, b2, y1, y2⟩ := q_suppose (T := U) (p := p) hT
    rw [y1, sb_]
    dsimp only
    rw [q_most hE, sb_]
    exact q_fits_L hN (ft_wP hP hf) hG hE (sp_mr a n + 1) 0 1000 I2 b1 b2 (by omega) (by omega) y2 (fun j _ h => absurd h (by omega))
theorem q_which_L (hN : sp_wN N) (hP : sp_wP N g) (hG : sp_RG G N) (hT : sp_RT T N g) (hE : sp_RE E n a b) : ∀ d i fu (I a1 a2 : Nat → Int32), i + d = 8 → d < fu → ∃ I' a1' a2', fX5_which_L12 Q T G U E fu (ms (sp_ft N g) 8) (ms (sp_pre i (fun p => sp_ft N g p && sp_fi N n a b (sp_up g 0 p))) 8) (nI i) I a1 a2 = some (ms (fun p => sp_ft N g p && sp_fi N n a b (sp_up g 0 p)) 8, I', a1', a2')
  | 0, i, fu, I, a1, a2, h1, h2 => by
    obtain ⟨fu, rfl⟩ : ∃ k, fu = k + 1 := ⟨fu - 1, by omega⟩
    rw [fX5_which_L12, if_pos (show (8 : Int32) ≤ nI i from nI_le (a := 8) (by omega) (by omega))]
    refine ⟨I, a1, a2, ?_⟩
    congr 2
    refine ms_cong (fun p hp => ?_)
    unfold sp_pre
    simp [show p < i by omega]
  | d + 1, i, fu, I, a1, a2, h1, h2 => by
    obtain ⟨fu, rfl⟩ : ∃ k, fu = k + 1 := ⟨fu - 1, by omega⟩
    rw [fX5_which_L12, if_neg (show ¬ (8 : Int32) ≤ nI i from nI_ge (b := 8) (by omega) (by omega)), holds_ms (by omega) (by omega), sb_, nI_1]
    have hi8 : decide (i < 8) = true := by simp; omega
    have ih := fun I a1 a2 => q_which_L hN hP hG hT hE d (i + 1) fu I a1 a2 (by omega) (by omega)
    rw [hi8, Bool.true_and]
    by_cases z : sp_ft N g i = true
    · rw [if_pos z, if_neg (by decide)]
      obtain ⟨I2, b1, b2, y⟩ := q_fits (Q := Q) (U := (I, dk_upA (dk_upA U.2 1 a1) 2 a2)) hN hP hG hT hE z
      rw [y, sb_]
      dsimp only
      cases q : sp_fi N n a b (sp_up g 0 i)
      · rw [show (if false = true then (1 : Int32) else 0) = 0 from rfl, if_pos rfl, pre_f (f := fun p => sp_ft N g p && sp_fi N n a b (sp_up g 0 p)) (by simp [q])]
        exact ih I2 b1 b2
      · rw [show (if true = true then (1 : Int32) else 0) = 1 from rfl, if_neg (by decide), pre_t (f := fun p => sp_ft N g p && sp_fi N n a b (sp_up g 0 p)) (by omega) (by omega) (by simp [q, z])]
        exact ih I2 b1 b2
    · have zf : sp_ft N g i = false := by simpa using z
      rw [if_neg z, if_pos rfl, pre_f (f := fun p => sp_ft N g p && sp_fi N n a b (sp_up g 0 p)) (by simp [zf])]
      exact ih I a1 a2
theorem q_which (hN : sp_wN N) (hP : sp_wP N g) (hG : sp_RG G N) (hT : sp_RT T N g) (hE : sp_RE E n a b) : ∃ I a1 a2, fX5_which Q T G U E = some (ms (fun p => sp_ft N g p && sp_fi N n a b (sp_up g 0 p)) 8, I, a1, a2) := by
  unfold fX5_which
  rw [q_fated hN hP hG hT, sb_]
  have := q_which_L (Q := Q) (U := U) hN hP hG hT hE 8 0 1000 U.1 (U.2 1) (U.2 2) (by omega) (by omega)
  rw [pre_0 (by omega)] at this
  exact this
theorem m_wh30 (hN : sp_wN N) (hP : sp_wP N g) {J : Nat → Int32} (hM : sp_RN (J, M.2) N) (h15 : J 27 = 15) (hw : sp_RP (M.2 16) g) (hE : sp_RM (J, M.2) n a b) {p : Nat} (hp : p < 8) {k9 : Int32 → Int32 → (Nat → Int32) → (Nat → Int32) → (Nat → Int32) → Option (Int32 × (Nat → Int32) × (Nat → Int32) × (Nat → Int32))} {x1 : Int32} : ∀ d i fu (c : Bool) (f u : Nat → Int32), i + d = n → d < fu → c = (sp_ft N g p && !sp_any (fun k => decide (sp_nl (sp_it N sp_all (sp_up g 0 p) (a k)) ≠ b k)) i) → ∃ f' u', fX6_which_L30 M k9 fu x1 (nI p) (if c = true then 1 else 0) (nI i) J f u = k9 (if (sp_ft N g p && sp_fi N n a b (sp_up g 0 p)) = true then x1 ||| ((1 : Int32) <<< (nI p &&& 31)) else x1) (nI (p + 1)) J f' u'
  | 0, i, fu, c, f, u, h1, h2, hc => by
    have h6 := hE.1
    obtain ⟨fu, rfl⟩ : ∃ k, fu = k + 1 := ⟨fu - 1, by omega⟩
    refine ⟨f, u, ?_⟩
    rw [fX6_which_L30, show J 22 = nI n from hE.2.1, if_pos (nI_le (by omega) (by omega)), fX6_which_L77, nI_1, or_0]
    have e : (sp_ft N g p && sp_fi N n a b (sp_up g 0 p)) = c := by rw [hc, show i = n by omega]; rfl
    rw [e]
    cases c <;> rfl
  | d + 1, i, fu, c, f, u, h1, h2, hc => by
    have h6 := hE.1
    have hk := hE.2.2 i (by omega)
    obtain ⟨fu, rfl⟩ : ∃ k, fu = k + 1 := ⟨fu - 1, by omega⟩
    rw [fX6_which_L30, show J 22 = nI n from hE.2.1, if_neg (nI_ge (by omega) (by omega))]
    have ih := fun c f u hc => m_wh30 hN hP hM h15 hw hE hp (k9 := k9) (x1 := x1) d (i + 1) fu c f u (by omega) (by omega) hc
    cases c
    · refine ⟨f, u, ?_⟩
      have e : (sp_ft N g p && sp_fi N n a b (sp_up g 0 p)) = false := by
        unfold sp_fi
        cases z : sp_ft N g p
        · rfl
        · rw [z] at hc
          have : sp_any (fun k => decide (sp_nl (sp_it N sp_all (sp_up g 0 p) (a k)) ≠ b k)) i = true := by simpa using hc.symm
          rw [any_up (n := n) (by omega) this]
          rfl
      rw [e, show (if false = true then (1 : Int32) else 0) = 0 from rfl, if_pos rfl, fX6_which_L77, if_pos rfl, nI_1, or_0]
      rfl
    · have hc2 : sp_ft N g p = true ∧ sp_any (fun k => decide (sp_nl (sp_it N sp_all (sp_up g 0 p) (a k)) ≠ b k)) i = false := by
        have h := hc.symm
        rw [Bool.and_eq_true] at h
        exact ⟨h.1, by simpa using h.2⟩
      have hM2 : sp_RN (J, dk_upA (dk_upA M.2 26 f) 17 u) N := hM
      have l4 := nl_le (it_wP (c := sp_all) hN (ft_wP hP hc2.1) (a i)).1
      obtain ⟨f2, u2, y⟩ := m_behind (M := (J, dk_upA (dk_upA M.2 26 f) 17 u)) (r := a i) hN hP hM2 h15 hw hc2.1 (by omega)
      rw [show (if true = true then (1 : Int32) else 0) = 1 from rfl, if_neg (by decide), rd_nI (by omega) (by omega), sb_, show M.2 23 i = nI (a i) from hk.2.2.1, y, sb_]
      dsimp only
      rw [rd_nI (by omega) (by omega), sb_, show M.2 24 i = nI (b i) from hk.2.2.2, nI_1]
      by_cases z : sp_nl (sp_it N sp_all (sp_up g 0 p) (a i)) = b i
      · rw [if_pos (by rw [z])]
        refine ih true f2 u2 ?_
        rw [sp_any, hc2.1, hc2.2]
        simp [z]
      · rw [if_neg (fun q => z ((nI_eq (by omega) (by omega)).mp q))]
        refine ih false f2 u2 ?_
        rw [sp_any, hc2.1, hc2.2]
        simp [z]
theorem m_wh9 (hN : sp_wN N) (hP : sp_wP N g) {J : Nat → Int32} (hM : sp_RN (J, M.2) N) (h15 : J 27 = 15) (hw : sp_RP (M.2 16) g) (hE : sp_RM (J, M.2) n a b) : ∀ d i fu (f u : Nat → Int32), i + d = sp_n N → d < fu → ∃ f' u', fX6_which_L9 M fu (ms (sp_pre i (fun p => sp_ft N g p && sp_fi N n a b (sp_up g 0 p))) 8) (nI i) J f u = some (ms (fun p => sp_ft N g p && sp_fi N n a b (sp_up g 0 p)) 8, J, f', u')
  | 0, i, fu, f, u, h1, h2 => by
    have h8 := hN.2.1
    obtain ⟨fu, rfl⟩ : ∃ k, fu = k + 1 := ⟨fu - 1, by omega⟩
    rw [fX6_which_L9, show J 4 = nI (sp_n N) from hM.1, if_pos (nI_le (by omega) (by omega))]
    refine ⟨f, u, ?_⟩
    congr 2
    refine ms_cong (fun p hp => ?_)
    unfold sp_pre
    by_cases z : p < i
    · simp [z]
    · have : sp_ft N g p = false := by
        cases q : sp_ft N g p
        · rfl
        · have := ft_lt q; omega
      simp [this]
  | d + 1, i, fu, f, u, h1, h2 => by
    have h8 := hN.2.1
    have h6 := hE.1
    obtain ⟨fu, rfl⟩ : ∃ k, fu = k + 1 := ⟨fu - 1, by omega⟩
    have hM2 : sp_RN (J, dk_upA (dk_upA M.2 26 f) 17 u) N := hM
    rw [fX6_which_L9, show J 4 = nI (sp_n N) from hM.1, if_neg (nI_ge (by omega) (by omega)), m_isFree hN hP hM2 hw (by omega), sb_]
    obtain ⟨f2, u2, y⟩ := m_wh30 hN hP hM h15 hw hE (p := i) (by omega) (k9 := fun z0 z1 z2 z3 z4 => fX6_which_L9 M fu z0 z1 z2 z3 z4) (x1 := ms (sp_pre i (fun p => sp_ft N g p && sp_fi N n a b (sp_up g 0 p))) 8) n 0 1000 (sp_ft N g i) f u (by omega) (by omega) (by rw [sp_any]; simp)
    refine (show ∃ f' u', fX6_which_L30 M (fun z0 z1 z2 z3 z4 => fX6_which_L9 M fu z0 z1 z2 z3 z4) 1000 (ms (sp_pre i (fun p => sp_ft N g p && sp_fi N n a b (sp_up g 0 p))) 8) (nI i) (if sp_ft N g i = true then 1 else 0) (nI 0) J f u = some (ms (fun p => sp_ft N g p && sp_fi N n a b (sp_up g 0 p)) 8, J, f', u') from ?_)
    rw [y]
    have ih := m_wh9 hN hP hM h15 hw hE d (i + 1) fu f2 u2 (by omega) (by omega)
    cases z : (sp_ft N g i && sp_fi N n a b (sp_up g 0 i))
    · rw [if_neg (by decide), pre_f (f := fun p => sp_ft N g p && sp_fi N n a b (sp_up g 0 p)) z]
      exact ih
    · rw [if_pos rfl, pre_t (f := fun p => sp_ft N g p && sp_fi N n a b (sp_up g 0 p)) (by omega) (by omega) z]
      exact ih
theorem m_which (hN : sp_wN N) (hP : sp_wP N g) (hM : sp_RN M N) (h15 : M.1 27 = 15) (hw : sp_RP (M.2 16) g) (hE : sp_RM M n a b) : ∃ f u, fX6_which M = some (ms (fun p => sp_ft N g p && sp_fi N n a b (sp_up g 0 p)) 8, upd M.1 0 0, f, u) := by
  have h8 := hN.2.1
  unfold fX6_which
  have := m_wh9 (J := upd M.1 0 0) (M := M) hN hP hM h15 hw hE (sp_n N) 0 1000 (M.2 26) (M.2 17) (by omega) (by omega)
  rw [pre_0 (by omega)] at this
  exact this
end WH
