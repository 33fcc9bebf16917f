/-! reading a text: the reference's figures and edges; both together -/
section TR
variable {x y : Nat → Nat} {P h o s j n : Nat} {t : Nat → Nat} {I a5 a6 a8 J b14 b15 : Nat → Int32} {X M G : dk_O}
/-- the text as the reference has it -/
def rd_T (M : dk_O) (n : Nat) (t : Nat → Nat) : Prop := n ≤ 40 ∧ M.1 2 = nI n ∧ ∀ i, i < n → t i < 256 ∧ M.2 1 i = nI (t i)
theorem m_fig_end (hT : rd_T M n t) {p : Nat} (hp : n ≤ p) (hp2 : p < 100) (h3 : M.1 3 = nI p) {S : Int32} : fX6_figure M S = some (-9, M.1) := by
  unfold fX6_figure fX6_figure_L28
  rw [hT.2.1, h3, if_pos (nI_le hp (by omega)), show fX6_in ((-9 : Int32).toInt64) 0 9 = some 0 from in_lo (by decide), sb_, if_pos rfl]
theorem in9_in {r : Nat} (h : r < 10) : fX6_in (nI r).toInt64 0 9 = some 1 := no_in (k := r) (n := 10) h (by omega)
theorem in9_out {v : Int32} (h : v < 0 ∨ nI 10 ≤ v) : fX6_in v.toInt64 0 9 = some 0 := no_out (v := v) (n := 10) (by omega) (by omega) h
theorem m_fig (hT : rd_T M n t) {p : Nat} (hp : p < n) (h3 : M.1 3 = nI p) {S : Nat → Bool} {k : Nat} (hk : k ≤ 10) : (∃ f, t p = 48 + f ∧ f < k ∧ S f = true ∧ fX6_figure M (ms S k) = some (nI f, upd M.1 3 (nI (p + 1)))) ∨ ((∀ f, t p = 48 + f → f < k → S f = false) ∧ fX6_figure M (ms S k) = some (-9, M.1)) := by
  have hn := hT.1
  unfold fX6_figure fX6_figure_L28
  rw [hT.2.1, h3, if_neg (nI_ge hp (by omega)), rd_nI (by omega) (by omega), sb_, (hT.2.2 p hp).2]
  rcases fig_cases (hT.2.2 p hp).1 with ⟨f, e1, e2, e3⟩ | ⟨e1, e3⟩
  · rw [e3]
    by_cases q : f < 10
    · rw [in9_in q, sb_, if_neg one_ne, has_ms (by omega) (by omega), sb_]
      by_cases d : (decide (f < k) && S f) = true
      · have d2 := (Bool.and_eq_true _ _).mp d
        rw [if_pos d, if_neg one_ne, nI_1]
        exact Or.inl ⟨f, e1, of_decide_eq_true d2.1, d2.2, rfl⟩
      · rw [if_neg d, if_pos rfl]
        refine Or.inr ⟨fun f' h1 h2 => ?_, rfl⟩
        rw [show f' = f by omega]
        cases z : S f with
        | false => rfl
        | true => exact absurd (by rw [z]; simp; omega) d
    · rw [in9_out (Or.inr (nI_le (by omega) (by omega))), sb_, if_pos rfl]
      exact Or.inr ⟨fun f' h1 h2 => absurd h2 (by omega), rfl⟩
  · rw [in9_out (Or.inl e3), sb_, if_pos rfl]
    exact Or.inr ⟨fun f' h1 h2 => absurd h1 (by omega), rfl⟩
def rd_ap (x y : Nat → Nat) (P j p q : Nat) : Bool := decide (q < P) && (!decide (q = p) && !rd_ad x y j p q)
theorem and_m1 (z : Int32) : z &&& (-1) = z := by
  apply b_ext
  intro i hi
  rw [b_and, b_m1 i hi, Bool.and_true]
theorem ap_succ {P p i : Nat} (hi : x i ≠ y i) (q : Nat) : rd_ap x y P (i + 1) p q = (rd_ap x y P i p q && !((decide (x i = p) && decide (q = y i)) || (decide (y i = p) && decide (q = x i)))) := by
  unfold rd_ap
  have e : rd_ad x y (i + 1) p q = (rd_ad x y i p q || ((decide (x i = p) && decide (y i = q)) || (decide (x i = q) && decide (y i = p)))) := rfl
  rw [e]
  have c1 : decide (q = y i) = decide (y i = q) := decide_eq_decide.mpr ⟨fun h => h.symm, fun h => h.symm⟩
  have c2 : decide (q = x i) = decide (x i = q) := decide_eq_decide.mpr ⟨fun h => h.symm, fun h => h.symm⟩
  rw [c1, c2]
  cases decide (q < P) <;> cases decide (q = p) <;> cases rd_ad x y i p q <;> cases decide (x i = p) <;> cases decide (y i = q) <;> cases decide (x i = q) <;> cases decide (y i = p) <;> rfl
theorem m_apart_L (hP : P ≤ 8) (hk : ∀ e, e < j → x e < P ∧ y e < P ∧ x e ≠ y e) (hj : j ≤ 10) (h13 : M.1 13 = nI j) (hr : ∀ e, e < j → M.2 14 e = nI (x e) ∧ M.2 15 e = nI (y e)) {p : Nat} (hp : p < 8) : ∀ d i fu, i + d = j → d < fu → fX6_apart_L17 M fu (nI p) (ms (rd_ap x y P i p) 8) (nI i) = some (ms (rd_ap x y P j p) 8)
  | 0, i, fu, h1, h2 => by
    obtain ⟨fu, rfl⟩ : ∃ k, fu = k + 1 := ⟨fu - 1, by omega⟩
    rw [fX6_apart_L17, h13, if_pos (nI_le (by omega) (by omega)), show i = j by omega]
  | d + 1, i, fu, h1, h2 => by
    obtain ⟨fu, rfl⟩ : ∃ k, fu = k + 1 := ⟨fu - 1, by omega⟩
    have ih := m_apart_L hP hk hj h13 hr hp d (i + 1) fu (by omega) (by omega)
    have hx := hk i (by omega)
    rw [fX6_apart_L17, h13, if_neg (nI_ge (by omega) (by omega)), rd_nI (by omega) (by omega), sb_, rd_nI (by omega) (by omega), sb_, (hr i (by omega)).1, (hr i (by omega)).2, nI_1, sb_]
    by_cases a : x i = p
    · rw [if_pos (by rw [a]), ms_one (k := 8) (by omega) (by omega), ms_andn (by omega), ← ih]
      congr 1
      refine ms_cong (fun q _ => ?_)
      rw [ap_succ hx.2.2, a]
      have : ¬ y i = p := fun w => hx.2.2 (a.trans w.symm)
      simp [this]
    · rw [if_neg (fun w => a ((nI_eq (by omega) (by omega)).mp w))]
      by_cases c : y i = p
      · rw [if_pos (by rw [c]), sb_, ms_one (k := 8) (by omega) (by omega), ms_andn (by omega), ← ih]
        congr 1
        refine ms_cong (fun q _ => ?_)
        rw [ap_succ hx.2.2]
        simp [a, c]
      · rw [if_neg (fun w => c ((nI_eq (by omega) (by omega)).mp w)), and_m1, ← ih]
        congr 1
        refine ms_cong (fun q _ => ?_)
        rw [ap_succ hx.2.2]
        simp [a, c]
theorem m_apart (hok : rd_ok P h o s j x y) (hM : rd_M M.1 (M.2 14) (M.2 15) P h o s j x y) {p : Nat} (hp : p < 8) : fX6_apart M (nI p) = some (ms (rd_ap x y P j p) 8) := by
  obtain ⟨k1, k2, k3, k4, k5, k6, k7, k8, k9, k10⟩ := hok
  have e := m_apart_L k2 k9 k8 hM.2.2.2.2.1 hM.2.2.2.2.2 hp j 0 1000 (by omega) (by omega)
  unfold fX6_apart
  rw [hM.1, ms_full8 _ (by omega), ms_one (k := 8) hp (by omega), ms_andn (by omega), ← e]
  congr 1
  refine ms_cong (fun q _ => ?_)
  unfold rd_ap rd_ad
  simp [sp_any]
def rd_op (x y : Nat → Nat) (P j : Nat) : Nat → Bool := fun p => decide (p < P) && decide (fb_ct (rd_ad x y j p) 8 + 1 < P)
theorem ap_open (hok : rd_ok P h o s j x y) {p : Nat} (hp : p < P) : ms (rd_ap x y P j p) 8 = 0 ↔ ¬ fb_ct (rd_ad x y j p) 8 + 1 < P := by
  have f := dg_full hok hp
  obtain ⟨k1, k2, -⟩ := id hok
  rw [ms_zero (by omega)]
  have e : (¬ fb_ct (rd_ad x y j p) 8 + 1 < P) ↔ fb_ct (rd_ad x y j p) 8 + 1 = P := by omega
  rw [e, f.2]
  constructor
  · intro h q hq
    have := h q (by omega)
    unfold rd_ap at this
    by_cases z : q = p
    · exact Or.inl z
    · right
      simpa [hq, z] using this
  · intro h q hq
    unfold rd_ap
    by_cases w : q < P
    · rcases h q w with z | z
      · simp [z]
      · simp [z]
    · simp [w]
/-- where the reference's loop over first places ends -/
theorem m_open (hok : rd_ok P h o s j x y) (hM : rd_M J b14 b15 P h o s j x y) : ∀ d i fu, i + d = P → d < fu → ∃ fu', 0 < fu' ∧ fX6_readEdge_L4 M fu (ms (sp_pre i (rd_op x y P j)) 8) (nI i) J b14 b15 = fX6_readEdge_L4 M fu' (ms (rd_op x y P j) 8) (nI P) J b14 b15
  | 0, i, fu, h1, h2 => by
    refine ⟨fu, by omega, ?_⟩
    rw [show i = P by omega]
    congr 1
    refine ms_cong (fun p _ => ?_)
    unfold sp_pre rd_op
    cases decide (p < P) <;> rfl
  | d + 1, i, fu, h1, h2 => by
    obtain ⟨fu, rfl⟩ : ∃ k, fu = k + 1 := ⟨fu - 1, by omega⟩
    have k2 := hok.2.1
    obtain ⟨fu', f1, ih⟩ := m_open hok hM d (i + 1) fu (by omega) (by omega)
    refine ⟨fu', f1, ?_⟩
    rw [← ih, fX6_readEdge_L4, hM.1, if_neg (nI_ge (by omega) (by omega)), m_apart (M := (J, dk_upA (dk_upA M.2 14 b14) 15 b15)) hok hM (p := i) (by omega), sb_, nI_1]
    have ao := ap_open hok (p := i) (by omega)
    by_cases q : ms (rd_ap x y P j i) 8 = 0
    · rw [if_pos q, or_0, pre_f]
      unfold rd_op
      simp [ao.mp q]
    · rw [if_neg q, pre_t (by omega) (by omega)]
      unfold rd_op
      have : fb_ct (rd_ad x y j i) 8 + 1 < P := Classical.byContradiction (fun w => q (ao.mpr w))
      simp [this]
      omega
/-- an edge of the reference: its three letters -/
theorem m_edge (hok : rd_ok P h o s j x y) (hM : rd_M J b14 b15 P h o s j x y) (hT : rd_T (J, M.2) n t) {p : Nat} (hp : p < n) (h3 : J 3 = nI p) : fX6_readEdge (J, dk_upA (dk_upA M.2 14 b14) 15 b15) = (if t p = 101 ∧ j < 10 ∧ ¬ P * (P - 1) / 2 ≤ j then (fX6_figure (upd J 3 (nI (p + 1)), dk_upA (dk_upA (dk_upA (dk_upA M.2 14 b14) 15 b15) 14 b14) 15 b15) (ms (rd_op x y P j) 8)).bind (fun (r77, i77_0) => if r77 = (-9) then (fX6_readEdge_L101 (J, dk_upA (dk_upA M.2 14 b14) 15 b15) r77 (-9) i77_0 b14 b15) else (fX6_apart (i77_0, dk_upA (dk_upA (dk_upA (dk_upA M.2 14 b14) 15 b15) 14 b14) 15 b15) r77).bind fun r95 => (fX6_figure (i77_0, dk_upA (dk_upA (dk_upA (dk_upA M.2 14 b14) 15 b15) 14 b14) 15 b15) r95).bind fun (r98, i98_0) => fX6_readEdge_L101 (J, dk_upA (dk_upA M.2 14 b14) 15 b15) r77 r98 i98_0 b14 b15) else some (0, J, b14, b15)) := by
  obtain ⟨k1, k2, k3, k4, k5, k6, k7, k8, k9, k10⟩ := id hok
  have hn := hT.1
  obtain ⟨fu', f1, e⟩ := m_open (M := (J, dk_upA (dk_upA M.2 14 b14) 15 b15)) hok hM P 0 1000 (by omega) (by omega)
  rw [pre_0 (by omega)] at e
  have e' : fX6_readEdge_L4 (J, dk_upA (dk_upA M.2 14 b14) 15 b15) 1000 0 0 J b14 b15 = fX6_readEdge_L4 (J, dk_upA (dk_upA M.2 14 b14) 15 b15) fu' (ms (rd_op x y P j) 8) (nI P) J b14 b15 := e
  have u0 : fX6_readEdge (J, dk_upA (dk_upA M.2 14 b14) 15 b15) = fX6_readEdge_L4 (J, dk_upA (dk_upA M.2 14 b14) 15 b15) 1000 0 0 J b14 b15 := rfl
  obtain ⟨fu', rfl⟩ : ∃ k, fu' = k + 1 := ⟨fu' - 1, by omega⟩
  have rd1 : dk_rd (dk_upA (dk_upA M.2 14 b14) 15 b15 1) 40 (nI p) = some (nI (t p)) := by
    rw [rd_nI (by omega) (by omega)]
    exact congrArg some (hT.2.2 p hp).2
  have t256 := (hT.2.2 p hp).1
  rw [u0, e', fX6_readEdge_L4, hM.1, if_pos (nI_le (Nat.le_refl _) (by omega)), h3, rd1, sb_, hM.2.2.2.2.1, nI_1]
  by_cases a : t p = 101
  · rw [if_pos (show nI (t p) = 101 by rw [a]; rfl)]
    by_cases c : j < 10
    · rw [if_neg (show ¬ nI j = 10 from fun w => by have := (nI_eq (b := 10) (by omega) (by omega)).mp w; omega)]
      have om := open_iff hok
      by_cases d : P * (P - 1) / 2 ≤ j
      · have z0 : ms (rd_op x y P j) 8 = 0 := by
          rw [ms_zero (by omega)]
          intro q hq
          unfold rd_op
          by_cases z : q < P ∧ fb_ct (rd_ad x y j q) 8 + 1 < P
          · exact absurd d (om.mpr ⟨q, z⟩)
          · by_cases z1 : q < P
            · simp [z1, show ¬ fb_ct (rd_ad x y j q) 8 + 1 < P from fun w => z ⟨z1, w⟩]
            · simp [z1]
        rw [if_pos z0, if_neg (c := t p = 101 ∧ j < 10 ∧ ¬ P * (P - 1) / 2 ≤ j) (fun w => w.2.2 d)]
      · have z0 : ¬ ms (rd_op x y P j) 8 = 0 := by
          rw [ms_zero (by omega)]
          intro w
          obtain ⟨q, q1, q2⟩ := om.mp d
          have := w q (by omega)
          unfold rd_op at this
          simp [q1, q2] at this
        rw [if_neg z0, if_pos (c := t p = 101 ∧ j < 10 ∧ ¬ P * (P - 1) / 2 ≤ j) ⟨a, c, d⟩]
    · have : j = 10 := by omega
      rw [if_pos (show nI j = 10 by rw [this]; rfl), if_neg (c := t p = 101 ∧ j < 10 ∧ ¬ P * (P - 1) / 2 ≤ j) (fun w => c w.2.1)]
  · rw [if_neg (show ¬ nI (t p) = 101 from fun w => a ((nI_eq (b := 101) (by omega) (by omega)).mp w)), if_neg (c := t p = 101 ∧ j < 10 ∧ ¬ P * (P - 1) / 2 ≤ j) (fun w => a w.1)]
end TR
