/-! the book of what was done -/
section BK
variable {N : sN} {g : Nat → Nat} {T C M : dk_O} {CB : Nat → dk_O} {k : Nat} {b : Nat → Nat → Nat}
def bk_C (N : sN) (C : dk_O) (CB : Nat → dk_O) (k : Nat) (b : Nat → Nat → Nat) : Prop := k ≤ 14 ∧ C.1 1 = nI k ∧ ∀ j, j < k → sp_RT (CB j) N (b j)
def bk_M (M : dk_O) (k : Nat) (b : Nat → Nat → Nat) : Prop := k ≤ 14 ∧ M.1 19 = nI k ∧ ∀ j, j < k → ∀ i, i < 21 → M.2 18 (21 * j + i) = nI (b j i)
/-- a page more -/
def bk_k (k : Nat) : Nat := if k < 14 then k + 1 else 14
def bk_b (k : Nat) (b : Nat → Nat → Nat) (g : Nat → Nat) : Nat → Nat → Nat := if k < 14 then (fun j => if j = k then g else b j) else (fun j => if j = 13 then g else b (j + 1))
theorem rem_k {C : dk_O} {CB : Nat → dk_O} {k : Nat} {b : Nat → Nat → Nat} (hk : k < 14) (hC : bk_C N C CB k b) (hT : sp_RT T N g) : ∃ CB', fX0_remember_k C CB T = some (upd C.1 1 (nI (k + 1)), CB') ∧ bk_C N (upd C.1 1 (nI (k + 1)), C.2) CB' (k + 1) (fun j => if j = k then g else b j) := by
  obtain ⟨I, a1, a2, y1, y2⟩ := q_become (T := CB k) hT
  have e0 : (nI k).toInt = (k : Int) := nI_toInt (by omega)
  have e1 : (nI k).toNatClampNeg = k := nI_clamp (by omega)
  refine ⟨dk_upB CB k (I, dk_upA (dk_upA (CB k).2 1 a1) 2 a2), ?_, ?_⟩
  · unfold fX0_remember_k
    rw [hC.2.1, if_pos (by rw [e0]; omega), e1, y1, sb_, nI_1]
  · refine ⟨by omega, by show upd C.1 1 (nI (k + 1)) 1 = _; rw [upd_s], fun j hj => ?_⟩
    by_cases z : j = k
    · dsimp only
      rw [z, if_pos rfl]
      have : dk_upB CB k (I, dk_upA (dk_upA (CB k).2 1 a1) 2 a2) k = (I, dk_upA (dk_upA (CB k).2 1 a1) 2 a2) := if_pos rfl
      rw [this]
      exact y2
    · dsimp only
      rw [if_neg z]
      have : dk_upB CB k (I, dk_upA (dk_upA (CB k).2 1 a1) 2 a2) j = CB j := if_neg z
      rw [this]
      exact hC.2.2 j (by omega)
theorem q_remember (hC : bk_C N C CB k b) (hT : sp_RT T N g) : ∃ I CB', fX0_remember C CB T = some (I, CB') ∧ bk_C N (I, C.2) CB' (bk_k k) (bk_b k b g) := by
  have h14 := hC.1
  unfold fX0_remember bk_k bk_b
  rw [hC.2.1]
  by_cases a : k < 14
  · rw [if_pos (show nI k < 14 from nI_lt (b := 14) a (by omega)), if_pos a, if_pos a]
    obtain ⟨CB', y1, y2⟩ := rem_k a hC hT
    exact ⟨_, CB', y1, y2⟩
  · rw [if_neg (show ¬ nI k < 14 from nI_nlt (b := 14) (by omega) (by omega)), if_neg a, if_neg a]
    have hk : k = 14 := by omega
    have h13 : bk_C N (upd C.1 1 13, C.2) (fun k => if k = 13 then CB 0 else CB (k + 1)) 13 (fun j => b (j + 1)) := by
      refine ⟨by omega, rfl, fun j hj => ?_⟩
      dsimp only
      rw [if_neg (by omega)]
      exact hC.2.2 (j + 1) (by omega)
    obtain ⟨CB', y1, y2⟩ := rem_k (k := 13) (by omega) h13 hT
    refine ⟨_, CB', ?_, y2⟩
    unfold fX0_forgetFirst
    rw [sb_]
    exact y1
theorem m_note51 {w : Nat → Int32} (hw : w = M.2 16) (hg : sp_RP w g) {J : Nat → Int32} {k : Nat} (hk : k < 14) (hJ : J 19 = nI k) {b : Nat → Nat → Nat} : ∀ d i fu (B : Nat → Int32), i + d = 21 → d < fu → (∀ j, j < k → ∀ i, i < 21 → B (21 * j + i) = nI (b j i)) → (∀ l, l < i → B (21 * k + l) = nI (g l)) → ∃ B', fX6_note_L51 M fu (nI i) J B = some (upd J 19 (nI (k + 1)), B') ∧ ∀ j, j < k + 1 → ∀ i, i < 21 → B' (21 * j + i) = nI ((fun j => if j = k then g else b j) j i)
  | 0, i, fu, B, h1, h2, hb, hl => by
    obtain ⟨fu, rfl⟩ : ∃ k, fu = k + 1 := ⟨fu - 1, by omega⟩
    rw [fX6_note_L51, if_pos (show (21 : Int32) ≤ nI i from nI_le (a := 21) (by omega) (by omega)), hJ, nI_1]
    refine ⟨B, rfl, fun j hj l hl2 => ?_⟩
    dsimp only
    by_cases z : j = k
    · rw [z, if_pos rfl]; exact hl l (by omega)
    · rw [if_neg z]; exact hb j (by omega) l hl2
  | d + 1, i, fu, B, h1, h2, hb, hl => by
    obtain ⟨fu, rfl⟩ : ∃ k, fu = k + 1 := ⟨fu - 1, by omega⟩
    have e : (21 : Int32) * nI k + nI i = nI (21 * k + i) := by
      rw [show (21 : Int32) * nI k = nI (21 * k) from pk_mul 21 k, nI_add]
    rw [fX6_note_L51, if_neg (show ¬ (21 : Int32) ≤ nI i from nI_ge (b := 21) (by omega) (by omega)), ← hw, rd_w hg (by omega), sb_, hJ, e, wr_nI (by omega) (by omega), sb_, nI_1]
    refine m_note51 hw hg hk hJ d (i + 1) fu _ (by omega) (by omega) (fun j hj l hl2 => ?_) (fun l hl2 => ?_)
    · rw [upd_n (by omega)]; exact hb j hj l hl2
    · by_cases z : l = i
      · rw [z, upd_s]
      · rw [upd_n (by omega)]; exact hl l (by omega)
theorem m_note11 {J : Nat → Int32} {b : Nat → Nat → Nat} {B0 : Nat → Int32} (h0 : ∀ j, j < 14 → ∀ i, i < 21 → B0 (21 * j + i) = nI (b j i)) : ∀ d i fu (B : Nat → Int32), i + d = 273 → d < fu → (∀ l, l < i → B l = B0 (l + 21)) → (∀ l, i ≤ l → B l = B0 l) → ∃ B', fX6_note_L11 M fu (nI i) J B = fX6_note_L51 M 1000 0 (upd J 19 (J 19 - 1)) B' ∧ ∀ j, j < 13 → ∀ i, i < 21 → B' (21 * j + i) = nI (b (j + 1) i)
  | 0, i, fu, B, h1, h2, hb, hl => by
    obtain ⟨fu, rfl⟩ : ∃ k, fu = k + 1 := ⟨fu - 1, by omega⟩
    rw [fX6_note_L11, if_pos (show (273 : Int32) ≤ nI i from nI_le (a := 273) (by omega) (by omega))]
    refine ⟨B, rfl, fun j hj l hl2 => ?_⟩
    rw [hb _ (by omega), ← h0 (j + 1) (by omega) l hl2]
    congr 1
    omega
  | d + 1, i, fu, B, h1, h2, hb, hl => by
    obtain ⟨fu, rfl⟩ : ∃ k, fu = k + 1 := ⟨fu - 1, by omega⟩
    have e : nI i + (21 : Int32) = nI (i + 21) := by
      rw [show (21 : Int32) = nI 21 from rfl, nI_add]
    rw [fX6_note_L11, if_neg (show ¬ (273 : Int32) ≤ nI i from nI_ge (b := 273) (by omega) (by omega)), e, rd_nI (by omega) (by omega), sb_, wr_nI (by omega) (by omega), sb_, nI_1]
    refine m_note11 h0 d (i + 1) fu _ (by omega) (by omega) (fun l hl2 => ?_) (fun l hl2 => ?_)
    · by_cases z : l = i
      · rw [z, upd_s, hl _ (by omega)]
      · rw [upd_n z]; exact hb l (by omega)
    · rw [upd_n (by omega)]; exact hl l (by omega)
theorem m_note (hB : bk_M M k b) (hw : sp_RP (M.2 16) g) : ∃ J B, fX6_note M = some (J, B) ∧ (∀ i, i ≠ 19 → J i = M.1 i) ∧ bk_M (J, dk_upA M.2 18 B) (bk_k k) (bk_b k b g) := by
  have h14 := hB.1
  unfold fX6_note bk_k bk_b
  rw [hB.2.1]
  by_cases a : k < 14
  · rw [if_neg (show ¬ nI k = 14 from fun z => by have := (nI_eq (b := 14) (by omega) (by omega)).mp z; omega), if_pos a, if_pos a]
    obtain ⟨B', y1, y2⟩ := m_note51 (M := M) rfl hw a hB.2.1 (b := b) 21 0 1000 (M.2 18) (by omega) (by omega) hB.2.2 (fun l h => absurd h (by omega))
    refine ⟨_, B', y1, fun i hi => upd_n hi, by omega, (by show upd M.1 19 (nI (k + 1)) 19 = _; exact upd_s), ?_⟩
    exact y2
  · have hk : k = 14 := by omega
    rw [if_pos (by rw [hk]; rfl), if_neg a, if_neg a]
    obtain ⟨B1, x1, x2⟩ := m_note11 (M := M) (J := M.1) (b := b) (B0 := M.2 18) (fun j hj => hB.2.2 j (by omega)) 273 0 1000 (M.2 18) (by omega) (by omega) (fun l h => absurd h (by omega)) (fun l _ => rfl)
    have h19 : upd M.1 19 (M.1 19 - 1) 19 = nI 13 := by rw [upd_s, hB.2.1, hk]; rfl
    obtain ⟨B', y1, y2⟩ := m_note51 (M := M) rfl hw (k := 13) (by omega) h19 (b := fun j => b (j + 1)) 21 0 1000 B1 (by omega) (by omega) x2 (fun l h => absurd h (by omega))
    refine ⟨_, B', x1.trans y1, fun i hi => ?_, by omega, (by show upd (upd M.1 19 (M.1 19 - 1)) 19 (nI (13 + 1)) 19 = _; exact upd_s), ?_⟩
    · rw [upd_n hi, upd_n hi]
    · exact y2
end BK
