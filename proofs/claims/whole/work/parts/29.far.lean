/-! the reference's distances by safe edges -/
section FA
variable {N : sN} {g : Nat → Nat} {M : dk_O} {w : Nat → Int32}
theorem m_unseenAt_L (hN : sp_wN N) (hP : sp_wP N g) (hM : sp_RN M N) (hw : sp_RP w g) {p : Nat} (hp : p < 100) : ∀ d i fu, i + d = sp_E N → d < fu → (∀ j, j < i → (sp_un g j && sp_en N j p) = false) → fX6_unseenAt_L2 M w fu (nI p) (nI i) = some (if sp_ua N g p < sp_E N then nI (sp_ua N g p) else -9)
  | 0, i, fu, h1, h2, hj => by
    have hE := hN.2.2.2.1
    obtain ⟨fu, rfl⟩ : ∃ k, fu = k + 1 := ⟨fu - 1, by omega⟩
    rw [fX6_unseenAt_L2, hM.2.2.1, if_pos (nI_le (by omega) (by omega)), if_neg]
    unfold sp_ua
    rw [first_none (fun k hk => hj k (by omega))]
    omega
  | d + 1, i, fu, h1, h2, hj => by
    have hE := hN.2.2.2.1
    have he := hP.2.2.2.2.2.1 i (by omega)
    obtain ⟨fu, rfl⟩ : ∃ k, fu = k + 1 := ⟨fu - 1, by omega⟩
    rw [fX6_unseenAt_L2, hM.2.2.1, if_neg (nI_ge (by omega) (by omega)), i_11, rd_w hw (by omega), sb_, nI_1]
    have next : (sp_un g i && sp_en N i p) = false → fX6_unseenAt_L2 M w fu (nI p) (nI (i + 1)) = some (if sp_ua N g p < sp_E N then nI (sp_ua N g p) else -9) := by
      intro hi
      refine m_unseenAt_L hN hP hM hw hp d (i + 1) fu (by omega) (by omega) (fun j hj2 => ?_)
      by_cases z : j = i
      · rw [z]; exact hi
      · exact hj j (by omega)
    by_cases a1 : g (11 + i) = 0
    · rw [if_pos (by rw [a1]; rfl), m_ends hN hM (by omega) hp, sb_]
      cases b : sp_en N i p
      · rw [show (if false = true then (1 : Int32) else 0) = 0 from rfl, if_pos rfl]
        exact next (by rw [b]; simp)
      · rw [show (if true = true then (1 : Int32) else 0) = 1 from rfl, if_neg (by decide)]
        have e1 : sp_ua N g p = i := by
          unfold sp_ua
          exact first_eq (by omega) (by rw [b]; simp [sp_un, a1]) hj
        rw [e1, if_pos (by omega)]
    · rw [if_neg (show ¬ nI (g (11 + i)) = 0 from fun z => a1 ((nI_eq (b := 0) (by omega) (by omega)).mp z))]
      exact next (by simp [sp_un, a1])
theorem m_unseenAt (hN : sp_wN N) (hP : sp_wP N g) (hM : sp_RN M N) (hw : sp_RP w g) {p : Nat} (hp : p < 100) : fX6_unseenAt M w (nI p) = some (if sp_ua N g p < sp_E N then nI (sp_ua N g p) else -9) := by
  have hE := hN.2.2.2.1
  unfold fX6_unseenAt
  exact m_unseenAt_L hN hP hM hw hp (sp_E N) 0 1000 (by omega) (by omega) (fun j hj => absurd hj (by omega))
/-- a row of eight numbers -/
def fr_R (r : Nat → Int32) (F : Nat → Nat) : Prop := ∀ q, q < 8 → r q = nI (F q)
theorem fr_up {r : Nat → Int32} {F : Nat → Nat} (h : fr_R r F) {k v : Nat} : fr_R (upd r k (nI v)) (sp_up F k v) := by
  intro j hj
  unfold upd sp_up
  by_cases e : j = k
  · rw [if_pos e, if_pos e]
  · rw [if_neg e, if_neg e]; exact h j hj
theorem fr_rd {r : Nat → Int32} {F : Nat → Nat} (h : fr_R r F) {k : Nat} (hk : k < 8) : dk_rd r 8 (nI k) = some (nI (F k)) := by
  rw [rd_nI hk (by omega), h k hk]
/-- what a distance row says truly -/
def fr_ok (N : sN) (g : Nat → Nat) (p : Nat) (F : Nat → Nat) : Prop := F p = 0 ∧ ∀ q, q < 8 → F q ≤ 99 ∧ (F q < 99 → sp_rs N g p (F q) q = true)
def fr_cp (N : sN) (g : Nat → Nat) (p t : Nat) (F : Nat → Nat) : Prop := ∀ q, q < 8 → sp_rs N g p t q = true → F q ≤ t
def fr_1 (N : sN) (e : Nat) (F : Nat → Nat) : Nat → Nat := sp_up F (sp_a N e) (min (F (sp_a N e)) (F (sp_b N e) + 1))
def fr_2 (N : sN) (e : Nat) (F : Nat → Nat) : Nat → Nat := sp_up (fr_1 N e F) (sp_b N e) (min (fr_1 N e F (sp_b N e)) (fr_1 N e F (sp_a N e) + 1))
theorem fr_one {F : Nat → Nat} {p x y : Nat} (hN : sp_wN N) (ha : sp_ad N g x y) (h : fr_ok N g p F) (hp : p < 8) : fr_ok N g p (sp_up F x (min (F x) (F y + 1))) := by
  obtain ⟨h1, h2⟩ := h
  have h8 := hN.2.1
  have hl := ad_lt hN ha
  constructor
  · by_cases e : p = x
    · rw [e, up_s]; rw [e] at h1; omega
    · rw [up_n e]; exact h1
  · intro q hq
    by_cases e : q = x
    · rw [e, up_s]
      have a1 := h2 x (by omega)
      have a2 := h2 y (by omega)
      refine ⟨by omega, fun z => ?_⟩
      by_cases c : F x ≤ F y + 1
      · rw [Nat.min_eq_left c]
        exact a1.2 (by omega)
      · rw [Nat.min_eq_right (by omega)]
        exact rs_s.mpr (Or.inr ⟨y, ha, a2.2 (by omega)⟩)
    · rw [up_n e]; exact h2 q hq
theorem up_le {F : Nat → Nat} {x v : Nat} (h : v ≤ F x) (q : Nat) : sp_up F x v q ≤ F q := by
  by_cases e : q = x
  · rw [e, up_s]; exact h
  · rw [up_n e]; omega
theorem fr_2_ok {F : Nat → Nat} {p e : Nat} (hN : sp_wN N) (he : e < sp_E N) (hs : sp_sf g e = true) (h : fr_ok N g p F) (hp : p < 8) : fr_ok N g p (fr_2 N e F) := by
  have ad : sp_ad N g (sp_a N e) (sp_b N e) := ⟨e, he, hs, by simp [sp_en], by simp [sp_en]⟩
  exact fr_one hN (ad_sym ad) (fr_one hN ad h hp) hp
theorem fr_2_le {F : Nat → Nat} {e : Nat} (q : Nat) : fr_2 N e F q ≤ F q := by
  have h1 : fr_1 N e F q ≤ F q := up_le (by omega) q
  have h2 : fr_2 N e F q ≤ fr_1 N e F q := up_le (by omega) q
  omega
theorem fr_2_near (hN : sp_wN N) {F : Nat → Nat} {e q r : Nat} (he : e < sp_E N) (h1 : sp_en N e q = true) (h2 : sp_en N e r = true) : fr_2 N e F q ≤ F r + 1 := by
  have hw := hN.2.2.2.2 e he
  have hne : sp_a N e ≠ sp_b N e := by omega
  have ea : fr_2 N e F (sp_a N e) = min (F (sp_a N e)) (F (sp_b N e) + 1) := by
    unfold fr_2
    rw [up_n hne]
    unfold fr_1
    rw [up_s]
  have eb : fr_2 N e F (sp_b N e) ≤ min (F (sp_b N e)) (F (sp_a N e) + 1) := by
    unfold fr_2
    rw [up_s]
    unfold fr_1
    rw [up_n (Ne.symm hne), up_s]
    omega
  rcases en_iff.mp h1 with z | z <;> rcases en_iff.mp h2 with y | y <;> subst z <;> subst y <;> omega
theorem m_relax (hN : sp_wN N) (hM : sp_RN M N) {k33 : Int32 → (Nat → Int32) → Option ((Nat → Int32))} {k44 : Int32 → Int32 → (Nat → Int32) → Option ((Nat → Int32))} {r : Nat → Int32} {F : Nat → Nat} {t e : Nat} (hr : fr_R r F) (he : e < sp_E N) (hF : ∀ q, q < 8 → F q ≤ 99) :
    ((dk_rd (M.2 7) 10 (nI e)).bind fun d74 => (dk_rd (M.2 8) 10 (nI e)).bind fun d85 => (dk_rd r 8 d85).bind fun d86 => (dk_rd (M.2 7) 10 (nI e)).bind fun d99 => (dk_rd r 8 d99).bind fun d100 =>
      if d100 ≤ (d86 + 1) then ((dk_rd (M.2 7) 10 (nI e)).bind fun d131 => (dk_rd r 8 d131).bind fun d132 => fX6_layFar_L133 M w k33 k44 (nI t) (nI e) d74 d132 r) else
      (dk_rd (M.2 8) 10 (nI e)).bind fun d114 => (dk_rd r 8 d114).bind fun d115 => fX6_layFar_L133 M w k33 k44 (nI t) (nI e) d74 (d115 + 1) r) =
    k44 (nI t) (nI (e + 1)) (upd (upd r (sp_a N e) (nI (min (F (sp_a N e)) (F (sp_b N e) + 1)))) (sp_b N e) (nI (min (fr_1 N e F (sp_b N e)) (fr_1 N e F (sp_a N e) + 1)))) := by
  have hE := hN.2.2.2.1
  have h8 := hN.2.1
  have hw := hN.2.2.2.2 e he
  have fa := hF (sp_a N e) (by omega)
  have fb := hF (sp_b N e) (by omega)
  have r7 : dk_rd (M.2 7) 10 (nI e) = some (nI (sp_a N e)) := by rw [rd_nI (by omega) (by omega), (hM.2.2.2 e he).1]
  have r8 : dk_rd (M.2 8) 10 (nI e) = some (nI (sp_b N e)) := by rw [rd_nI (by omega) (by omega), (hM.2.2.2 e he).2]
  have hr1 : fr_R (upd r (sp_a N e) (nI (min (F (sp_a N e)) (F (sp_b N e) + 1)))) (fr_1 N e F) := fr_up hr
  have l133 : fX6_layFar_L133 M w k33 k44 (nI t) (nI e) (nI (sp_a N e)) (nI (min (F (sp_a N e)) (F (sp_b N e) + 1))) r = k44 (nI t) (nI (e + 1)) (upd (upd r (sp_a N e) (nI (min (F (sp_a N e)) (F (sp_b N e) + 1)))) (sp_b N e) (nI (min (fr_1 N e F (sp_b N e)) (fr_1 N e F (sp_a N e) + 1)))) := by
    have g1 : fr_1 N e F (sp_a N e) ≤ 99 := by unfold fr_1; rw [up_s]; omega
    have g2 : fr_1 N e F (sp_b N e) ≤ 99 := by unfold fr_1; rw [up_n (by omega)]; omega
    unfold fX6_layFar_L133
    rw [wr_nI (by omega) (by omega), sb_, r8, sb_, r7, sb_, fr_rd hr1 (by omega), sb_, sb_, fr_rd hr1 (by omega), sb_, sb_, sb_, nI_1]
    have fin : ∀ v, v = min (fr_1 N e F (sp_b N e)) (fr_1 N e F (sp_a N e) + 1) → fX6_layFar_L203 M w k33 k44 (nI t) (nI e) (nI (sp_b N e)) (nI v) (upd r (sp_a N e) (nI (min (F (sp_a N e)) (F (sp_b N e) + 1)))) = k44 (nI t) (nI (e + 1)) (upd (upd r (sp_a N e) (nI (min (F (sp_a N e)) (F (sp_b N e) + 1)))) (sp_b N e) (nI (min (fr_1 N e F (sp_b N e)) (fr_1 N e F (sp_a N e) + 1)))) := by
      intro v hv
      unfold fX6_layFar_L203
      rw [wr_nI (by omega) (by omega), sb_, nI_1, hv]
    by_cases c : fr_1 N e F (sp_b N e) ≤ fr_1 N e F (sp_a N e) + 1
    · rw [if_pos (nI_le c (by omega)), fr_rd hr1 (by omega), sb_]
      exact fin _ (by omega)
    · rw [if_neg (nI_ge (by omega) (by omega)), fr_rd hr1 (by omega), sb_, nI_1]
      exact fin _ (by omega)
  rw [r7, sb_, r8, sb_, fr_rd hr (by omega), sb_, sb_, fr_rd hr (by omega), sb_, nI_1, ← l133]
  by_cases c : F (sp_a N e) ≤ F (sp_b N e) + 1
  · rw [if_pos (nI_le c (by omega)), sb_, fr_rd hr (by omega), sb_, Nat.min_eq_left c]
  · rw [if_neg (nI_ge (by omega) (by omega)), sb_, fr_rd hr (by omega), sb_, nI_1, Nat.min_eq_right (by omega)]
end FA
