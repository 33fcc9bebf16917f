/-! reading a text, both together -/
section TB
variable {x y : Nat → Nat} {P h o s j n : Nat} {t : Nat → Nat} {I a5 a6 a8 J b14 b15 : Nat → Int32} {X D M G : dk_O}
def rd_fr (M : dk_O) (J : Nat → Int32) : Prop := ∀ i, i ≠ 3 → i ≠ 9 → i ≠ 10 → i ≠ 11 → i ≠ 12 → i ≠ 13 → J i = M.1 i
def rd_X (X : dk_O) (n : Nat) (t : Nat → Nat) : Prop := n ≤ 40 ∧ X.1 1 = nI n ∧ ∀ i, i < n → X.2 0 i = nI (t i)
theorem c_go (hX : rd_X X n t) {p fu : Nat} (hp : p < n) {f5 f6 f8 I' : Nat → Int32} (hk : fX1_takes (I, dk_upA (dk_upA (dk_upA D.2 5 a5) 6 a6) 8 a8) (nI p) (nI (t p)) = some (1, I', f5, f6, f8)) : fX4_readInto_L6 X D (fu + 1) (nI p) I a5 a6 a8 = fX4_readInto_L6 X D fu (nI (p + 1)) I' f5 f6 f8 := by
  have hn := hX.1
  rw [fX4_readInto_L6, hX.2.1, if_neg (nI_ge hp (by omega)), rd_nI (by omega) (by omega), sb_, hX.2.2 p hp, hk, sb_]
  dsimp only
  rw [if_neg one_ne, nI_1]
theorem c_no (hX : rd_X X n t) {p fu : Nat} (hp : p < n) {f5 f6 f8 I' : Nat → Int32} (hk : fX1_takes (I, dk_upA (dk_upA (dk_upA D.2 5 a5) 6 a6) 8 a8) (nI p) (nI (t p)) = some (0, I', f5, f6, f8)) : fX4_readInto_L6 X D (fu + 1) (nI p) I a5 a6 a8 = some (nI p, I', f5, f6, f8) := by
  have hn := hX.1
  rw [fX4_readInto_L6, hX.2.1, if_neg (nI_ge hp (by omega)), rd_nI (by omega) (by omega), sb_, hX.2.2 p hp, hk, sb_]
  dsimp only
  rw [if_pos rfl]
theorem may_all : ∀ n, n < 41 → fX1_mayEndAt (nI n) = some (if 5 ≤ n ∧ (n - 5) % 3 = 0 then 1 else 0) := by decide +kernel
theorem c_end (hX : rd_X X n t) {fu : Nat} : fX4_readInto_L6 X D (fu + 1) (nI n) I a5 a6 a8 = some (if 5 ≤ n ∧ (n - 5) % 3 = 0 then -9 else nI n, I, a5, a6, a8) := by
  have hn := hX.1
  rw [fX4_readInto_L6, hX.2.1, if_pos (nI_le (Nat.le_refl _) (by omega)), may_all n (by omega), sb_]
  by_cases q : 5 ≤ n ∧ (n - 5) % 3 = 0
  · rw [if_pos q, if_neg one_ne, if_pos q]
  · rw [if_neg q, if_pos rfl, if_neg q]
theorem c_takes {p : Nat} (hp : 5 ≤ p) (hp2 : p < 100) {v : Int32} {r : Int32} {f5 f6 f8 I' : Nat → Int32} (hk : fX1_takesOfEdge G (nI ((p - 5) % 3)) v = some (r, I', f5, f6, f8)) (hr : r = 0 ∨ r = 1) : fX1_takes G (nI p) v = some (r, I', f5, f6, f8) := by
  unfold fX1_takes
  have e : ∀ k, k < 5 → ¬ nI p = nI k := fun k hk w => by have := (nI_eq (by omega) (by omega)).mp w; omega
  rw [if_neg (show ¬ nI p = 0 from e 0 (by omega)), if_neg (show ¬ nI p = 1 from e 1 (by omega)), if_neg (show ¬ nI p = 2 from e 2 (by omega)), if_neg (show ¬ nI p = 3 from e 3 (by omega)), if_neg (show ¬ nI p = 4 from e 4 (by omega)), show nI p - 5 = nI (p - 5) from pk_sub (b := 5) (by omega), show nI (p - 5) - nI (p - 5) / 3 * 3 = nI ((p - 5) % 3) from pk_rem (d := 3) (by omega) (by omega) (by omega), hk, sb_]
  dsimp only
  rw [if_pos hr]
/-- from an edge's first letter on: both end alike -/
def ed_S (X D M : dk_O) (n P h o s j fuC fuM : Nat) : Prop := ∀ (I a5 a6 a8 J b14 b15 : Nat → Int32) (x y : Nat → Nat), 5 + 3 * j ≤ n → rd_ok P h o s j x y → rd_C I a5 a6 a8 P h o s j x y → rd_M J b14 b15 P h o s j x y → J 3 = nI (5 + 3 * j) → rd_fr M J → ∃ A I' f5 f6 f8 J' g14 g15, fX4_readInto_L6 X D fuC (nI (5 + 3 * j)) I a5 a6 a8 = some (A, I', f5, f6, f8) ∧ fX6_readNet_L153 M fuM J b14 b15 = some (A, J', g14, g15) ∧ rd_fr M J' ∧ ((A = -9 ∧ ∃ j' x' y', rd_ok P h o s j' x' y' ∧ rd_C I' f5 f6 f8 P h o s j' x' y' ∧ rd_M J' g14 g15 P h o s j' x' y') ∨ ∃ p, p < 100 ∧ A = nI p)
theorem rd_M3 {v : Int32} (hM : rd_M J b14 b15 P h o s j x y) : rd_M (upd J 3 v) b14 b15 P h o s j x y := by
  obtain ⟨h1, h2, h3, h4, h5, h6⟩ := hM
  exact ⟨by rw [upd_n (by omega)]; exact h1, by rw [upd_n (by omega)]; exact h2, by rw [upd_n (by omega)]; exact h3, by rw [upd_n (by omega)]; exact h4, by rw [upd_n (by omega)]; exact h5, h6⟩
theorem rd_fr3 {v : Int32} (hf : rd_fr M J) : rd_fr M (upd J 3 v) := fun i h3 h9 h10 h11 h12 h13 => by rw [upd_n h3]; exact hf i h3 h9 h10 h11 h12 h13
theorem m153_stop {fu : Nat} {J' g14 g15 : Nat → Int32} {p : Nat} (hT : rd_T (J, M.2) n t) (hp : p < n) (h3 : J 3 = nI p) (hk : fX6_readEdge (J, dk_upA (dk_upA M.2 14 b14) 15 b15) = some (0, J', g14, g15)) : fX6_readNet_L153 M (fu + 1) J b14 b15 = some (J' 3, J', g14, g15) := by
  have hn := hT.1
  have h2 : J 2 = nI n := hT.2.1
  rw [fX6_readNet_L153, h2, h3, if_neg (nI_ge hp (by omega)), hk, sb_]
  dsimp only
  rw [if_pos rfl]
theorem m153_go {fu : Nat} {J' g14 g15 : Nat → Int32} {p : Nat} (hT : rd_T (J, M.2) n t) (hp : p < n) (h3 : J 3 = nI p) (hk : fX6_readEdge (J, dk_upA (dk_upA M.2 14 b14) 15 b15) = some (1, J', g14, g15)) : fX6_readNet_L153 M (fu + 1) J b14 b15 = fX6_readNet_L153 M fu J' g14 g15 := by
  have hn := hT.1
  have h2 : J 2 = nI n := hT.2.1
  rw [fX6_readNet_L153, h2, h3, if_neg (nI_ge hp (by omega)), hk, sb_]
  dsimp only
  rw [if_neg one_ne]
theorem op_t {f : Nat} (h1 : f < P) (h2 : fb_ct (rd_ad x y j f) 8 + 1 < P) : rd_op x y P j f = true := by unfold rd_op; simp [h1, h2]
theorem op_i {f : Nat} (hh : rd_op x y P j f = true) : f < P ∧ fb_ct (rd_ad x y j f) 8 + 1 < P := by
  unfold rd_op at hh
  simpa using hh
theorem ap_t {a f : Nat} (h1 : f < P) (h2 : a ≠ f) (h3 : rd_ad x y j a f = false) : rd_ap x y P j a f = true := by
  unfold rd_ap
  simp [h1, h3, show ¬ f = a from fun w => h2 w.symm]
theorem ap_i {a f : Nat} (hh : rd_ap x y P j a f = true) : f < P ∧ a ≠ f ∧ rd_ad x y j a f = false := by
  unfold rd_ap at hh
  simp only [Bool.and_eq_true, decide_eq_true_eq, Bool.not_eq_true', decide_eq_false_iff_not] at hh
  exact ⟨hh.1, fun w => hh.2.1 w.symm, hh.2.2⟩
theorem ed_step (hX : rd_X X n t) (hT0 : rd_T M n t) (hj : j ≤ 10) {fuC fuM : Nat} (rec : j < 10 → ed_S X D M n P h o s (j + 1) (fuC + 1) (fuM + 1)) : ed_S X D M n P h o s j (fuC + 4) (fuM + 2) := by
  intro I a5 a6 a8 J b14 b15 x y hp hok hC hM h3 hf
  have hn := hX.1
  have k2 := hok.2.1
  have k1 := hok.1
  have h2 : J 2 = nI n := (hf 2 (by omega) (by omega) (by omega) (by omega) (by omega) (by omega)).trans hT0.2.1
  have hT : rd_T (J, M.2) n t := ⟨hT0.1, h2, hT0.2.2⟩
  by_cases e : n = 5 + 3 * j
  · refine ⟨-9, I, a5, a6, a8, J, b14, b15, ?_, ?_, hf, Or.inl ⟨rfl, j, x, y, hok, hC, hM⟩⟩
    · have := c_end (D := D) (I := I) (a5 := a5) (a6 := a6) (a8 := a8) hX (fu := fuC + 3)
      rw [if_pos ⟨by omega, by omega⟩] at this
      rw [← e]
      exact this
    · rw [fX6_readNet_L153, h2, h3, if_pos (nI_le (by omega) (by omega))]
  · have hp0 : 5 + 3 * j < n := by omega
    have me := m_edge hok hM hT hp0 h3
    have ce := c_e (G := (I, dk_upA (dk_upA (dk_upA D.2 5 a5) 6 a6) 8 a8)) hok hC (hT0.2.2 _ hp0).1
    have m0 : (5 + 3 * j - 5) % 3 = 0 := by omega
    have m1 : (5 + 3 * j + 1 - 5) % 3 = 1 := by omega
    have m2 : (5 + 3 * j + 1 + 1 - 5) % 3 = 2 := by omega
    by_cases cd : t (5 + 3 * j) = 101 ∧ j < 10 ∧ ¬ P * (P - 1) / 2 ≤ j
    · rw [if_pos cd] at me ce
      have ce' : fX1_takesOfEdge (I, dk_upA (dk_upA (dk_upA D.2 5 a5) 6 a6) 8 a8) 0 (nI (t (5 + 3 * j))) = some (1, I, a5, a6, a8) := ce
      have g0 := c_go (D := D) (fu := fuC + 3) hX hp0 (c_takes (by omega) (by omega) (r := 1) (by rw [m0]; exact ce') (Or.inr rfl))
      have hj9 := cd.2.1
      have hM1 := rd_M3 (v := nI (5 + 3 * j + 1)) hM
      have hf1 := rd_fr3 (v := nI (5 + 3 * j + 1)) hf
      have hT1 : rd_T (upd J 3 (nI (5 + 3 * j + 1)), dk_upA (dk_upA (dk_upA (dk_upA M.2 14 b14) 15 b15) 14 b14) 15 b15) n t := ⟨hT0.1, (by dsimp only; rw [upd_n (by omega)]; exact h2), hT0.2.2⟩
      -- where the second or third letter fails, the reference stops there
      have stop : ∀ J' : Nat → Int32, rd_fr M J' → ∀ p, p < 100 → J' 3 = nI p → fX6_readEdge (J, dk_upA (dk_upA M.2 14 b14) 15 b15) = some (0, J', b14, b15) → ∀ I' f5 f6 f8 : Nat → Int32, fX4_readInto_L6 X D (fuC + 4) (nI (5 + 3 * j)) I a5 a6 a8 = some (nI p, I', f5, f6, f8) → ∃ A I' f5 f6 f8 J' g14 g15, fX4_readInto_L6 X D (fuC + 4) (nI (5 + 3 * j)) I a5 a6 a8 = some (A, I', f5, f6, f8) ∧ fX6_readNet_L153 M (fuM + 2) J b14 b15 = some (A, J', g14, g15) ∧ rd_fr M J' ∧ ((A = -9 ∧ ∃ j' x' y', rd_ok P h o s j' x' y' ∧ rd_C I' f5 f6 f8 P h o s j' x' y' ∧ rd_M J' g14 g15 P h o s j' x' y') ∨ ∃ p, p < 100 ∧ A = nI p) := by
        intro J' hJ p hp hJ3 hk I' f5 f6 f8 hc
        have q := m153_stop (fu := fuM + 1) hT hp0 h3 hk
        rw [hJ3] at q
        exact ⟨nI p, I', f5, f6, f8, J', b14, b15, hc, q, hJ, Or.inr ⟨p, hp, rfl⟩⟩
      by_cases e1 : n = 5 + 3 * j + 1
      · rw [m_fig_end hT1 (p := 5 + 3 * j + 1) (by omega) (by omega) (by dsimp only; exact upd_s), sb_] at me
        dsimp only at me
        rw [if_pos rfl] at me
        unfold fX6_readEdge_L101 at me
        rw [if_pos rfl] at me
        have ce1 := c_end (D := D) (I := I) (a5 := a5) (a6 := a6) (a8 := a8) hX (fu := fuC + 2)
        rw [if_neg (by omega), e1] at ce1
        exact stop _ hf1 (5 + 3 * j + 1) (by omega) upd_s me _ _ _ _ (g0.trans (by rw [← e1] at ce1 ⊢; exact ce1))
      · have hp1 : 5 + 3 * j + 1 < n := by omega
        have fg := m_fig hT1 hp1 (by dsimp only; exact upd_s) (S := rd_op x y P j) (k := 8) (by omega)
        rcases c_1 (G := (I, dk_upA (dk_upA (dk_upA D.2 5 a5) 6 a6) 8 a8)) hok hC (hT0.2.2 _ hp1).1 with ⟨a, q1, q2, q3, q4⟩ | ⟨q1, I1, q4⟩
        · have q4' : fX1_takesOfEdge (I, dk_upA (dk_upA (dk_upA D.2 5 a5) 6 a6) 8 a8) 1 (nI (t (5 + 3 * j + 1))) = some (1, upd I 7 (nI a), a5, a6, a8) := q4
          have g1 := c_go (D := D) (fu := fuC + 2) hX hp1 (c_takes (by omega) (by omega) (r := 1) (by rw [m1]; exact q4') (Or.inr rfl))
          have fg' : fX6_figure (upd J 3 (nI (5 + 3 * j + 1)), dk_upA (dk_upA (dk_upA (dk_upA M.2 14 b14) 15 b15) 14 b14) 15 b15) (ms (rd_op x y P j) 8) = some (nI a, upd (upd J 3 (nI (5 + 3 * j + 1))) 3 (nI (5 + 3 * j + 1 + 1))) := by
            rcases fg with ⟨f, w1, w2, w3, w4⟩ | ⟨w1, w2⟩
            · rw [show f = a by omega] at w4
              exact w4
            · have := w1 a q1 (by omega)
              rw [op_t q2 q3] at this
              cases this
          have hM2 := rd_M3 (v := nI (5 + 3 * j + 1 + 1)) hM1
          have hf2 := rd_fr3 (v := nI (5 + 3 * j + 1 + 1)) hf1
          have hT2 : rd_T (upd (upd J 3 (nI (5 + 3 * j + 1))) 3 (nI (5 + 3 * j + 1 + 1)), dk_upA (dk_upA (dk_upA (dk_upA M.2 14 b14) 15 b15) 14 b14) 15 b15) n t := ⟨hT0.1, (by dsimp only; rw [upd_n (by omega), upd_n (by omega)]; exact h2), hT0.2.2⟩
          rw [fg', sb_] at me
          dsimp only at me
          rw [if_neg (m9_ne (by omega)), m_apart (M := (upd (upd J 3 (nI (5 + 3 * j + 1))) 3 (nI (5 + 3 * j + 1 + 1)), dk_upA (dk_upA (dk_upA (dk_upA M.2 14 b14) 15 b15) 14 b14) 15 b15)) hok hM2 (p := a) (by omega), sb_] at me
          by_cases e2 : n = 5 + 3 * j + 1 + 1
          · rw [m_fig_end hT2 (p := 5 + 3 * j + 1 + 1) (by omega) (by omega) (by dsimp only; exact upd_s), sb_] at me
            dsimp only at me
            unfold fX6_readEdge_L101 at me
            rw [if_pos rfl] at me
            have ce2 := c_end (D := D) (I := upd I 7 (nI a)) (a5 := a5) (a6 := a6) (a8 := a8) hX (fu := fuC + 1)
            rw [if_neg (by omega), e2] at ce2
            exact stop _ hf2 (5 + 3 * j + 1 + 1) (by omega) upd_s me _ _ _ _ (g0.trans (g1.trans (by rw [← e2] at ce2 ⊢; exact ce2)))
          · have hp2 : 5 + 3 * j + 1 + 1 < n := by omega
            have fg2 := m_fig hT2 hp2 (by dsimp only; exact upd_s) (S := rd_ap x y P j a) (k := 8) (by omega)
            have hC2 : rd_C (upd I 7 (nI a)) a5 a6 a8 P h o s j x y := by
              obtain ⟨z0, z1, z2, z3, z4, z5⟩ := hC
              exact ⟨by rw [upd_n (by omega)]; exact z0, by rw [upd_n (by omega)]; exact z1, by rw [upd_n (by omega)]; exact z2, by rw [upd_n (by omega)]; exact z3, by rw [upd_n (by omega)]; exact z4, z5⟩
            rcases c_2 (G := (upd I 7 (nI a), dk_upA (dk_upA (dk_upA D.2 5 a5) 6 a6) 8 a8)) hok hj9 hC2 q2 (by dsimp only; exact upd_s) (hT0.2.2 _ hp2).1 with ⟨f, I2, f5, f6, f8, r1, r2, r3, r4, r5, r6⟩ | ⟨r1, I2, f5, f6, f8, r5⟩
            · have g2 := c_go (D := D) (fu := fuC + 1) hX hp2 (c_takes (by omega) (by omega) (r := 1) (by rw [m2]; exact r5) (Or.inr rfl))
              have fg3 : fX6_figure (upd (upd J 3 (nI (5 + 3 * j + 1))) 3 (nI (5 + 3 * j + 1 + 1)), dk_upA (dk_upA (dk_upA (dk_upA M.2 14 b14) 15 b15) 14 b14) 15 b15) (ms (rd_ap x y P j a) 8) = some (nI f, upd (upd (upd J 3 (nI (5 + 3 * j + 1))) 3 (nI (5 + 3 * j + 1 + 1))) 3 (nI (5 + 3 * j + 1 + 1 + 1))) := by
                rcases fg2 with ⟨f', w1, w2, w3, w4⟩ | ⟨w1, w2⟩
                · rw [show f' = f by omega] at w4
                  exact w4
                · have := w1 f r1 (by omega)
                  rw [ap_t r2 r3 r4] at this
                  cases this
              have hM3 := rd_M3 (v := nI (5 + 3 * j + 1 + 1 + 1)) hM2
              have hf3 := rd_fr3 (v := nI (5 + 3 * j + 1 + 1 + 1)) hf2
              rw [fg3, sb_] at me
              dsimp only at me
              unfold fX6_readEdge_L101 at me
              rw [if_neg (m9_ne (by omega)), hM3.2.2.2.2.1, wr_nI (by omega) (by omega), sb_, wr_nI (by omega) (by omega), sb_, nI_1] at me
              have q := m153_go (fu := fuM + 1) hT hp0 h3 me
              have hok2 := ok_more hok hj9 q2 r2 r3 r4
              have hM4 : rd_M (upd (upd (upd (upd J 3 (nI (5 + 3 * j + 1))) 3 (nI (5 + 3 * j + 1 + 1))) 3 (nI (5 + 3 * j + 1 + 1 + 1))) 13 (nI (j + 1))) (upd b14 j (nI a)) (upd b15 j (nI f)) P h o s (j + 1) (rd_x x j a) (rd_x y j f) := by
                obtain ⟨z0, z1, z2, z3, z4, z5⟩ := hM3
                refine ⟨by rw [upd_n (by omega)]; exact z0, by rw [upd_n (by omega)]; exact z1, by rw [upd_n (by omega)]; exact z2, by rw [upd_n (by omega)]; exact z3, by rw [upd_s], fun e he => ?_⟩
                by_cases z : e = j
                · rw [z, upd_s, upd_s, rx_j, rx_j]
                  exact ⟨rfl, rfl⟩
                · rw [upd_n z, upd_n z, rx_n z, rx_n z]
                  exact z5 e (by omega)
              have hf4 : rd_fr M (upd (upd (upd (upd J 3 (nI (5 + 3 * j + 1))) 3 (nI (5 + 3 * j + 1 + 1))) 3 (nI (5 + 3 * j + 1 + 1 + 1))) 13 (nI (j + 1))) := fun i i3 i9 i10 i11 i12 i13 => by rw [upd_n i13]; exact hf3 i i3 i9 i10 i11 i12 i13
              have e33 : upd (upd (upd (upd J 3 (nI (5 + 3 * j + 1))) 3 (nI (5 + 3 * j + 1 + 1))) 3 (nI (5 + 3 * j + 1 + 1 + 1))) 13 (nI (j + 1)) 3 = nI (5 + 3 * (j + 1)) := by
                rw [upd_n (by omega), upd_s]
                congr 1
              obtain ⟨A, I', x5, x6, x8, J', y14, y15, o1, o2, o3, o4⟩ := rec hj9 I2 f5 f6 f8 _ _ _ _ _ (by omega) hok2 r6 hM4 e33 hf4
              refine ⟨A, I', x5, x6, x8, J', y14, y15, ?_, q.trans o2, o3, o4⟩
              have e34 : nI (5 + 3 * j + 1 + 1 + 1) = nI (5 + 3 * (j + 1)) := by congr 1
              rw [g0, g1, g2, e34]
              exact o1
            · have ce2 := c_no (D := D) (fu := fuC + 1) hX hp2 (c_takes (by omega) (by omega) (r := 0) (by rw [m2]; exact r5) (Or.inl rfl))
              rcases fg2 with ⟨f', w1, w2, w3, w4⟩ | ⟨w1, w2⟩
              · have ai := ap_i w3
                have := r1 f' w1 ai.1 ai.2.1
                rw [ai.2.2] at this
                cases this
              · rw [w2, sb_] at me
                dsimp only at me
                unfold fX6_readEdge_L101 at me
                rw [if_pos rfl] at me
                exact stop _ hf2 (5 + 3 * j + 1 + 1) (by omega) upd_s me _ _ _ _ (g0.trans (g1.trans ce2))
        · have ce1 := c_no (D := D) (fu := fuC + 2) hX hp1 (c_takes (by omega) (by omega) (r := 0) (by rw [m1]; exact q4) (Or.inl rfl))
          rcases fg with ⟨f, w1, w2, w3, w4⟩ | ⟨w1, w2⟩
          · have oi := op_i w3
            exact absurd oi.2 (q1 f w1 oi.1)
          · rw [w2, sb_] at me
            dsimp only at me
            rw [if_pos rfl] at me
            unfold fX6_readEdge_L101 at me
            rw [if_pos rfl] at me
            exact stop _ hf1 (5 + 3 * j + 1) (by omega) upd_s me _ _ _ _ (g0.trans ce1)
    · rw [if_neg cd] at me ce
      have c0 := c_no (D := D) (fu := fuC + 3) hX hp0 (c_takes (by omega) (by omega) (r := 0) (by rw [m0]; exact ce) (Or.inl rfl))
      have q := m153_stop (fu := fuM + 1) hT hp0 h3 me
      rw [h3] at q
      exact ⟨nI (5 + 3 * j), _, _, _, _, J, b14, b15, c0, q, hf, Or.inr ⟨5 + 3 * j, by omega, rfl⟩⟩
theorem ed_all (hX : rd_X X n t) (hT0 : rd_T M n t) : ∀ d j fuC fuM, j + d = 10 → ed_S X D M n P h o s j (3 * d + fuC + 4) (d + fuM + 2)
  | 0, j, fuC, fuM, h1 => ed_step hX hT0 (by omega) (fun w => absurd w (by omega))
  | d + 1, j, fuC, fuM, h1 => by
    have ih := ed_all hX hT0 d (j + 1) fuC fuM (by omega)
    have e := ed_step (D := D) hX hT0 (j := j) (P := P) (h := h) (o := o) (s := s) (fuC := 3 * (d + 1) + fuC) (fuM := d + 1 + fuM) (by omega) (fun _ => by
      rw [show 3 * (d + 1) + fuC + 1 = 3 * d + fuC + 4 by omega, show d + 1 + fuM + 1 = d + fuM + 2 by omega]
      exact ih)
    exact e
end TB
