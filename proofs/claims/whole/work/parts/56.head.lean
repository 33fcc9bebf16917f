/-! a text's head; fault and net -/
section HD
variable {x y : Nat → Nat} {P h o s j n : Nat} {t : Nat → Nat} {I a5 a6 a8 J b14 b15 : Nat → Int32} {X D M G : dk_O}
theorem hd_1 (hT : rd_T M n t) (hp : 1 < n) (h3 : M.1 3 = nI 1) : (∃ P, 2 ≤ P ∧ P ≤ 8 ∧ fX1_takes G (nI 1) (nI (t 1)) = some (1, upd G.1 0 (nI P), G.2 5, G.2 6, G.2 8) ∧ fX6_figure M 508 = some (nI P, upd M.1 3 (nI 2))) ∨ (∃ I, fX1_takes G (nI 1) (nI (t 1)) = some (0, I, G.2 5, G.2 6, G.2 8) ∧ fX6_figure M 508 = some (-9, M.1)) := by
  have fg := m_fig hT hp h3 (S := fun i => decide (2 ≤ i)) (k := 9) (by omega)
  rw [show ms (fun i => decide (2 ≤ i)) 9 = 508 by decide +kernel] at fg
  unfold fX1_takes
  rw [if_neg (show ¬ nI 1 = 0 by decide), if_pos (show nI 1 = 1 from rfl)]
  rcases fg with ⟨f, w1, w2, w3, w4⟩ | ⟨w1, w2⟩
  · have f2 : 2 ≤ f := of_decide_eq_true w3
    have e3 : nI (t 1) - 48 = nI f := by rw [w1]; exact (pk_sub (a := 48 + f) (b := 48) (by omega)).trans (by congr 1; omega)
    rw [e3, if_neg (show ¬ nI f < 2 from nI_nlt (b := 2) (by omega) (by omega)), if_neg (show ¬ (8 : Int32) < nI f from nI_nlt (a := 8) (by omega) (by omega))]
    exact Or.inl ⟨f, f2, by omega, rfl, w4⟩
  · right
    rcases fig_cases (hT.2.2 1 hp).1 with ⟨f, e1, e2, e3⟩ | ⟨e1, e3⟩
    · rw [e3]
      by_cases q : f < 2
      · rw [if_pos (show nI f < 2 from nI_lt (b := 2) q (by omega))]
        exact ⟨_, rfl, w2⟩
      · rw [if_neg (show ¬ nI f < 2 from nI_nlt (b := 2) (by omega) (by omega))]
        by_cases q8 : f < 9
        · have := w1 f e1 q8
          simp at this
          omega
        · rw [if_pos (show (8 : Int32) < nI f from nI_lt (a := 8) (by omega) (by omega))]
          exact ⟨_, rfl, w2⟩
    · have q : nI (t 1) - 48 < 2 := by
        rw [fa_lt] at e3 ⊢
        have o1 : (2 : Int32).toInt = 2 := by decide
        have o0 : (0 : Int32).toInt = 0 := rfl
        omega
      rw [if_pos q]
      exact ⟨_, rfl, w2⟩
theorem hd_2 (hT : rd_T M n t) (hp : 2 < n) (h3 : M.1 3 = nI 2) (hP : P ≤ 8) (h0 : G.1 0 = nI P) : (∃ h, h < P ∧ fX1_takes G (nI 2) (nI (t 2)) = some (1, upd G.1 1 (nI h), G.2 5, G.2 6, G.2 8) ∧ fX6_figure M (((1 : Int32) <<< (nI P &&& 31)) - 1) = some (nI h, upd M.1 3 (nI 3))) ∨ (∃ I, fX1_takes G (nI 2) (nI (t 2)) = some (0, I, G.2 5, G.2 6, G.2 8) ∧ fX6_figure M (((1 : Int32) <<< (nI P &&& 31)) - 1) = some (-9, M.1)) := by
  have fg := m_fig hT hp h3 (S := fun i => decide (i < P)) (k := 8) (by omega)
  rw [ms_full8 P (by omega)]
  unfold fX1_takes
  rw [if_neg (show ¬ nI 2 = 0 by decide), if_neg (show ¬ nI 2 = 1 by decide), if_pos (show nI 2 = 2 from rfl)]
  have G0 : (upd G.1 1 (nI (t 2) - 48), G.2).1 0 = nI P := by dsimp only; rw [upd_n (by omega)]; exact h0
  have ip := isP_of (G := (upd G.1 1 (nI (t 2) - 48), G.2)) (v := nI (t 2) - 48) hP G0
  rcases fg with ⟨f, w1, w2, w3, w4⟩ | ⟨w1, w2⟩
  · have fP : f < P := of_decide_eq_true w3
    have e3 : nI (t 2) - 48 = nI f := by rw [w1]; exact (pk_sub (a := 48 + f) (b := 48) (by omega)).trans (by congr 1; omega)
    rw [ip.1 f e3 (by omega), if_pos fP, sb_, if_pos (Or.inr rfl), e3]
    exact Or.inl ⟨f, fP, rfl, w4⟩
  · right
    rcases fig_cases (hT.2.2 2 hp).1 with ⟨f, e1, e2, e3⟩ | ⟨e1, e3⟩
    · have nf : ¬ f < P := fun q => by
        have := w1 f e1 (by omega)
        simp at this
        omega
      rw [ip.1 f e3 e2, if_neg nf, sb_, if_pos (Or.inl rfl)]
      exact ⟨_, rfl, w2⟩
    · rw [ip.2 e3, sb_, if_pos (Or.inl rfl)]
      exact ⟨_, rfl, w2⟩
theorem hd_3 (hT : rd_T M n t) (hp : 3 < n) (h3 : M.1 3 = nI 3) (hP : P ≤ 8) (hh : h < P) (h0 : G.1 0 = nI P) (h1 : G.1 1 = nI h) : (∃ o, o < P ∧ o ≠ h ∧ fX1_takes G (nI 3) (nI (t 3)) = some (1, upd G.1 2 (nI o), G.2 5, G.2 6, G.2 8) ∧ fX6_figure M ((((1 : Int32) <<< (nI P &&& 31)) - 1) &&& (((1 : Int32) <<< (nI h &&& 31)) ^^^ (-1))) = some (nI o, upd M.1 3 (nI 4))) ∨ (∃ I, fX1_takes G (nI 3) (nI (t 3)) = some (0, I, G.2 5, G.2 6, G.2 8) ∧ fX6_figure M ((((1 : Int32) <<< (nI P &&& 31)) - 1) &&& (((1 : Int32) <<< (nI h &&& 31)) ^^^ (-1))) = some (-9, M.1)) := by
  have fg := m_fig hT hp h3 (S := fun i => decide (i < P) && !decide (i = h)) (k := 8) (by omega)
  rw [ms_full8 P (by omega), ms_one (k := 8) (by omega) (by omega), ms_andn (by omega)]
  unfold fX1_takes
  rw [if_neg (show ¬ nI 3 = 0 by decide), if_neg (show ¬ nI 3 = 1 by decide), if_neg (show ¬ nI 3 = 2 by decide), if_pos (show nI 3 = 3 from rfl)]
  have G0 : (upd G.1 2 (nI (t 3) - 48), G.2).1 0 = nI P := by dsimp only; rw [upd_n (by omega)]; exact h0
  have ip := isP_of (G := (upd G.1 2 (nI (t 3) - 48), G.2)) (v := nI (t 3) - 48) hP G0
  rcases fg with ⟨f, w1, w2, w3, w4⟩ | ⟨w1, w2⟩
  · have fP : f < P ∧ f ≠ h := by simpa using w3
    have e3 : nI (t 3) - 48 = nI f := by rw [w1]; exact (pk_sub (a := 48 + f) (b := 48) (by omega)).trans (by congr 1; omega)
    rw [ip.1 f e3 (by omega), if_pos fP.1, sb_, if_neg one_ne, e3, h1, if_neg (fun w => fP.2 ((nI_eq (by omega) (by omega)).mp w))]
    exact Or.inl ⟨f, fP.1, fP.2, rfl, w4⟩
  · right
    rcases fig_cases (hT.2.2 3 hp).1 with ⟨f, e1, e2, e3⟩ | ⟨e1, e3⟩
    · rw [ip.1 f e3 e2]
      by_cases q : f < P
      · have fh : f = h := by
          have := w1 f e1 (by omega)
          simp [q] at this
          exact this
        rw [if_pos q, sb_, if_neg one_ne, e3, h1, if_pos (by rw [fh])]
        exact ⟨_, rfl, w2⟩
      · rw [if_neg q, sb_, if_pos rfl]
        exact ⟨_, rfl, w2⟩
    · rw [ip.2 e3, sb_, if_pos rfl]
      exact ⟨_, rfl, w2⟩
theorem hd_4 (hT : rd_T M n t) (hp : 4 < n) (h3 : M.1 3 = nI 4) : (∃ s, 1 ≤ s ∧ s ≤ 4 ∧ fX1_takes G (nI 4) (nI (t 4)) = some (1, upd G.1 3 (nI s), G.2 5, G.2 6, G.2 8) ∧ fX6_figure M 30 = some (nI s, upd M.1 3 (nI 5))) ∨ (∃ I, fX1_takes G (nI 4) (nI (t 4)) = some (0, I, G.2 5, G.2 6, G.2 8) ∧ fX6_figure M 30 = some (-9, M.1)) := by
  have fg := m_fig hT hp h3 (S := fun i => decide (1 ≤ i)) (k := 5) (by omega)
  rw [show ms (fun i => decide (1 ≤ i)) 5 = 30 by decide +kernel] at fg
  unfold fX1_takes
  rw [if_neg (show ¬ nI 4 = 0 by decide), if_neg (show ¬ nI 4 = 1 by decide), if_neg (show ¬ nI 4 = 2 by decide), if_neg (show ¬ nI 4 = 3 by decide), if_pos (show nI 4 = 4 from rfl)]
  rcases fg with ⟨f, w1, w2, w3, w4⟩ | ⟨w1, w2⟩
  · have f2 : 1 ≤ f := of_decide_eq_true w3
    have e3 : nI (t 4) - 48 = nI f := by rw [w1]; exact (pk_sub (a := 48 + f) (b := 48) (by omega)).trans (by congr 1; omega)
    rw [e3, if_neg (show ¬ nI f < 1 from nI_nlt (b := 1) (by omega) (by omega)), if_neg (show ¬ (4 : Int32) < nI f from nI_nlt (a := 4) (by omega) (by omega))]
    exact Or.inl ⟨f, f2, by omega, rfl, w4⟩
  · right
    rcases fig_cases (hT.2.2 4 hp).1 with ⟨f, e1, e2, e3⟩ | ⟨e1, e3⟩
    · rw [e3]
      by_cases q : f < 1
      · rw [if_pos (show nI f < 1 from nI_lt (b := 1) q (by omega))]
        exact ⟨_, rfl, w2⟩
      · rw [if_neg (show ¬ nI f < 1 from nI_nlt (b := 1) (by omega) (by omega))]
        by_cases q8 : f < 5
        · have := w1 f e1 q8
          simp at this
          omega
        · rw [if_pos (show (4 : Int32) < nI f from nI_lt (a := 4) (by omega) (by omega))]
          exact ⟨_, rfl, w2⟩
    · have q : nI (t 4) - 48 < 1 := by
        rw [fa_lt] at e3 ⊢
        have o1 : (1 : Int32).toInt = 1 := by decide
        have o0 : (0 : Int32).toInt = 0 := rfl
        omega
      rw [if_pos q]
      exact ⟨_, rfl, w2⟩
theorem f136 {a b : Nat → Int32} : fX6_readNet_L136 M (-9) J a b = some (J 3, upd J 12 (-9), a, b) := by
  unfold fX6_readNet_L136
  rw [if_pos rfl]
theorem f112 {a b : Nat → Int32} : fX6_readNet_L112 M (-9) J a b = some (J 3, upd (upd J 11 (-9)) 12 (-9), a, b) := by
  unfold fX6_readNet_L112
  rw [if_pos rfl, f136, upd_n (by omega)]
theorem f73 {a b : Nat → Int32} : fX6_readNet_L73 M (-9) J a b = some (J 3, upd (upd (upd J 10 (-9)) 11 (-9)) 12 (-9), a, b) := by
  unfold fX6_readNet_L73
  rw [if_pos rfl, f112, upd_n (by omega)]
/-- both read the text alike -/
def rd_R (X D M : dk_O) : Prop := ∃ A I' f5 f6 f8 J' g14 g15, fX4_readInto X D = some (A, I', f5, f6, f8) ∧ fX6_readNet M = some (A, J', g14, g15) ∧ rd_fr M J' ∧ ((A = -9 ∧ ∃ P h o s j' x' y', rd_ok P h o s j' x' y' ∧ rd_C I' f5 f6 f8 P h o s j' x' y' ∧ rd_M J' g14 g15 P h o s j' x' y') ∨ ∃ p, p < 100 ∧ A = nI p)
theorem read_all (hX : rd_X X n t) (hT0 : rd_T M n t) : rd_R X D M := by
  have hn := hX.1
  obtain ⟨g6, y6, z6⟩ := fill_at (n := 8) (by omega) (D.2 6) 0
  obtain ⟨g8, y8, z8⟩ := fill_at (n := 8) (by omega) (D.2 8) 0
  have start : fX4_readInto X D = fX4_readInto_L6 X D 1000 (nI 0) (upd D.1 4 0) (D.2 5) g6 g8 := by
    unfold fX4_readInto fX1_clear
    rw [y6, sb_, y8, sb_, sb_]
    rfl
  have fin : ∀ (p : Nat) (I' f5 f6 f8 J' g14 g15 : Nat → Int32), p < 100 → rd_fr M J' → fX4_readInto X D = some (nI p, I', f5, f6, f8) → fX6_readNet M = some (nI p, J', g14, g15) → rd_R X D M := fun p I' f5 f6 f8 J' g14 g15 hp hJ h1 h2 => ⟨nI p, I', f5, f6, f8, J', g14, g15, h1, h2, hJ, Or.inr ⟨p, hp, rfl⟩⟩
  have lit0 : (0 : Int32) = nI 0 := rfl
  have fr0 : rd_fr M (upd (upd M.1 3 0) 13 0) := fun i h3 h9 h10 h11 h12 h13 => by rw [upd_n h13, upd_n h3]
  -- the first letter
  by_cases n0 : n = 0
  · have c := c_end (D := D) (I := upd D.1 4 0) (a5 := D.2 5) (a6 := g6) (a8 := g8) hX (fu := 999)
    rw [if_neg (by omega), n0] at c
    refine fin 0 _ _ _ _ _ (M.2 14) (M.2 15) (by omega) fr0 (start.trans c) ?_
    unfold fX6_readNet
    rw [hT0.2.1, if_pos (by rw [n0]; rfl)]
    rfl
  have rn0 : fX6_readNet M = if nI (t 0) = 78 then ((fX6_figure (upd (upd (upd M.1 3 0) 13 0) 3 1, M.2) 508).bind fun (r40, i40_0) => if r40 = (-9) then (fX6_readNet_L73 M (-9) (upd i40_0 9 r40) (M.2 14) (M.2 15)) else (fX6_figure (upd i40_0 9 r40, M.2) (((1 : Int32) <<< (r40 &&& 31)) - 1)).bind fun (r70, i70_0) => fX6_readNet_L73 M r70 i70_0 (M.2 14) (M.2 15)) else some (0, upd (upd M.1 3 0) 13 0, M.2 14, M.2 15) := by
    have r0 : dk_rd (M.2 1) 40 0 = some (nI (t 0)) := by
      have := rd_nI (f := M.2 1) (n := 40) (k := 0) (by omega) (by omega)
      rw [(hT0.2.2 0 (by omega)).2] at this
      exact this
    unfold fX6_readNet
    rw [hT0.2.1, if_neg (show ¬ nI n = 0 from fun w => n0 ((nI_eq (b := 0) (by omega) (by omega)).mp w)), r0, sb_]
  have k0 : ∀ v, fX1_takes (upd D.1 4 0, dk_upA (dk_upA (dk_upA D.2 5 (D.2 5)) 6 g6) 8 g8) (nI 0) v = if v = 78 then some (1, upd D.1 4 0, D.2 5, g6, g8) else some (0, upd D.1 4 0, D.2 5, g6, g8) := by
    intro v
    unfold fX1_takes
    rw [if_pos (show nI 0 = 0 from rfl)]
    rfl
  by_cases t0 : nI (t 0) = 78
  case neg =>
    have k := k0 (nI (t 0))
    rw [if_neg t0] at k
    rw [if_neg t0] at rn0
    exact fin 0 _ _ _ _ _ _ _ (by omega) fr0 (start.trans (c_no (fu := 999) hX (by omega) k)) rn0
  have k := k0 (nI (t 0))
  rw [if_pos t0] at k rn0
  have s1 := start.trans (c_go (fu := 999) hX (by omega) k)
  -- the number of places
  have fr1 : rd_fr M (upd (upd (upd M.1 3 0) 13 0) 3 1) := rd_fr3 fr0
  have T1 : rd_T (upd (upd (upd M.1 3 0) 13 0) 3 1, M.2) n t := ⟨hT0.1, (by dsimp only; rw [upd_n (by omega), upd_n (by omega), upd_n (by omega)]; exact hT0.2.1), hT0.2.2⟩
  have J13 : upd (upd (upd M.1 3 0) 13 0) 3 1 13 = nI 0 := by
    rw [upd_n (by omega), upd_s]
    rfl
  have e13 : upd (upd (upd M.1 3 0) 13 0) 3 1 3 = nI 1 := by
    rw [upd_s]
    rfl
  generalize upd (upd (upd M.1 3 0) 13 0) 3 1 = J1 at rn0 fr1 T1 e13 J13
  have frN : ∀ {J : Nat → Int32} {v : Int32} {q : Nat}, rd_fr M J → (q = 9 ∨ q = 10 ∨ q = 11 ∨ q = 12 ∨ q = 13) → rd_fr M (upd J q v) := fun hf hq i h3 h9 h10 h11 h12 h13 => by rw [upd_n (by omega)]; exact hf i h3 h9 h10 h11 h12 h13
  have fail1 : fX6_figure (J1, M.2) 508 = some (-9, J1) → fX6_readNet M = some (nI 1, upd (upd (upd (upd J1 9 (-9)) 10 (-9)) 11 (-9)) 12 (-9), M.2 14, M.2 15) := by
    intro w
    rw [w, sb_] at rn0
    dsimp only at rn0
    rw [if_pos rfl, f73, upd_n (by omega), e13] at rn0
    exact rn0
  have ff1 : rd_fr M (upd (upd (upd (upd J1 9 (-9)) 10 (-9)) 11 (-9)) 12 (-9)) := frN (frN (frN (frN fr1 (by omega)) (by omega)) (by omega)) (by omega)
  by_cases n1 : n = 1
  · have c := c_end (D := D) (I := upd D.1 4 0) (a5 := D.2 5) (a6 := g6) (a8 := g8) hX (fu := 998)
    rw [if_neg (by omega), n1] at c
    exact fin 1 _ _ _ _ _ _ _ (by omega) ff1 (s1.trans c) (fail1 (m_fig_end T1 (by omega) (by omega) e13))
  rcases hd_1 (G := (upd D.1 4 0, dk_upA (dk_upA (dk_upA D.2 5 (D.2 5)) 6 g6) 8 g8)) T1 (by omega) e13 with ⟨P, P2, P8, c1, m1⟩ | ⟨I1, c1, m1⟩
  case inr => exact fin 1 _ _ _ _ _ _ _ (by omega) ff1 (s1.trans (c_no (fu := 998) hX (by omega) c1)) (fail1 m1)
  have c1' : fX1_takes (upd D.1 4 0, dk_upA (dk_upA (dk_upA D.2 5 (D.2 5)) 6 g6) 8 g8) (nI 1) (nI (t 1)) = some (1, upd (upd D.1 4 0) 0 (nI P), D.2 5, g6, g8) := c1
  have s2 := s1.trans (c_go (fu := 998) hX (by omega) c1')
  rw [m1, sb_] at rn0
  dsimp only at rn0
  rw [if_neg (m9_ne (by omega))] at rn0
  -- home
  have fr2 : rd_fr M (upd (upd J1 3 (nI 2)) 9 (nI P)) := frN (rd_fr3 fr1) (by omega)
  have T2 : rd_T (upd (upd J1 3 (nI 2)) 9 (nI P), M.2) n t := ⟨hT0.1, (by dsimp only; rw [upd_n (by omega), upd_n (by omega)]; exact T1.2.1), hT0.2.2⟩
  have e23 : upd (upd J1 3 (nI 2)) 9 (nI P) 3 = nI 2 := by rw [upd_n (by omega), upd_s]
  have e29 : upd (upd J1 3 (nI 2)) 9 (nI P) 9 = nI P := by rw [upd_s]
  have e213 : upd (upd J1 3 (nI 2)) 9 (nI P) 13 = nI 0 := by rw [upd_n (by omega), upd_n (by omega)]; exact J13
  generalize upd (upd J1 3 (nI 2)) 9 (nI P) = J2 at rn0 fr2 T2 e23 e29 e213
  have fail2 : fX6_figure (J2, M.2) (((1 : Int32) <<< (nI P &&& 31)) - 1) = some (-9, J2) → fX6_readNet M = some (nI 2, upd (upd (upd J2 10 (-9)) 11 (-9)) 12 (-9), M.2 14, M.2 15) := by
    intro w
    rw [w, sb_] at rn0
    dsimp only at rn0
    rw [f73, e23] at rn0
    exact rn0
  have ff2 : rd_fr M (upd (upd (upd J2 10 (-9)) 11 (-9)) 12 (-9)) := frN (frN (frN fr2 (by omega)) (by omega)) (by omega)
  by_cases n2 : n = 2
  · have c := c_end (D := D) (I := upd (upd D.1 4 0) 0 (nI P)) (a5 := D.2 5) (a6 := g6) (a8 := g8) hX (fu := 997)
    rw [if_neg (by omega), n2] at c
    exact fin 2 _ _ _ _ _ _ _ (by omega) ff2 (s2.trans c) (fail2 (m_fig_end T2 (by omega) (by omega) e23))
  rcases hd_2 (G := (upd (upd D.1 4 0) 0 (nI P), dk_upA (dk_upA (dk_upA D.2 5 (D.2 5)) 6 g6) 8 g8)) T2 (by omega) e23 P8 (by dsimp only; exact upd_s) with ⟨h, hP, c2, m2⟩ | ⟨I2, c2, m2⟩
  case inr => exact fin 2 _ _ _ _ _ _ _ (by omega) ff2 (s2.trans (c_no (fu := 997) hX (by omega) c2)) (fail2 m2)
  have c2' : fX1_takes (upd (upd D.1 4 0) 0 (nI P), dk_upA (dk_upA (dk_upA D.2 5 (D.2 5)) 6 g6) 8 g8) (nI 2) (nI (t 2)) = some (1, upd (upd (upd D.1 4 0) 0 (nI P)) 1 (nI h), D.2 5, g6, g8) := c2
  have s3 := s2.trans (c_go (fu := 997) hX (by omega) c2')
  rw [m2, sb_] at rn0
  dsimp only at rn0
  unfold fX6_readNet_L73 at rn0
  rw [if_neg (m9_ne (by omega)), upd_n (by omega), e29] at rn0
  -- the hole
  have fr3 : rd_fr M (upd (upd J2 3 (nI 3)) 10 (nI h)) := frN (rd_fr3 fr2) (by omega)
  have T3 : rd_T (upd (upd J2 3 (nI 3)) 10 (nI h), dk_upA (dk_upA M.2 14 (M.2 14)) 15 (M.2 15)) n t := ⟨hT0.1, (by dsimp only; rw [upd_n (by omega), upd_n (by omega)]; exact T2.2.1), hT0.2.2⟩
  have e33 : upd (upd J2 3 (nI 3)) 10 (nI h) 3 = nI 3 := by rw [upd_n (by omega), upd_s]
  have e39 : upd (upd J2 3 (nI 3)) 10 (nI h) 9 = nI P := by rw [upd_n (by omega), upd_n (by omega)]; exact e29
  have e310 : upd (upd J2 3 (nI 3)) 10 (nI h) 10 = nI h := by rw [upd_s]
  have e313 : upd (upd J2 3 (nI 3)) 10 (nI h) 13 = nI 0 := by rw [upd_n (by omega), upd_n (by omega)]; exact e213
  generalize upd (upd J2 3 (nI 3)) 10 (nI h) = J3 at rn0 fr3 T3 e33 e39 e310 e313
  have fail3 : fX6_figure (J3, dk_upA (dk_upA M.2 14 (M.2 14)) 15 (M.2 15)) ((((1 : Int32) <<< (nI P &&& 31)) - 1) &&& (((1 : Int32) <<< (nI h &&& 31)) ^^^ (-1))) = some (-9, J3) → fX6_readNet M = some (nI 3, upd (upd J3 11 (-9)) 12 (-9), M.2 14, M.2 15) := by
    intro w
    rw [w, sb_] at rn0
    dsimp only at rn0
    rw [f112, e33] at rn0
    exact rn0
  have ff3 : rd_fr M (upd (upd J3 11 (-9)) 12 (-9)) := frN (frN fr3 (by omega)) (by omega)
  by_cases n3 : n = 3
  · have c := c_end (D := D) (I := upd (upd (upd D.1 4 0) 0 (nI P)) 1 (nI h)) (a5 := D.2 5) (a6 := g6) (a8 := g8) hX (fu := 996)
    rw [if_neg (by omega), n3] at c
    exact fin 3 _ _ _ _ _ _ _ (by omega) ff3 (s3.trans c) (fail3 (m_fig_end T3 (by omega) (by omega) e33))
  rcases hd_3 (G := (upd (upd (upd D.1 4 0) 0 (nI P)) 1 (nI h), dk_upA (dk_upA (dk_upA D.2 5 (D.2 5)) 6 g6) 8 g8)) T3 (by omega) e33 P8 hP (by dsimp only; rw [upd_n (by omega), upd_s]) (by dsimp only; exact upd_s) with ⟨o, oP, oh, c3, m3⟩ | ⟨I3, c3, m3⟩
  case inr => exact fin 3 _ _ _ _ _ _ _ (by omega) ff3 (s3.trans (c_no (fu := 996) hX (by omega) c3)) (fail3 m3)
  have c3' : fX1_takes (upd (upd (upd D.1 4 0) 0 (nI P)) 1 (nI h), dk_upA (dk_upA (dk_upA D.2 5 (D.2 5)) 6 g6) 8 g8) (nI 3) (nI (t 3)) = some (1, upd (upd (upd (upd D.1 4 0) 0 (nI P)) 1 (nI h)) 2 (nI o), D.2 5, g6, g8) := c3
  have s4 := s3.trans (c_go (fu := 996) hX (by omega) c3')
  rw [m3, sb_] at rn0
  dsimp only at rn0
  unfold fX6_readNet_L112 at rn0
  rw [if_neg (m9_ne (by omega))] at rn0
  -- the searchers
  have fr4 : rd_fr M (upd (upd J3 3 (nI 4)) 11 (nI o)) := frN (rd_fr3 fr3) (by omega)
  have T4 : rd_T (upd (upd J3 3 (nI 4)) 11 (nI o), dk_upA (dk_upA M.2 14 (M.2 14)) 15 (M.2 15)) n t := ⟨hT0.1, (by dsimp only; rw [upd_n (by omega), upd_n (by omega)]; exact T3.2.1), hT0.2.2⟩
  have e43 : upd (upd J3 3 (nI 4)) 11 (nI o) 3 = nI 4 := by rw [upd_n (by omega), upd_s]
  have e49 : upd (upd J3 3 (nI 4)) 11 (nI o) 9 = nI P := by rw [upd_n (by omega), upd_n (by omega)]; exact e39
  have e410 : upd (upd J3 3 (nI 4)) 11 (nI o) 10 = nI h := by rw [upd_n (by omega), upd_n (by omega)]; exact e310
  have e411 : upd (upd J3 3 (nI 4)) 11 (nI o) 11 = nI o := by rw [upd_s]
  have e413 : upd (upd J3 3 (nI 4)) 11 (nI o) 13 = nI 0 := by rw [upd_n (by omega), upd_n (by omega)]; exact e313
  generalize upd (upd J3 3 (nI 4)) 11 (nI o) = J4 at rn0 fr4 T4 e43 e49 e410 e411 e413
  have fail4 : fX6_figure (J4, dk_upA (dk_upA M.2 14 (M.2 14)) 15 (M.2 15)) 30 = some (-9, J4) → fX6_readNet M = some (nI 4, upd J4 12 (-9), M.2 14, M.2 15) := by
    intro w
    rw [w, sb_] at rn0
    dsimp only at rn0
    rw [f136, e43] at rn0
    exact rn0
  have ff4 : rd_fr M (upd J4 12 (-9)) := frN fr4 (by omega)
  by_cases n4 : n = 4
  · have c := c_end (D := D) (I := upd (upd (upd (upd D.1 4 0) 0 (nI P)) 1 (nI h)) 2 (nI o)) (a5 := D.2 5) (a6 := g6) (a8 := g8) hX (fu := 995)
    rw [if_neg (by omega), n4] at c
    exact fin 4 _ _ _ _ _ _ _ (by omega) ff4 (s4.trans c) (fail4 (m_fig_end T4 (by omega) (by omega) e43))
  rcases hd_4 (G := (upd (upd (upd (upd D.1 4 0) 0 (nI P)) 1 (nI h)) 2 (nI o), dk_upA (dk_upA (dk_upA D.2 5 (D.2 5)) 6 g6) 8 g8)) T4 (by omega) e43 with ⟨s, s1', s4', c4, m4⟩ | ⟨I4, c4, m4⟩
  case inr => exact fin 4 _ _ _ _ _ _ _ (by omega) ff4 (s4.trans (c_no (fu := 995) hX (by omega) c4)) (fail4 m4)
  have c4' : fX1_takes (upd (upd (upd (upd D.1 4 0) 0 (nI P)) 1 (nI h)) 2 (nI o), dk_upA (dk_upA (dk_upA D.2 5 (D.2 5)) 6 g6) 8 g8) (nI 4) (nI (t 4)) = some (1, upd (upd (upd (upd (upd D.1 4 0) 0 (nI P)) 1 (nI h)) 2 (nI o)) 3 (nI s), D.2 5, g6, g8) := c4
  have s5 := s4.trans (c_go (fu := 995) hX (by omega) c4')
  rw [m4, sb_] at rn0
  dsimp only at rn0
  unfold fX6_readNet_L136 at rn0
  rw [if_neg (m9_ne (by omega))] at rn0
  -- the edges
  have fr5 : rd_fr M (upd (upd J4 3 (nI 5)) 12 (nI s)) := frN (rd_fr3 fr4) (by omega)
  have hM5 : rd_M (upd (upd J4 3 (nI 5)) 12 (nI s)) (M.2 14) (M.2 15) P h o s 0 (fun _ => 0) (fun _ => 0) := ⟨by rw [upd_n (by omega), upd_n (by omega)]; exact e49, by rw [upd_n (by omega), upd_n (by omega)]; exact e410, by rw [upd_n (by omega), upd_n (by omega)]; exact e411, by rw [upd_s], by rw [upd_n (by omega), upd_n (by omega)]; exact e413, fun e he => absurd he (by omega)⟩
  have hC5 : rd_C (upd (upd (upd (upd (upd D.1 4 0) 0 (nI P)) 1 (nI h)) 2 (nI o)) 3 (nI s)) (D.2 5) g6 g8 P h o s 0 (fun _ => 0) (fun _ => 0) := by
    refine ⟨by rw [upd_n (by omega), upd_n (by omega), upd_n (by omega), upd_s], by rw [upd_n (by omega), upd_n (by omega), upd_s], by rw [upd_n (by omega), upd_s], by rw [upd_s], by rw [upd_n (by omega), upd_n (by omega), upd_n (by omega), upd_n (by omega), upd_s]; rfl, fun e he => absurd he (by omega), fun p hp => ?_, fun p hp => ?_⟩
    · rw [z6 p hp]
      exact ((ms_zero (by omega)).mpr (fun i _ => by simp)).symm
    · rw [z8 p hp]
      exact ((ms_zero (by omega)).mpr (fun i _ => by simp [rd_ad, sp_any])).symm
  have hok5 : rd_ok P h o s 0 (fun _ => 0) (fun _ => 0) := by
    refine ⟨P2, P8, hP, oP, oh, s1', s4', by omega, fun e he => absurd he (by omega), ?_⟩
    have z : ∀ p, fb_ct (rd_ad (fun _ => 0) (fun _ => 0) 0 p) 8 = 0 := fun p => fb_ct_zero.mpr (fun k _ => by simp [rd_ad, sp_any])
    rw [fb_sm_cong (g := fun _ => 0) (fun p _ => z p), fb_sm_const]
    omega
  obtain ⟨A, I', f5, f6, f8, J', g14, g15, o1, o2, o3, o4⟩ := ed_all (D := D) hX hT0 10 0 961 988 (by omega) _ _ _ _ _ _ _ _ _ (by omega) hok5 hC5 hM5 (by rw [upd_n (by omega), upd_s]) fr5
  refine ⟨A, I', f5, f6, f8, J', g14, g15, s5.trans o1, rn0.trans o2, o3, ?_⟩
  rcases o4 with ⟨w1, w2⟩ | w
  · exact Or.inl ⟨w1, P, h, o, s, w2⟩
  · exact Or.inr w
end HD
