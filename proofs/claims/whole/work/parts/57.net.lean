/-! fault, net -/
section NT
variable {x y : Nat → Nat} {P h o s j : Nat} {Q X D T U G C E M : dk_O} {CB SB : Nat → dk_O}
theorem rl_J {J : Nat → Int32} {b14 b15 : Nat → Int32} (hr : rl Q X G T C E CB SB M) (hJ : ∀ i, i ≠ 0 → i ≠ 3 → i ≠ 9 → i ≠ 10 → i ≠ 11 → i ≠ 12 → i ≠ 13 → J i = M.1 i) : rl Q X G T C E CB SB (J, dk_upA (dk_upA M.2 14 b14) 15 b15) := by
  obtain ⟨N, g, k, b, n, t, l, a, c, ⟨hN, hP, hV, hG, hT, hM, hw, h15⟩, ⟨hC, hB, hbw⟩, hX, hE, hS, hK⟩ := hr
  have q : ∀ i, (i = 2 ∨ i = 4 ∨ i = 5 ∨ i = 6 ∨ i = 19 ∨ i = 22 ∨ i = 27) → J i = M.1 i := fun i hi => hJ i (by omega) (by omega) (by omega) (by omega) (by omega) (by omega) (by omega)
  exact ⟨N, g, k, b, n, t, l, a, c, ⟨hN, hP, hV, hG, hT, ⟨(q 4 (by omega)).trans hM.1, (q 5 (by omega)).trans hM.2.1, (q 6 (by omega)).trans hM.2.2.1, hM.2.2.2⟩, hw, (q 27 (by omega)).trans h15⟩, ⟨hC, ⟨hB.1, (q 19 (by omega)).trans hB.2.1, hB.2.2⟩, hbw⟩, rl_Xk hX (q 2 (by omega)) rfl, hE, rl_Mk hS (q 22 (by omega)) rfl rfl, hK⟩
theorem rl_read (hr : rl Q X G T C E CB SB M) : rd_R X D (upd M.1 0 0, M.2) := by
  obtain ⟨N, g, k, b, n, t, l, a, c, -, -, hX, -, -, -⟩ := hr
  exact read_all (n := n) (t := t) ⟨hX.1, hX.2.1, fun i hi => (hX.2.2.2 i hi).2.1⟩ ⟨hX.1, (by dsimp only; rw [upd_n (by omega)]; exact hX.2.2.1), fun i hi => ⟨(hX.2.2.2 i hi).1, (hX.2.2.2 i hi).2.2⟩⟩
theorem fr_J {J : Nat → Int32} (hf : rd_fr (upd M.1 0 0, M.2) J) : ∀ i, i ≠ 0 → i ≠ 3 → i ≠ 9 → i ≠ 10 → i ≠ 11 → i ≠ 12 → i ≠ 13 → J i = M.1 i := fun i h0 h3 h9 h10 h11 h12 h13 => (hf i h3 h9 h10 h11 h12 h13).trans (upd_n h0)
theorem cl_fault (hr : rl Q X G T C E CB SB M) : ∃ A I f5 f6 f8 J b14 b15, fX5_fault Q X D = some (A, I, f5, f6, f8) ∧ fX6_fault M = some (A, J, b14, b15) ∧ rl Q X G T C E CB SB (J, dk_upA (dk_upA M.2 14 b14) 15 b15) := by
  obtain ⟨A, I, f5, f6, f8, J, b14, b15, h1, h2, hf, -⟩ := rl_read (D := D) hr
  unfold fX5_fault fX6_fault
  rw [h1, sb_, h2, sb_]
  exact ⟨A, I, f5, f6, f8, J, b14, b15, rfl, rfl, rl_J hr (fr_J hf)⟩
/-- the net that was told -/
def nt_N (P h j : Nat) (x y : Nat → Nat) : sN := (P, h, j, fun e => if x e < y e then x e else y e, fun e => if x e < y e then y e else x e)
theorem nt_w (hok : rd_ok P h o s j x y) : sp_wN (nt_N P h j x y) := by
  obtain ⟨k1, k2, k3, k4, k5, k6, k7, k8, k9, k10⟩ := hok
  refine ⟨k1, k2, k3, k8, fun e he => ?_⟩
  have := k9 e he
  show (if x e < y e then x e else y e) < (if x e < y e then y e else x e) ∧ (if x e < y e then y e else x e) < P
  by_cases q : x e < y e
  · rw [if_pos q, if_pos q]; omega
  · rw [if_neg q, if_neg q]; omega
theorem nt_en {e p : Nat} : sp_en (nt_N P h j x y) e p = (decide (x e = p) || decide (y e = p)) := by
  unfold sp_en
  show (decide ((if x e < y e then x e else y e) = p) || decide ((if x e < y e then y e else x e) = p)) = _
  by_cases q : x e < y e
  · rw [if_pos q, if_pos q]
  · rw [if_neg q, if_neg q, Bool.or_comm]
theorem nt_RG {I f5 f6 f8 : Nat → Int32} (hC : rd_C I f5 f6 f8 P h o s j x y) (hj : j ≤ 10) : ∃ I' g5 g6, fX1_become G (I, dk_upA (dk_upA (dk_upA D.2 5 f5) 6 f6) 8 f8) = some (I', g5, g6) ∧ sp_RG (I', dk_upA (dk_upA G.2 5 g5) 6 g6) (nt_N P h j x y) ∧ I' 3 = nI s ∧ I' 2 = nI o ∧ I' 4 = nI j := by
  obtain ⟨c0, c1, c2, c3, c4, c5, c6, c8⟩ := hC
  unfold fX1_become
  dsimp only
  rw [c0, c1, c2, c3, c4]
  refine ⟨_, _, _, rfl, ⟨?_, ?_, ?_, fun e he => ?_, fun p hp => ?_⟩, ?_, ?_, ?_⟩
  · dsimp only
    rw [upd_n (by omega), upd_n (by omega), upd_n (by omega), upd_n (by omega), upd_s]
    rfl
  · dsimp only
    rw [upd_n (by omega), upd_n (by omega), upd_n (by omega), upd_s]
    rfl
  · dsimp only
    rw [upd_s]
    rfl
  · have he' : e < j := he
    show va_cpy f5 (G.2 5) 0 0 10 e = _
    rw [pk_cpy_in (by omega) (by omega), show 0 + (e - 0) = e by omega, c5 e he']
    exact ms_cong (fun p _ => nt_en.symm)
  · show va_cpy f6 (G.2 6) 0 0 8 p = _
    rw [pk_cpy_in (by omega) (by omega), show 0 + (p - 0) = p by omega, c6 p hp]
    exact ms_cong (fun e _ => by rw [nt_en]; rfl)
  · rw [upd_n (by omega), upd_s]
  · rw [upd_n (by omega), upd_n (by omega), upd_s]
  · rw [upd_s]
theorem net60 {fu : Nat} {q nI_ n5 n6 n8 gI g5 g6 tI t1 t2 cI : Nat → Int32} : fX5_net_L60 Q X D G T C (fu + 3) 0 q nI_ n5 n6 n8 gI g5 g6 tI t1 t2 cI = some (gI 4, upd (upd q 0 0) 1 0, nI_, n5, n6, n8, gI, g5, g6, tI, t1, t2, cI) := by
  have w0 : dk_wr q 2 0 0 = some (upd q 0 0) := wr_nI (k := 0) (by omega) (by omega)
  have w1 : dk_wr (upd q 0 0) 2 (0 + 1) 0 = some (upd (upd q 0 0) 1 0) := wr_nI (k := 1) (by omega) (by omega)
  rw [fX5_net_L60, if_neg (by decide), w0, sb_, fX5_net_L60, if_neg (by decide), w1, sb_, fX5_net_L60, if_pos (by decide)]
theorem net43 (hok : rd_ok P h o s j x y) {JJ m16 b14 b15 k21 : Nat → Int32} (hb : ∀ e, e < j → b14 e = nI (x e) ∧ b15 e = nI (y e)) (j4 : JJ 4 = nI P) (j5 : JJ 5 = nI h) (j6 : JJ 6 = nI j) (j11 : JJ 11 = nI o) (j12 : JJ 12 = nI s) : ∀ d i fu (r7 r8 : Nat → Int32), i + d = j → d < fu → (∀ e, e < i → r7 e = nI (sp_a (nt_N P h j x y) e) ∧ r8 e = nI (sp_b (nt_N P h j x y) e)) → ∃ r7' r8' w, fX6_net_L43 M fu (nI i) JJ r7 r8 m16 b14 b15 k21 = some (nI j, upd JJ 19 0, r7', r8', w, b14, b15, upd (upd k21 0 0) 1 0) ∧ (∀ e, e < j → r7' e = nI (sp_a (nt_N P h j x y) e) ∧ r8' e = nI (sp_b (nt_N P h j x y) e)) ∧ sp_RP w (sp_f0 (nt_N P h j x y) o s)
  | 0, i, fu, r7, r8, h1, h2, hr => by
    obtain ⟨k1, k2, k3, k4, k5, k6, k7, k8, k9, k10⟩ := id hok
    obtain ⟨fu, rfl⟩ : ∃ k, fu = k + 1 := ⟨fu - 1, by omega⟩
    have hr' : ∀ e, e < j → r7 e = nI (sp_a (nt_N P h j x y) e) ∧ r8 e = nI (sp_b (nt_N P h j x y) e) := fun e he => hr e (by omega)
    have w0 : dk_wr k21 2 0 0 = some (upd k21 0 0) := wr_nI (k := 0) (by omega) (by omega)
    have w1 : dk_wr (upd k21 0 0) 2 1 0 = some (upd (upd k21 0 0) 1 0) := wr_nI (k := 1) (by omega) (by omega)
    obtain ⟨w, y1, y2⟩ := m_layFirst (N := nt_N P h j x y) (M := (JJ, dk_upA (dk_upA (dk_upA (dk_upA (dk_upA (dk_upA M.2 7 r7) 8 r8) 16 m16) 14 b14) 15 b15) 21 k21)) (w := m16) ⟨j4, j5, j6, hr'⟩ (h := o) (k := s)
    rw [fX6_net_L43, j6, if_pos (nI_le (by omega) (by omega)), j11, j12, y1, sb_, w0, sb_, w1, sb_]
    exact ⟨r7, r8, w, rfl, hr', y2⟩
  | d + 1, i, fu, r7, r8, h1, h2, hr => by
    obtain ⟨k1, k2, k3, k4, k5, k6, k7, k8, k9, k10⟩ := id hok
    obtain ⟨fu, rfl⟩ : ∃ k, fu = k + 1 := ⟨fu - 1, by omega⟩
    have kk := k9 i (by omega)
    have hbi := hb i (by omega)
    have step : ∀ a c : Nat, a = sp_a (nt_N P h j x y) i → c = sp_b (nt_N P h j x y) i → ∃ r7' r8' w, fX6_net_L43 M fu (nI (i + 1)) JJ (upd r7 i (nI a)) (upd r8 i (nI c)) m16 b14 b15 k21 = some (nI j, upd JJ 19 0, r7', r8', w, b14, b15, upd (upd k21 0 0) 1 0) ∧ (∀ e, e < j → r7' e = nI (sp_a (nt_N P h j x y) e) ∧ r8' e = nI (sp_b (nt_N P h j x y) e)) ∧ sp_RP w (sp_f0 (nt_N P h j x y) o s) := by
      intro a c ha hc
      refine net43 hok hb j4 j5 j6 j11 j12 d (i + 1) fu _ _ (by omega) (by omega) (fun e he => ?_)
      by_cases z : e = i
      · rw [z, upd_s, upd_s, ha, hc]
        exact ⟨rfl, rfl⟩
      · rw [upd_n z, upd_n z]
        exact hr e (by omega)
    have r14 : dk_rd b14 10 (nI i) = some (nI (x i)) := by rw [rd_nI (by omega) (by omega), hbi.1]
    have r15 : dk_rd b15 10 (nI i) = some (nI (y i)) := by rw [rd_nI (by omega) (by omega), hbi.2]
    rw [fX6_net_L43, j6, if_neg (nI_ge (by omega) (by omega)), r14, r15, sb_, sb_, sb_, sb_]
    by_cases q : x i < y i
    · rw [if_neg (nI_ge q (by omega))]
      unfold fX6_net_L86 fX6_net_L122
      rw [wr_nI (by omega) (by omega), sb_, r14, r15, sb_, sb_, sb_, sb_, if_neg (nI_ge q (by omega)), wr_nI (by omega) (by omega), sb_, nI_1]
      exact step (x i) (y i) (if_pos q).symm (if_pos q).symm
    · rw [if_pos (nI_le (by omega) (by omega))]
      unfold fX6_net_L86 fX6_net_L122
      rw [wr_nI (by omega) (by omega), sb_, r14, r15, sb_, sb_, sb_, sb_, if_pos (nI_le (by omega) (by omega)), wr_nI (by omega) (by omega), sb_, nI_1]
      exact step (y i) (x i) (if_neg q).symm (if_neg q).symm
theorem cl_net (hr : rl Q X G T C E CB SB M) : ∃ A q7 DI D5 D6 D8 GI G5 G6 TI T1 T2 CI J m7 m8 m16 m14 m15 m21, fX5_net Q X D G T C = some (A, q7, DI, D5, D6, D8, GI, G5, G6, TI, T1, T2, CI) ∧ fX6_net M = some (A, J, m7, m8, m16, m14, m15, m21) ∧ rl (Q.1, dk_upA Q.2 7 q7) X (GI, dk_upA (dk_upA G.2 5 G5) 6 G6) (TI, dk_upA (dk_upA T.2 1 T1) 2 T2) (CI, C.2) E CB SB (J, dk_upA (dk_upA (dk_upA (dk_upA (dk_upA (dk_upA M.2 7 m7) 8 m8) 16 m16) 14 m14) 15 m15) 21 m21) := by
  obtain ⟨A, I, f5, f6, f8, J, b14, b15, h1, h2, hf, ho⟩ := rl_read (D := D) hr
  have hJ := fr_J hf
  unfold fX5_net fX6_net
  rw [h1, sb_, h2, sb_]
  dsimp only
  rcases ho with ⟨rfl, P, h, o, s, j, x, y, hok, hC, hM⟩ | ⟨p, hp, rfl⟩
  · obtain ⟨k1, k2, k3, k4, k5, k6, k7, k8, k9, k10⟩ := id hok
    obtain ⟨GI, g5, g6, y1, y2, y3, y4, y5⟩ := nt_RG (G := G) (D := D) hC k8
    have hN := nt_w hok
    obtain ⟨TI, t1, t2, z1, z2⟩ := q_begin (T := T) hN y2 (h := o) (k := s) k7
    obtain ⟨m1, m2, m3, m4, m5, m6⟩ := hM
    obtain ⟨r7, r8, w, w1, w2, w3⟩ := net43 (M := M) hok (JJ := upd (upd (upd J 4 (nI P)) 5 (nI h)) 6 (nI j)) (m16 := M.2 16) (k21 := M.2 21) m6 (by rw [upd_n (by omega), upd_n (by omega), upd_s]) (by rw [upd_n (by omega), upd_s]) (by rw [upd_s]) (by rw [upd_n (by omega), upd_n (by omega), upd_n (by omega)]; exact m3) (by rw [upd_n (by omega), upd_n (by omega), upd_n (by omega)]; exact m4) j 0 1000 (M.2 7) (M.2 8) (by omega) (by omega) (fun e he => absurd he (by omega))
    have w1' : fX6_net_L43 M 1000 0 (upd (upd (upd J 4 (nI P)) 5 (nI h)) 6 (nI j)) (M.2 7) (M.2 8) (M.2 16) b14 b15 (M.2 21) = some (nI j, upd (upd (upd (upd J 4 (nI P)) 5 (nI h)) 6 (nI j)) 19 0, r7, r8, w, b14, b15, upd (upd (M.2 21) 0 0) 1 0) := w1
    rw [if_pos rfl, if_pos rfl, m1, m2, m5, w1', y1, sb_]
    dsimp only
    rw [y3, y4, z1, sb_]
    dsimp only
    unfold fX0_clear
    rw [sb_, show (1000 : Nat) = 997 + 3 from rfl, net60, y5]
    obtain ⟨N0, g0, k0, b0, n, t, l, a, c, ⟨-, -, -, -, -, -, -, h15⟩, -, hX, hE, hS, -⟩ := hr
    have q : ∀ i, (i = 2 ∨ i = 22 ∨ i = 27) → upd (upd (upd (upd J 4 (nI P)) 5 (nI h)) 6 (nI j)) 19 0 i = M.1 i := fun i hi => by
      rw [upd_n (by omega), upd_n (by omega), upd_n (by omega), upd_n (by omega)]
      exact hJ i (by omega) (by omega) (by omega) (by omega) (by omega) (by omega) (by omega)
    refine ⟨_, _, _, _, _, _, _, _, _, _, _, _, _, _, _, _, _, _, _, _, rfl, rfl, nt_N P h j x y, sp_f0 (nt_N P h j x y) o s, 0, b0, n, t, l, a, c, ⟨hN, f0_wP hN k4 k6 k7, f0_wV k7 k5, y2, z2, ⟨?_, ?_, ?_, w2⟩, w3, (q 27 (by omega)).trans h15⟩, ⟨⟨by omega, (by dsimp only; exact upd_s), fun i hi => absurd hi (by omega)⟩, ⟨by omega, (by dsimp only; exact upd_s), fun i hi => absurd hi (by omega)⟩, fun i hi => absurd hi (by omega)⟩, rl_Xk hX (q 2 (by omega)) rfl, hE, rl_Mk hS (q 22 (by omega)) rfl rfl, fun i hi => Or.inl ?_⟩
    · dsimp only
      rw [upd_n (by omega), upd_n (by omega), upd_n (by omega), upd_s]
      rfl
    · dsimp only
      rw [upd_n (by omega), upd_n (by omega), upd_s]
      rfl
    · dsimp only
      rw [upd_n (by omega), upd_s]
      rfl
    · show upd (upd (Q.2 7) 0 0) 1 0 i = 0 ∧ upd (upd (M.2 21) 0 0) 1 0 i = 0
      rcases (show i = 0 ∨ i = 1 by omega) with rfl | rfl
      · exact ⟨rfl, rfl⟩
      · exact ⟨rfl, rfl⟩
  · have ne : ¬ nI p = -9 := m9_ne (by omega)
    rw [if_neg ne, if_neg ne]
    exact ⟨_, _, _, _, _, _, _, _, _, _, _, _, _, _, _, _, _, _, _, _, rfl, rfl, rl_J (b14 := b14) (b15 := b15) hr hJ⟩
end NT
