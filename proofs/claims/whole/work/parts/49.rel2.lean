/-! the relation whole: net and page, book, text, what was seen, what is kept -/
theorem one_ne : ¬ (1 : Int32) = 0 := by decide
section RW
variable {N : sN} {g : Nat → Nat} {Q X T U G C E M : dk_O} {CB SB : Nat → dk_O} {k : Nat} {b : Nat → Nat → Nat}
def rl_X (X M : dk_O) (n : Nat) (t : Nat → Nat) : Prop := n ≤ 40 ∧ X.1 1 = nI n ∧ M.1 2 = nI n ∧ ∀ i, i < n → t i < 256 ∧ X.2 0 i = nI (t i) ∧ M.2 1 i = nI (t i)
def rl_K (N : sN) (Q : dk_O) (SB : Nat → dk_O) (M : dk_O) : Prop := ∀ j, j < 2 → (Q.2 7 j = 0 ∧ M.2 21 j = 0) ∨ (Q.2 7 j = 1 ∧ M.2 21 j = 1 ∧ ∃ g, sp_wP N g ∧ sp_wV N g ∧ sp_RT (SB j) N g ∧ ∀ i, i < 21 → M.2 20 (21 * j + i) = nI (g i))
def rl (Q X G T C E : dk_O) (CB SB : Nat → dk_O) (M : dk_O) : Prop := ∃ (N : sN) (g : Nat → Nat) (k : Nat) (b : Nat → Nat → Nat) (n : Nat) (t : Nat → Nat) (j : Nat) (a c : Nat → Nat), rl_N N g G T M ∧ rl_B N k b C CB M ∧ rl_X X M n t ∧ sp_RE E j a c ∧ sp_RM M j a c ∧ rl_K N Q SB M
theorem rl_Xk {n : Nat} {t : Nat → Nat} {J : Nat → Int32} {B : Nat → Nat → Int32} (h : rl_X X M n t) (h2 : J 2 = M.1 2) (h1 : B 1 = M.2 1) : rl_X X (J, B) n t := by
  refine ⟨h.1, h.2.1, h2.trans h.2.2.1, fun i hi => ?_⟩
  show t i < 256 ∧ X.2 0 i = nI (t i) ∧ B 1 i = nI (t i)
  rw [h1]
  exact h.2.2.2 i hi
theorem rl_Mk {n : Nat} {a c : Nat → Nat} {J : Nat → Int32} {B : Nat → Nat → Int32} (h : sp_RM M n a c) (h2 : J 22 = M.1 22) (h1 : B 23 = M.2 23) (h3 : B 24 = M.2 24) : sp_RM (J, B) n a c := by
  refine ⟨h.1, h2.trans h.2.1, fun i hi => ?_⟩
  show a i ≤ 20 ∧ c i ≤ 4 ∧ B 23 i = nI (a i) ∧ B 24 i = nI (c i)
  rw [h1, h3]
  exact h.2.2 i hi
theorem cl_step (h : rl Q X G T C E CB SB M) (v1 v2 : Int32) : ∃ A TI T1 T2 CI CB' J w B, fX5_step Q T G C CB v1 v2 = some (A, TI, T1, T2, CI, CB') ∧ fX6_step M v1 v2 = some (A, J, w, B) ∧ rl Q X G (TI, dk_upA (dk_upA T.2 1 T1) 2 T2) (CI, C.2) E CB' SB (J, dk_upA (dk_upA M.2 16 w) 18 B) := by
  obtain ⟨N, g, k, b, n, t, j, a, c, hr, hb, hX, hE, hM, hK⟩ := h
  obtain ⟨A, TI, T1, T2, CI, CB', J, w, B, e1, e2, ⟨g', k', b', r1, r2⟩, hJ⟩ := sim_step (Q := Q) hr hb v1 v2
  exact ⟨A, TI, T1, T2, CI, CB', J, w, B, e1, e2, N, g', k', b', n, t, j, a, c, r1, r2, rl_Xk hX (hJ 2 (by omega) (by omega)) rfl, hE, rl_Mk hM (hJ 22 (by omega) (by omega)) rfl rfl, hK⟩
theorem cl_round (h : rl Q X G T C E CB SB M) : ∃ A TI T1 T2 CI CB' J f w B, fX5_round Q T G C CB = some (A, TI, T1, T2, CI, CB') ∧ fX6_round M = some (A, J, f, w, B) ∧ rl Q X G (TI, dk_upA (dk_upA T.2 1 T1) 2 T2) (CI, C.2) E CB' SB (J, dk_upA (dk_upA (dk_upA M.2 26 f) 16 w) 18 B) := by
  obtain ⟨N, g, k, b, n, t, j, a, c, hr, hb, hX, hE, hM, hK⟩ := h
  obtain ⟨A, TI, T1, T2, CI, CB', J, f, w, B, e1, e2, ⟨g', k', b', r1, r2⟩, hJ⟩ := sim_round (Q := Q) hr hb
  exact ⟨A, TI, T1, T2, CI, CB', J, f, w, B, e1, e2, N, g', k', b', n, t, j, a, c, r1, r2, rl_Xk hX (hJ 2 (by omega) (by omega)) rfl, hE, rl_Mk hM (hJ 22 (by omega) (by omega)) rfl rfl, hK⟩
theorem cl_join (h : rl Q X G T C E CB SB M) : ∃ A TI T1 T2 CI CB' J w B, fX5_join Q T G C CB = some (A, TI, T1, T2, CI, CB') ∧ fX6_join M = some (A, J, w, B) ∧ rl Q X G (TI, dk_upA (dk_upA T.2 1 T1) 2 T2) (CI, C.2) E CB' SB (J, dk_upA (dk_upA M.2 16 w) 18 B) := by
  obtain ⟨N, g, k, b, n, t, j, a, c, hr, hb, hX, hE, hM, hK⟩ := h
  obtain ⟨A, TI, T1, T2, CI, CB', J, w, B, e1, e2, ⟨g', k', b', r1, r2⟩, hJ⟩ := sim_join (Q := Q) hr hb
  exact ⟨A, TI, T1, T2, CI, CB', J, w, B, e1, e2, N, g', k', b', n, t, j, a, c, r1, r2, rl_Xk hX (hJ 2 (by omega) (by omega)) rfl, hE, rl_Mk hM (hJ 22 (by omega) (by omega)) rfl rfl, hK⟩
theorem cl_hide (h : rl Q X G T C E CB SB M) (v1 : Int32) : ∃ A TI CI CB' J w B, fX5_hide Q T G C CB v1 = some (A, TI, CI, CB') ∧ fX6_hide M v1 = some (A, J, w, B) ∧ rl Q X G (TI, T.2) (CI, C.2) E CB' SB (J, dk_upA (dk_upA M.2 16 w) 18 B) := by
  obtain ⟨N, g, k, b, n, t, j, a, c, hr, hb, hX, hE, hM, hK⟩ := h
  obtain ⟨A, TI, CI, CB', J, w, B, e1, e2, ⟨g', k', b', r1, r2⟩, hJ⟩ := sim_hide (Q := Q) hr hb v1
  exact ⟨A, TI, CI, CB', J, w, B, e1, e2, N, g', k', b', n, t, j, a, c, r1, r2, rl_Xk hX (hJ 2 (by omega) (by omega)) rfl, hE, rl_Mk hM (hJ 22 (by omega) (by omega)) rfl rfl, hK⟩
theorem cl_undo (h : rl Q X G T C E CB SB M) : ∃ A TI T1 T2 CI J w, fX5_undo Q T C CB = some (A, TI, T1, T2, CI) ∧ fX6_undo M = some (A, J, w) ∧ rl Q X G (TI, dk_upA (dk_upA T.2 1 T1) 2 T2) (CI, C.2) E CB SB (J, dk_upA M.2 16 w) := by
  obtain ⟨N, g, k, b, n, t, j, a, c, hr, hb, hX, hE, hM, hK⟩ := h
  obtain ⟨A, TI, T1, T2, CI, J, w, e1, e2, ⟨g', k', b', r1, r2⟩, hJ⟩ := sim_undo (Q := Q) hr hb
  exact ⟨A, TI, T1, T2, CI, J, w, e1, e2, N, g', k', b', n, t, j, a, c, r1, r2, rl_Xk hX (hJ 2 (by omega) (by omega)) rfl, hE, rl_Mk hM (hJ 22 (by omega) (by omega)) rfl rfl, hK⟩
-- what only asks: the reference's thrown, its trial and its distances are of no account
theorem rl_ask {f u : Nat → Int32} (h : rl Q X G T C E CB SB M) : rl Q X G T C E CB SB (upd M.1 0 0, dk_upA (dk_upA M.2 26 f) 17 u) := h
theorem rl_ask1 (h : rl Q X G T C E CB SB M) : rl Q X G T C E CB SB (upd M.1 0 0, M.2) := h
theorem rl_ask17 {u : Nat → Int32} (h : rl Q X G T C E CB SB M) : rl Q X G T C E CB SB (upd M.1 0 0, dk_upA M.2 17 u) := h
theorem rl_ask26 {u : Nat → Int32} (h : rl Q X G T C E CB SB M) : rl Q X G T C E CB SB (upd M.1 0 0, dk_upA M.2 26 u) := h
-- the text
theorem cl_write (h : rl Q X G T C E CB SB M) (v : Int32) : ∃ A I f J w, fX5_write Q X v = some (A, I, f) ∧ fX6_write M v = some (A, J, w) ∧ rl Q (I, dk_upA X.2 0 f) G T C E CB SB (J, dk_upA M.2 1 w) := by
  obtain ⟨N, g, k, b, n, t, j, a, c, hr, hb, hX, hE, hM, hK⟩ := id h
  obtain ⟨x1, x2, x3, x4⟩ := hX
  unfold fX5_write fX6_write
  have same : rl Q (X.1, dk_upA X.2 0 (X.2 0)) G T C E CB SB (upd M.1 0 0, dk_upA M.2 1 (M.2 1)) := ⟨N, g, k, b, n, t, j, a, c, hr, hb, ⟨x1, x2, x3, x4⟩, hE, hM, hK⟩
  rcases v_cases v (n := 256) (by omega) with o | ⟨y, hy, rfl⟩
  · have i0 : fX6_in v.toInt64 0 255 = some 0 := by
      have := no_out (v := v) (n := 256) (by omega) (by omega) o
      exact this
    rw [i0, sb_, if_pos rfl]
    by_cases q : v < 0
    · rw [if_pos q]
      exact ⟨_, _, _, _, _, rfl, rfl, same⟩
    · have q2 : ¬ v ≤ 255 := fun z => by
        have o2 := o.resolve_left q
        rw [fa_le] at z o2
        rw [nI_toInt (by omega)] at o2
        have : (255 : Int32).toInt = 255 := by decide
        omega
      rw [if_neg q, if_neg q2]
      exact ⟨_, _, _, _, _, rfl, rfl, same⟩
  · have i1 : fX6_in (nI y).toInt64 0 255 = some 1 := by
      have := no_in (k := y) (n := 256) hy (by omega)
      exact this
    rw [i1, sb_, if_neg one_ne, if_neg (nI_pos (by omega)), if_pos (show nI y ≤ 255 from nI_le (b := 255) (by omega) (by omega))]
    unfold fX4_isFull fX4_add fX4_isFull
    rw [x2, x3]
    by_cases q : n < 40
    · have e1 : rl_X (upd X.1 1 (nI (n + 1)), dk_upA X.2 0 (upd (X.2 0) n (nI y))) (upd (upd M.1 0 0) 2 (nI (n + 1)), dk_upA M.2 1 (upd (M.2 1) n (nI y))) (n + 1) (fun i => if i = n then y else t i) := by
        refine ⟨by omega, (by dsimp only; first | exact upd_s | (rw [upd_s]; rfl)), (by dsimp only; first | exact upd_s | (rw [upd_s]; rfl)), fun i hi => ?_⟩
        show _ ∧ upd (X.2 0) n (nI y) i = _ ∧ upd (M.2 1) n (nI y) i = _
        by_cases z : i = n
        · simp only [z, if_true, upd_s]
          exact ⟨hy, trivial, trivial⟩
        · rw [upd_n z, upd_n z]
          simp only [z, if_false]
          exact x4 i (by omega)
      rw [if_pos (show nI n < 40 from nI_lt (b := 40) q (by omega)), sb_, if_pos rfl, sb_, if_pos rfl, if_neg (show ¬ nI n = 40 from fun z => by have := (nI_eq (b := 40) (by omega) (by omega)).mp z; omega), wr_nI q (by omega), sb_, sb_, wr_nI q (by omega), sb_, nI_1]
      exact ⟨_, _, _, _, _, rfl, rfl, N, g, k, b, _, _, j, a, c, hr, hb, e1, hE, hM, hK⟩
    · have e40 : n = 40 := by omega
      rw [if_neg (show ¬ nI n < 40 from nI_nlt (b := 40) (by omega) (by omega)), sb_, if_neg one_ne, if_pos (by rw [e40]; rfl)]
      exact ⟨_, _, _, _, _, rfl, rfl, same⟩
theorem cl_wipe (h : rl Q X G T C E CB SB M) : ∃ A I J, fX5_wipe Q X = some (A, I) ∧ fX6_wipe M = some (A, J) ∧ rl Q (I, X.2) G T C E CB SB (J, M.2) := by
  obtain ⟨N, g, k, b, n, t, j, a, c, hr, hb, hX, hE, hM, hK⟩ := h
  obtain ⟨x1, x2, x3, x4⟩ := hX
  unfold fX5_wipe fX6_wipe fX4_clear
  rw [x2, x3, sb_]
  exact ⟨_, _, _, rfl, rfl, N, g, k, b, 0, t, j, a, c, hr, hb, ⟨by omega, (by dsimp only; first | exact upd_s | (rw [upd_s]; rfl)), (by dsimp only; first | exact upd_s | (rw [upd_s]; rfl)), fun i hi => absurd hi (by omega)⟩, hE, hM, hK⟩
-- seen
theorem oos_in {r v : Nat} (hr : r < 21) (hv : v < 5) : fX5_isOutsideOfSeen (nI r) (nI v) = some 0 := by
  unfold fX5_isOutsideOfSeen
  rw [if_neg (nI_pos (by omega)), if_neg (show ¬ (20 : Int32) < nI r from nI_nlt (a := 20) (by omega) (by omega)), if_neg (nI_pos (by omega)), if_pos (show nI v ≤ 4 from nI_le (b := 4) (by omega) (by omega))]
theorem oos_r {v1 v2 : Int32} (h : v1 < 0 ∨ nI 21 ≤ v1) : fX5_isOutsideOfSeen v1 v2 = some 1 := by
  unfold fX5_isOutsideOfSeen
  by_cases q : v1 < 0
  · rw [if_pos q]
  · have o := h.resolve_left q
    rw [fa_le, nI_toInt (by omega)] at o
    rw [if_neg q, if_pos (show (20 : Int32) < v1 by rw [fa_lt]; have : (20 : Int32).toInt = 20 := by decide
                                                    omega)]
theorem oos_v {r : Nat} {v2 : Int32} (hr : r < 21) (h : v2 < 0 ∨ nI 5 ≤ v2) : fX5_isOutsideOfSeen (nI r) v2 = some 1 := by
  unfold fX5_isOutsideOfSeen
  rw [if_neg (nI_pos (by omega)), if_neg (show ¬ (20 : Int32) < nI r from nI_nlt (a := 20) (by omega) (by omega))]
  by_cases q : v2 < 0
  · rw [if_pos q]
  · have o := h.resolve_left q
    rw [fa_le, nI_toInt (by omega)] at o
    rw [if_neg q, if_neg (show ¬ v2 ≤ 4 by rw [fa_le]; have : (4 : Int32).toInt = 4 := by decide
                                           omega)]
theorem in20_in {r : Nat} (h : r < 21) : fX6_in (nI r).toInt64 0 20 = some 1 := no_in (k := r) (n := 21) h (by omega)
theorem in20_out {v : Int32} (h : v < 0 ∨ nI 21 ≤ v) : fX6_in v.toInt64 0 20 = some 0 := no_out (v := v) (n := 21) (by omega) (by omega) h
theorem in4_in {r : Nat} (h : r < 5) : fX6_in (nI r).toInt64 0 4 = some 1 := no_in (k := r) (n := 5) h (by omega)
theorem in4_out {v : Int32} (h : v < 0 ∨ nI 5 ≤ v) : fX6_in v.toInt64 0 4 = some 0 := no_out (v := v) (n := 5) (by omega) (by omega) h
theorem cl_see (h : rl Q X G T C E CB SB M) (v1 v2 : Int32) : ∃ A I f0 f1 J w0 w1, fX5_see Q E v1 v2 = some (A, I, f0, f1) ∧ fX6_see M v1 v2 = some (A, J, w0, w1) ∧ rl Q X G T C (I, dk_upA (dk_upA E.2 0 f0) 1 f1) CB SB (J, dk_upA (dk_upA M.2 23 w0) 24 w1) := by
  obtain ⟨N, g, k, b, n, t, j, a, c, hr, hb, hX, hE, hM, hK⟩ := id h
  have same : rl Q X G T C (E.1, dk_upA (dk_upA E.2 0 (E.2 0)) 1 (E.2 1)) CB SB (upd M.1 0 0, dk_upA (dk_upA M.2 23 (M.2 23)) 24 (M.2 24)) := ⟨N, g, k, b, n, t, j, a, c, hr, hb, hX, hE, hM, hK⟩
  obtain ⟨e1, e2, e3⟩ := hE
  obtain ⟨m1, m2, m3⟩ := hM
  unfold fX5_see fX6_see
  rcases v_cases v1 (n := 21) (by omega) with o | ⟨r, hr1, rfl⟩
  · rw [oos_r o, sb_, if_neg one_ne, in20_out o, sb_, if_pos rfl]
    exact ⟨_, _, _, _, _, _, _, rfl, rfl, same⟩
  · rw [in20_in hr1, sb_, if_neg one_ne]
    rcases v_cases v2 (n := 5) (by omega) with o | ⟨v, hv1, rfl⟩
    · rw [oos_v hr1 o, sb_, if_neg one_ne, in4_out o, sb_, if_pos rfl]
      exact ⟨_, _, _, _, _, _, _, rfl, rfl, same⟩
    · rw [oos_in hr1 hv1, sb_, if_pos rfl, in4_in hv1, sb_, if_neg one_ne]
      unfold fX2_add
      rw [e2, m2]
      by_cases q : j < 6
      · have l1 : nI j < 6 := nI_lt (b := 6) q (by omega)
        have E1 : sp_RE (upd E.1 2 (nI (j + 1)), dk_upA (dk_upA E.2 0 (upd (E.2 0) j (nI r))) 1 (upd (E.2 1) j (nI v))) (j + 1) (fun i => if i = j then r else a i) (fun i => if i = j then v else c i) := by
          refine ⟨by omega, (by dsimp only; first | exact upd_s | (rw [upd_s]; rfl)), fun i hi => ?_⟩
          show _ ∧ _ ∧ upd (E.2 0) j (nI r) i = _ ∧ upd (E.2 1) j (nI v) i = _
          by_cases z : i = j
          · simp only [z, if_true, upd_s]
            exact ⟨by omega, by omega, trivial, trivial⟩
          · rw [upd_n z, upd_n z]
            simp only [z, if_false]
            exact e3 i (by omega)
        have M1 : sp_RM (upd (upd M.1 0 0) 22 (nI (j + 1)), dk_upA (dk_upA M.2 23 (upd (M.2 23) j (nI r))) 24 (upd (M.2 24) j (nI v))) (j + 1) (fun i => if i = j then r else a i) (fun i => if i = j then v else c i) := by
          refine ⟨by omega, (by dsimp only; first | exact upd_s | (rw [upd_s]; rfl)), fun i hi => ?_⟩
          show _ ∧ _ ∧ upd (M.2 23) j (nI r) i = _ ∧ upd (M.2 24) j (nI v) i = _
          by_cases z : i = j
          · simp only [z, if_true, upd_s]
            exact ⟨by omega, by omega, trivial, trivial⟩
          · rw [upd_n z, upd_n z]
            simp only [z, if_false]
            exact m3 i (by omega)
        rw [if_pos l1, if_neg (show ¬ (6 : Int32) ≤ nI j from nI_ge (b := 6) q (by omega)), if_neg (show ¬ nI j = 6 from fun z => by have := (nI_eq (b := 6) (by omega) (by omega)).mp z; omega), wr_nI q (by omega), sb_, wr_nI q (by omega), sb_, sb_, wr_nI q (by omega), sb_, wr_nI q (by omega), sb_, nI_1]
        exact ⟨_, _, _, _, _, _, _, rfl, rfl, N, g, k, b, n, t, _, _, _, hr, hb, hX, E1, M1, hK⟩
      · have e6 : j = 6 := by omega
        rw [if_neg (show ¬ nI j < 6 from nI_nlt (b := 6) (by omega) (by omega)), if_pos (by rw [e6]; rfl)]
        exact ⟨_, _, _, _, _, _, _, rfl, rfl, same⟩
theorem cl_unsee (h : rl Q X G T C E CB SB M) : ∃ A I J, fX5_unsee Q E = some (A, I) ∧ fX6_unsee M = some (A, J) ∧ rl Q X G T C (I, E.2) CB SB (J, M.2) := by
  obtain ⟨N, g, k, b, n, t, j, a, c, hr, hb, hX, hE, hM, hK⟩ := h
  obtain ⟨e1, e2, e3⟩ := hE
  obtain ⟨m1, m2, m3⟩ := hM
  unfold fX5_unsee fX6_unsee fX2_clear
  rw [e2, m2, sb_]
  exact ⟨_, _, _, rfl, rfl, N, g, k, b, n, t, 0, a, c, hr, hb, hX, ⟨by omega, (by dsimp only; first | exact upd_s | (rw [upd_s]; rfl)), fun i hi => absurd hi (by omega)⟩, ⟨by omega, (by dsimp only; first | exact upd_s | (rw [upd_s]; rfl)), fun i hi => absurd hi (by omega)⟩, hK⟩
-- slots
theorem m_keep_L {J kk : Nat → Int32} {s : Nat} (hs : s < 2) (hw : sp_RP (M.2 16) g) {B0 : Nat → Int32} : ∀ d i fu (B : Nat → Int32), i + d = 21 → d < fu → (∀ l, l < i → B (21 * s + l) = nI (g l)) → (∀ l, (l < 21 * s ∨ 21 * s + 21 ≤ l) → B l = B0 l) → ∃ B', fX6_keep_L26 M fu (nI s) (nI i) J B kk = some (nI (g 2), J, B', kk) ∧ (∀ l, l < 21 → B' (21 * s + l) = nI (g l)) ∧ ∀ l, (l < 21 * s ∨ 21 * s + 21 ≤ l) → B' l = B0 l
  | 0, i, fu, B, h1, h2, hl, ho => by
    obtain ⟨fu, rfl⟩ : ∃ k, fu = k + 1 := ⟨fu - 1, by omega⟩
    have r2 : dk_rd (M.2 16) 21 2 = some (nI (g 2)) := rd_w hw (k := 2) (by omega)
    rw [fX6_keep_L26, if_pos (show (21 : Int32) ≤ nI i from nI_le (a := 21) (by omega) (by omega)), r2, sb_]
    exact ⟨B, rfl, fun l h => hl l (by omega), ho⟩
  | d + 1, i, fu, B, h1, h2, hl, ho => by
    obtain ⟨fu, rfl⟩ : ∃ k, fu = k + 1 := ⟨fu - 1, by omega⟩
    have e : (21 : Int32) * nI s + nI i = nI (21 * s + i) := by
      rw [show (21 : Int32) * nI s = nI (21 * s) from pk_mul 21 s, nI_add]
    rw [fX6_keep_L26, if_neg (show ¬ (21 : Int32) ≤ nI i from nI_ge (b := 21) (by omega) (by omega)), rd_w hw (by omega), sb_, e, wr_nI (by omega) (by omega), sb_, nI_1]
    refine m_keep_L hs hw d (i + 1) fu _ (by omega) (by omega) (fun l h => ?_) (fun l h => ?_)
    · by_cases z : l = i
      · rw [z, upd_s]
      · rw [upd_n (by omega)]; exact hl l (by omega)
    · rw [upd_n (by omega)]; exact ho l h
theorem in1_in {r : Nat} (h : r < 2) : fX6_in (nI r).toInt64 0 1 = some 1 := no_in (k := r) (n := 2) h (by omega)
theorem in1_out {v : Int32} (h : v < 0 ∨ nI 2 ≤ v) : fX6_in v.toInt64 0 1 = some 0 := no_out (v := v) (n := 2) (by omega) (by omega) h
theorem q_keep (hT : sp_RT T N g) {s : Nat} (hs : s < 2) : ∃ Z, fX5_keep Q T SB (nI s) = some (T.1 5, upd (Q.2 7) s 1, dk_upB SB s Z) ∧ sp_RT Z N g := by
  unfold fX5_keep
  rw [if_neg (nI_pos (by omega)), if_pos (show nI s < 2 from nI_lt (b := 2) hs (by omega))]
  rcases (show s = 0 ∨ s = 1 by omega) with rfl | rfl
  · obtain ⟨I, a1, a2, y1, y2⟩ := q_become (T := SB 0) hT
    have w : dk_wr (Q.2 7) 2 (nI 0) 1 = some (upd (Q.2 7) 0 1) := wr_nI (by omega) (by omega)
    rw [if_pos (show nI 0 = 0 from rfl), y1, sb_]
    dsimp only
    rw [w, sb_]
    exact ⟨_, rfl, y2⟩
  · obtain ⟨I, a1, a2, y1, y2⟩ := q_become (T := SB 1) hT
    have w : dk_wr (Q.2 7) 2 (nI 1) 1 = some (upd (Q.2 7) 1 1) := wr_nI (by omega) (by omega)
    rw [if_neg (show ¬ nI 1 = 0 by decide), if_pos (show nI 1 = 1 from rfl), y1, sb_]
    dsimp only
    rw [w, sb_]
    exact ⟨_, rfl, y2⟩
theorem cl_keep (h : rl Q X G T C E CB SB M) (v : Int32) : ∃ A f S J B kk, fX5_keep Q T SB v = some (A, f, S) ∧ fX6_keep M v = some (A, J, B, kk) ∧ rl (Q.1, dk_upA Q.2 7 f) X G T C E CB S (J, dk_upA (dk_upA M.2 20 B) 21 kk) := by
  obtain ⟨N, g, k, b, n, t, j, a, c, hr, hb, hX, hE, hM, hK⟩ := id h
  unfold fX6_keep
  rcases v_cases v (n := 2) (by omega) with o | ⟨s, hs, rfl⟩
  · have same : rl (Q.1, dk_upA Q.2 7 (Q.2 7)) X G T C E CB SB (upd M.1 0 0, dk_upA (dk_upA M.2 20 (M.2 20)) 21 (M.2 21)) := ⟨N, g, k, b, n, t, j, a, c, hr, hb, hX, hE, hM, hK⟩
    rw [in1_out o, sb_, if_pos rfl]
    unfold fX5_keep
    by_cases q : v < 0
    · rw [if_pos q]
      exact ⟨_, _, _, _, _, _, rfl, rfl, same⟩
    · have q2 : ¬ v < 2 := fun z => by
        have o2 := o.resolve_left q
        rw [fa_le, nI_toInt (by omega)] at o2
        rw [fa_lt] at z
        have : (2 : Int32).toInt = 2 := by decide
        omega
      rw [if_neg q, if_neg q2]
      exact ⟨_, _, _, _, _, _, rfl, rfl, same⟩
  · obtain ⟨hN, hP, hV, hG, hT, hMN, hw, h15⟩ := id hr
    obtain ⟨Z, y1, y2⟩ := q_keep (Q := Q) (SB := SB) hT hs
    obtain ⟨B', u1, u2, u3⟩ := m_keep_L (M := M) (J := upd M.1 0 0) (kk := upd (M.2 21) s 1) hs hw (B0 := M.2 20) 21 0 1000 (M.2 20) (by omega) (by omega) (fun l h => absurd h (by omega)) (fun l _ => rfl)
    have u1' : fX6_keep_L26 M 1000 (nI s) 0 (upd M.1 0 0) (M.2 20) (upd (M.2 21) s 1) = some (nI (g 2), upd M.1 0 0, B', upd (M.2 21) s 1) := u1
    rw [in1_in hs, sb_, if_neg one_ne, wr_nI hs (by omega), sb_, u1', y1, hT.2.2.1]
    refine ⟨_, _, _, _, _, _, rfl, rfl, N, g, k, b, n, t, j, a, c, hr, hb, hX, hE, hM, fun i hi => ?_⟩
    show (upd (Q.2 7) s 1 i = 0 ∧ upd (M.2 21) s 1 i = 0) ∨ (upd (Q.2 7) s 1 i = 1 ∧ upd (M.2 21) s 1 i = 1 ∧ ∃ g, sp_wP N g ∧ sp_wV N g ∧ sp_RT (dk_upB SB s Z i) N g ∧ ∀ l, l < 21 → B' (21 * i + l) = nI (g l))
    by_cases z : i = s
    · right
      rw [z, upd_s, upd_s]
      refine ⟨rfl, rfl, g, hP, hV, ?_, u2⟩
      rw [show dk_upB SB s Z s = Z from if_pos rfl]
      exact y2
    · rw [upd_n z, upd_n z, show dk_upB SB s Z i = SB i from if_neg z]
      rcases hK i hi with q | ⟨q1, q2, g2, p1, p2, p3, p4⟩
      · exact Or.inl q
      · exact Or.inr ⟨q1, q2, g2, p1, p2, p3, fun l hl => by rw [u3 _ (by omega)]; exact p4 l hl⟩
theorem m_again_L {J : Nat → Int32} {s : Nat} (hs : s < 2) (hb : ∀ i, i < 21 → M.2 20 (21 * s + i) = nI (g i)) : ∀ d i fu (w : Nat → Int32), i + d = 21 → d < fu → (∀ l, l < i → w l = nI (g l)) → ∃ w', fX6_again_L31 M fu (nI s) (nI i) J w = some (nI (g 2), upd J 19 0, w') ∧ sp_RP w' g
  | 0, i, fu, w, h1, h2, hl => by
    obtain ⟨fu, rfl⟩ : ∃ k, fu = k + 1 := ⟨fu - 1, by omega⟩
    have hw : sp_RP w g := fun l h => hl l (by omega)
    have r2 : dk_rd w 21 2 = some (nI (g 2)) := rd_w hw (k := 2) (by omega)
    rw [fX6_again_L31, if_pos (show (21 : Int32) ≤ nI i from nI_le (a := 21) (by omega) (by omega)), r2, sb_]
    exact ⟨w, rfl, hw⟩
  | d + 1, i, fu, w, h1, h2, hl => by
    obtain ⟨fu, rfl⟩ : ∃ k, fu = k + 1 := ⟨fu - 1, by omega⟩
    have e : (21 : Int32) * nI s + nI i = nI (21 * s + i) := by
      rw [show (21 : Int32) * nI s = nI (21 * s) from pk_mul 21 s, nI_add]
    rw [fX6_again_L31, if_neg (show ¬ (21 : Int32) ≤ nI i from nI_ge (b := 21) (by omega) (by omega)), e, rd_nI (by omega) (by omega), sb_, hb i (by omega), wr_nI (by omega) (by omega), sb_, nI_1]
    refine m_again_L hs hb d (i + 1) fu _ (by omega) (by omega) (fun l h => ?_)
    by_cases z : l = i
    · rw [z, upd_s]
    · rw [upd_n z]; exact hl l (by omega)
theorem q_again {s : Nat} (hs : s < 2) (hf : Q.2 7 s = 1) (hS : sp_RT (SB s) N g) : ∃ I a1 a2, fX5_again Q T SB C (nI s) = some (I 5, I, a1, a2, upd C.1 1 0) ∧ sp_RT (I, dk_upA (dk_upA T.2 1 a1) 2 a2) N g := by
  obtain ⟨I, a1, a2, y1, y2⟩ := q_become (T := T) hS
  refine ⟨I, a1, a2, ?_, y2⟩
  unfold fX5_again fX0_clear
  rw [if_neg (nI_pos (by omega)), if_pos (show nI s < 2 from nI_lt (b := 2) hs (by omega)), rd_nI hs (by omega), sb_, hf, if_neg one_ne]
  rcases (show s = 0 ∨ s = 1 by omega) with rfl | rfl
  · rw [if_pos (show nI 0 = 0 from rfl), y1]
    rfl
  · rw [if_neg (show ¬ nI 1 = 0 by decide), if_pos (show nI 1 = 1 from rfl), y1]
    rfl
theorem cl_again (h : rl Q X G T C E CB SB M) (v : Int32) : ∃ A TI T1 T2 CI J w, fX5_again Q T SB C v = some (A, TI, T1, T2, CI) ∧ fX6_again M v = some (A, J, w) ∧ rl Q X G (TI, dk_upA (dk_upA T.2 1 T1) 2 T2) (CI, C.2) E CB SB (J, dk_upA M.2 16 w) := by
  obtain ⟨N, g, k, b, n, t, j, a, c, hr, hb, hX, hE, hM, hK⟩ := id h
  have same : rl Q X G (T.1, dk_upA (dk_upA T.2 1 (T.2 1)) 2 (T.2 2)) (C.1, C.2) E CB SB (upd M.1 0 0, dk_upA M.2 16 (M.2 16)) := ⟨N, g, k, b, n, t, j, a, c, hr, hb, hX, hE, hM, hK⟩
  unfold fX6_again
  rcases v_cases v (n := 2) (by omega) with o | ⟨s, hs, rfl⟩
  · rw [in1_out o, sb_, if_pos rfl]
    unfold fX5_again
    by_cases q : v < 0
    · rw [if_pos q]
      exact ⟨_, _, _, _, _, _, _, rfl, rfl, same⟩
    · have q2 : ¬ v < 2 := fun z => by
        have o2 := o.resolve_left q
        rw [fa_le, nI_toInt (by omega)] at o2
        rw [fa_lt] at z
        have : (2 : Int32).toInt = 2 := by decide
        omega
      rw [if_neg q, if_neg q2]
      exact ⟨_, _, _, _, _, _, _, rfl, rfl, same⟩
  · rw [in1_in hs, sb_, if_neg one_ne, rd_nI hs (by omega), sb_]
    rcases hK s hs with ⟨q1, q2⟩ | ⟨q1, q2, g2, p1, p2, p3, p4⟩
    · rw [q2, if_pos rfl]
      unfold fX5_again
      rw [if_neg (nI_pos (by omega)), if_pos (show nI s < 2 from nI_lt (b := 2) hs (by omega)), rd_nI hs (by omega), sb_, q1, if_pos rfl]
      exact ⟨_, _, _, _, _, _, _, rfl, rfl, same⟩
    · obtain ⟨I, a1, a2, y1, y2⟩ := q_again (T := T) (C := C) hs q1 p3
      obtain ⟨w', u1, u2⟩ := m_again_L (M := M) (J := upd M.1 0 0) hs p4 21 0 1000 (M.2 16) (by omega) (by omega) (fun l h => absurd h (by omega))
      have u1' : fX6_again_L31 M 1000 (nI s) 0 (upd M.1 0 0) (M.2 16) = some (nI (g2 2), upd (upd M.1 0 0) 19 0, w') := u1
      have e5 : I 5 = nI (g2 2) := y2.2.2.1
      rw [q2, if_neg one_ne, u1', y1, e5]
      obtain ⟨hN, hP, hV, hG, hT, hMN, hw, h15⟩ := id hr
      exact ⟨_, _, _, _, _, _, _, rfl, rfl, N, g2, 0, b, n, t, j, a, c, ⟨hN, p1, p2, hG, y2, hMN, u2, h15⟩, ⟨⟨by omega, (by dsimp only; first | exact upd_s | (rw [upd_s]; rfl)), fun i hi => absurd hi (by omega)⟩, ⟨by omega, (by dsimp only; first | exact upd_s | (rw [upd_s]; rfl)), fun i hi => absurd hi (by omega)⟩, fun i hi => absurd hi (by omega)⟩, hX, hE, hM, hK⟩
theorem cl_seed (s v : Int64) : fX5_seed s Q v = some (s, v) ∧ fX6_seed s M v = some (s, upd M.1 0 0, v) := ⟨rfl, rfl⟩
theorem cl_count (h : rl Q X G T C E CB SB M) (v : Int32) : ∃ A, fX5_count Q X G T C E v = some A ∧ fX6_count M v = some (A, upd M.1 0 0) := by
  obtain ⟨N, g, k, b, n, t, j, a, c, hr, hb, hX, hE, hM, hK⟩ := h
  obtain ⟨hN, hP, hV, hG, hT, hMN, hw, h15⟩ := hr
  have r1 : dk_rd (M.2 16) 21 1 = some (nI (g 1)) := rd_w hw (k := 1) (by omega)
  have r0 : dk_rd (M.2 16) 21 0 = some (nI (g 0)) := rd_w hw (k := 0) (by omega)
  unfold fX5_count fX6_count
  rw [r1, r0, sb_, sb_, hX.2.1, hX.2.2.1, hG.1, hG.2.1, hG.2.2.1, hT.1, hT.2.1, hb.1.2.1, hb.2.1.2.1, hE.2.1, hM.2.1, hMN.1, hMN.2.1, hMN.2.2.1]
  by_cases h0 : v = 0
  · rw [if_pos h0, if_pos h0]; exact ⟨_, rfl, rfl⟩
  rw [if_neg h0, if_neg h0]
  by_cases h1 : v = 1
  · rw [if_pos h1, if_pos h1]; exact ⟨_, rfl, rfl⟩
  rw [if_neg h1, if_neg h1]
  by_cases h2 : v = 2
  · rw [if_pos h2, if_pos h2]; exact ⟨_, rfl, rfl⟩
  rw [if_neg h2, if_neg h2]
  by_cases h3 : v = 3
  · rw [if_pos h3, if_pos h3]; exact ⟨_, rfl, rfl⟩
  rw [if_neg h3, if_neg h3]
  by_cases h4 : v = 4
  · rw [if_pos h4, if_pos h4]; exact ⟨_, rfl, rfl⟩
  rw [if_neg h4, if_neg h4]
  by_cases h5 : v = 5
  · rw [if_pos h5, if_pos h5]; exact ⟨_, rfl, rfl⟩
  rw [if_neg h5, if_neg h5]
  by_cases h6 : v = 6
  · rw [if_pos h6, if_pos h6]; exact ⟨_, rfl, rfl⟩
  rw [if_neg h6, if_neg h6]
  by_cases h7 : v = 7
  · rw [if_pos h7, if_pos h7]; exact ⟨_, rfl, rfl⟩
  rw [if_neg h7, if_neg h7]; exact ⟨_, rfl, rfl⟩
end RW
