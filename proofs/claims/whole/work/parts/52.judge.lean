/-! judge; share -/
section JU
variable {N : sN} {g : Nat → Nat} {Q X T U G C E M : dk_O} {CB SB : Nat → dk_O} {k : Nat} {b : Nat → Nat → Nat}
theorem pw_all : ∀ n, n < 5 → fX6_longPower 1000 (nI n) = some (tb_T n) := by decide +kernel
theorem tb_lN : ∀ n, n < 5 → tb_T n = lN (1000 ^ n) := by decide +kernel
theorem tb_m1 : ∀ n, n < 5 → (tb_T n - 1).toInt = (tb_T n).toInt - 1 := by decide +kernel
theorem tb_n0 : ∀ n, n < 5 → ¬ tb_T n = 0 := by decide +kernel
theorem p1000 : ∀ n, n < 5 → 0 < 1000 ^ n ∧ 1000 ^ n < 2 ^ 63 := by decide +kernel
theorem rdL_nI {f : Nat → Int64} {n k : Nat} (hk : k < n) (hn : n < 2 ^ 31) : dk_rdL f n (nI k) = some (f k) := by
  unfold dk_rdL
  rw [nI_toInt (by omega), if_pos (by omega), nI_clamp (by omega)]
theorem div100 {y : Nat} (hy : y < 2 ^ 31) : nI y / 100 = nI (y / 100) := pk_div (d := 100) hy (by omega) (by omega)
theorem judge_L (hN : sp_wN N) (hG : sp_RG G N) {J : Nat → Int32} (hM : sp_RN (J, M.2) N) (h15 : J 27 = 15) {n w : Nat} (hn : n ≤ 4) (hw63 : w < 2 ^ 63) : ∀ d i fu (g : Nat → Nat) (I a1 a2 f u : Nat → Int32), i + d = n → d < fu → sp_wP N g → sp_RT (I, dk_upA (dk_upA U.2 1 a1) 2 a2) N g → sp_RP u g → ∃ A I' a1' a2' f' u', fX5_judge_L43 Q T G U fu (nI n) (lN w) (nI i) I a1 a2 = some (A, I', a1', a2') ∧ fX6_judge_L51 M fu (nI n) (lN w) (nI i) J f u = some (A, J, f', u')
  | 0, i, fu, g, I, a1, a2, f, u, h1, h2, hP, hT, hw => by
    obtain ⟨fu, rfl⟩ : ∃ k, fu = k + 1 := ⟨fu - 1, by omega⟩
    rw [fX5_judge_L43, fX6_judge_L51, if_pos (nI_le (by omega) (by omega)), if_pos (nI_le (by omega) (by omega))]
    exact ⟨_, _, _, _, _, _, rfl, rfl⟩
  | d + 1, i, fu, g, I, a1, a2, f, u, h1, h2, hP, hT, hw => by
    obtain ⟨fu, rfl⟩ : ∃ k, fu = k + 1 := ⟨fu - 1, by omega⟩
    have e1 : nI n - 1 - nI i = nI d := by
      rw [show nI n - 1 = nI (n - 1) from pk_sub (b := 1) (by omega), pk_sub (by omega)]
      congr 1
      omega
    have pp := p1000 d (by omega)
    have e2 : lN w / tb_T d - lN w / tb_T d / 1000 * 1000 = lN (w / 1000 ^ d % 1000) := by
      rw [tb_lN d (by omega), pk_lDiv hw63 pp.1 pp.2]
      exact pk_lRem (b := 1000) (Nat.lt_of_le_of_lt (Nat.div_le_self _ _) hw63) (by omega) (by omega)
    have ht : w / 1000 ^ d % 1000 < 1000 := Nat.mod_lt _ (by omega)
    rw [fX5_judge_L43, fX6_judge_L51, if_neg (nI_ge (by omega) (by omega)), if_neg (nI_ge (by omega) (by omega)), e1, rdL_nI (by omega) (by omega), sb_, pw_all d (by omega), sb_, if_neg (tb_n0 d (by omega)), if_neg (tb_n0 d (by omega)), e2, lN_i]
    generalize w / 1000 ^ d % 1000 = y at ht
    rw [div100 (by omega), rem10 (y := y) (by omega), div10 (by omega), rem10 (by omega), nI_1]
    obtain ⟨A, I', b1, b2, f', u', g', x1, x2, x3, x4, x5⟩ := does (T := (I, dk_upA (dk_upA U.2 1 a1) 2 a2)) (M := (J, dk_upA (dk_upA M.2 26 f) 17 u)) hN hP hG hT hM h15 hw (x := y / 100) (y := y / 10 % 10) (z := y % 10) (by omega) (by omega) (by omega)
    rw [x1, sb_, x2, sb_]
    dsimp only
    by_cases q : A = 0
    · rw [if_pos q, if_pos q]
      exact ⟨_, _, _, _, _, _, rfl, rfl⟩
    · rw [if_neg q, if_neg q]
      exact judge_L hN hG hM h15 hn hw63 d (i + 1) fu g' I' b1 b2 f' u' (by omega) (by omega) x3 x4 x5
theorem in14_in {r : Nat} (h0 : 1 ≤ r) (h : r ≤ 4) : fX6_in (nI r).toInt64 1 4 = some 1 := by
  rw [in_eq, if_pos]
  exact ⟨(fa_wide_le 1 (nI r)).mpr (nI_le (a := 1) h0 (by omega)), (fa_wide_le (nI r) 4).mpr (nI_le (b := 4) h (by omega))⟩
theorem in14_out {v : Int32} (h : v < 1 ∨ 4 < v) : fX6_in v.toInt64 1 4 = some 0 := by
  rw [in_eq, if_neg]
  rintro ⟨q1, q2⟩
  have q1 := (fa_wide_le 1 v).mp q1
  have q2 := (fa_wide_le v 4).mp q2
  rw [fa_le] at q1 q2
  rcases h with h | h <;> rw [fa_lt] at h <;> omega
theorem cl_judge (h : rl Q X G T C E CB SB M) (v : Int32) (z : Int64) : ∃ A I a1 a2 f u, fX5_judge Q T G U v z = some (A, I, a1, a2) ∧ fX6_judge M v z = some (A, upd M.1 0 0, f, u) := by
  obtain ⟨N, g, k, b, n, t, j, a, c, hr, hb, hX, hE, hM, hK⟩ := h
  obtain ⟨hN, hP, hV, hG, hT, hMN, hw, h15⟩ := hr
  unfold fX5_judge fX6_judge
  by_cases q1 : v < 1
  · rw [if_pos q1, in14_out (Or.inl q1), sb_, if_pos rfl]
    exact ⟨_, _, _, _, _, _, rfl, rfl⟩
  · rw [if_neg q1]
    by_cases q2 : 4 < v
    · rw [if_pos q2, in14_out (Or.inr q2), sb_, if_pos rfl]
      exact ⟨_, _, _, _, _, _, rfl, rfl⟩
    · have l1 : 1 ≤ v.toInt.toNat ∧ v.toInt.toNat ≤ 4 ∧ v = nI v.toInt.toNat := by
        rw [fa_lt] at q1 q2
        have o1 : (1 : Int32).toInt = 1 := by decide
        have o2 : (4 : Int32).toInt = 4 := by decide
        refine ⟨by omega, by omega, ?_⟩
        apply Int32.toInt_inj.mp
        rw [nI_toInt (by omega)]
        omega
      generalize v.toInt.toNat = m at l1
      obtain ⟨l1, l2, rfl⟩ := l1
      rw [if_neg q2, in14_in l1 l2, sb_, if_neg one_ne, pw_all m (by omega), sb_, rdL_nI (by omega) (by omega), sb_, in_eq]
      by_cases q3 : lg_cmp z 0 < 0
      · rw [if_pos q3, if_neg (c := 0 ≤ z ∧ z ≤ tb_T m - 1) (fun w => by
          have := (lg_cmp_ge z 0).mpr w.1
          rw [fa_le] at this
          rw [fa_lt] at q3
          omega), sb_, if_pos rfl]
        exact ⟨_, _, _, _, _, _, rfl, rfl⟩
      · have z0 : 0 ≤ z := (lg_cmp_ge z 0).mp (fa_of_nlt q3)
        rw [if_neg q3]
        by_cases q4 : lg_cmp z (tb_T m) < 0
        · have z1 : ¬ tb_T m ≤ z := fun w => by
            have := (lg_cmp_ge z (tb_T m)).mpr w
            rw [fa_le] at this
            rw [fa_lt] at q4
            omega
          have z2 : z ≤ tb_T m - 1 := by
            rw [fa_le64] at z1 ⊢
            rw [tb_m1 m (by omega)]
            omega
          rw [if_pos q4, if_pos ⟨z0, z2⟩, sb_, if_neg one_ne]
          obtain ⟨w, hw63, rfl⟩ := pk_lOf (x := z) (fun y => by
            rw [fa_lt64] at y
            rw [fa_le64] at z0
            omega)
          obtain ⟨I, a1, a2, y1, y2⟩ := q_become (T := U) hT
          obtain ⟨u, w1, w2⟩ := m_lay (u := M.2 17) hw
          obtain ⟨A, I', b1, b2, f', u', d1, d2⟩ := judge_L (Q := Q) (T := T) (U := U) (M := M) hN hG (J := upd M.1 0 0) hMN h15 l2 hw63 m 0 1000 g I a1 a2 (M.2 26) u (by omega) (by omega) hP y2 w2
          rw [y1, sb_, w1, sb_]
          exact ⟨A, I', b1, b2, f', u', d1, d2⟩
        · have z1 : tb_T m ≤ z := (lg_cmp_ge z (tb_T m)).mp (fa_of_nlt q4)
          rw [if_neg q4, if_neg (c := 0 ≤ z ∧ z ≤ tb_T m - 1) (fun w => by
            have w2 := w.2
            rw [fa_le64] at z1 w2
            rw [tb_m1 m (by omega)] at w2
            omega), sb_, if_pos rfl]
          exact ⟨_, _, _, _, _, _, rfl, rfl⟩
-- shares
def sh_c (n : Nat) : Nat := fb_ct (fun k => n.testBit k) 10
def sh_f (k : Nat) : Nat := if k = 2 then 2 else if k = 3 then 6 else if k = 4 then 24 else 1
def sh_ok (al s i : Nat) : Bool := decide ((nI i &&& (nI (al - 2 ^ s) ^^^ (-1))) = 0)
def sh_w (al i : Nat) : Nat := sh_f (sh_c i) * sh_f (sh_c al - 1 - sh_c i)
def sh_W (al s : Nat) : Nat → Nat
  | 0 => 0
  | i + 1 => sh_W al s i + (if sh_ok al s i = true then sh_w al i else 0)
theorem sh_W24 : ∀ al, al < 16 → ∀ s, s < 4 → al.testBit s = true → ∀ i, i < 17 → sh_W al s i ≤ 24 := by decide +kernel
theorem sh_oth : ∀ al, al < 16 → ∀ s, s < 4 → al.testBit s = true → nI al &&& (((1 : Int32) <<< (nI s &&& 31)) ^^^ (-1)) = nI (al - 2 ^ s) := by decide +kernel
theorem sh_cm1 : ∀ al, al < 16 → ∀ s, s < 4 → al.testBit s = true → sh_c (al - 2 ^ s) = sh_c al - 1 ∧ 1 ≤ sh_c al ∧ sh_c al ≤ 4 := by decide +kernel
theorem sh_sub : ∀ al, al < 16 → ∀ s, s < 4 → al.testBit s = true → ∀ i, i < 16 → sh_ok al s i = true → sh_c i ≤ sh_c al - 1 := by decide +kernel
theorem sh_two : ∀ al, al < 16 → ∀ s, s < 4 → al.testBit s = true → ∀ i, i < 16 → sh_ok al s i = (decide ((nI i &&& (nI al ^^^ (-1))) = 0) && decide (fX6_has (nI i) (nI s) = some 0)) := by decide +kernel
theorem sh_has : ∀ i, i < 16 → ∀ s, s < 4 → fX6_has (nI i) (nI s) = some (if i.testBit s = true then 1 else 0) := by decide +kernel
theorem sh_hol : ∀ i, i < 16 → ∀ s, s < 4 → fX5_holds (nI i) (nI s) = some (if i.testBit s = true then 1 else 0) := by decide +kernel
theorem sh_or : ∀ i, i < 16 → ∀ s, s < 4 → nI i ||| ((1 : Int32) <<< (nI s &&& 31)) = nI (i ||| 2 ^ s) ∧ (i ||| 2 ^ s) < 16 := by decide +kernel
theorem sh_fac : ∀ n, n < 5 → fX6_factorial (nI n) = some (tb_F n) := by decide +kernel
theorem sh_tb : ∀ n, n < 5 → tb_F n = nI (sh_f n) := by decide +kernel
theorem sh_ring (x k p q : Int32) : x - 192 + k * (p - q) = (x + k * p - k * q) - 192 := by
  simp only [Int32.sub_eq_add_neg, Int32.mul_add, Int32.mul_neg]
  ac_rfl
theorem sh_step {u w p q : Nat} (h : w * q ≤ u + w * p) : nI u - 192 + nI w * (nI p - nI q) = nI (u + w * p - w * q) - 192 := by
  rw [sh_ring, pk_mul, pk_mul, nI_add, pk_sub h]
theorem sh_all (hN : sp_wN N) (hP : sp_wP N g) : ∃ al, al < 16 ∧ ms (sp_pre (g 1) (sp_lv g)) 10 = nI al ∧ sp_nl g = sh_c al ∧ ∀ s, s < 4 → al.testBit s = (decide (s < g 1) && sp_lv g s) := by
  have h4 := hP.2.2.1
  have e : ms (sp_pre (g 1) (sp_lv g)) 10 = ms (sp_pre (g 1) (sp_lv g)) 4 := by
    rw [ms_widen (k := 4) 6 (by omega)]
    refine ms_cong (fun i _ => ?_)
    unfold sp_pre
    by_cases z : i < 4
    · simp [z]
    · simp [z, show ¬ i < g 1 by omega]
  have hb : ∀ i, (bm (sp_pre (g 1) (sp_lv g)) 4).testBit i = (decide (i < g 1) && sp_lv g i) := by
    intro i
    rw [bm_tb]
    unfold sp_pre
    by_cases z : i < 4
    · simp [z]
    · simp [z, show ¬ i < g 1 by omega]
  refine ⟨bm (sp_pre (g 1) (sp_lv g)) 4, bm_lt _ 4, e, ?_, fun s _ => hb s⟩
  unfold sh_c
  rw [fb_ct_cong (q := fun i => decide (i < g 1) && sp_lv g i) (fun i _ => hb i)]
  obtain ⟨d, hd⟩ : ∃ d, 10 = g 1 + d := ⟨10 - g 1, by omega⟩
  rw [hd, fb_ct_widen]
  rfl
theorem vb_le {c : Nat → Bool} : sp_vb N g c ≤ 8 := fb_ct_le _ _
theorem share_L (hN : sp_wN N) (hP : sp_wP N g) (hG : sp_RG G N) (hT : sp_RT T N g) {J : Nat → Int32} (hM : sp_RN (J, M.2) N) (h15 : J 27 = 15) (hw : sp_RP (M.2 16) g) {al s : Nat} (hal : al < 16) (hs : s < 4) (hb : al.testBit s = true) {v : Int32} : ∀ d i fu u (I a1 a2 f r : Nat → Int32), i + d = 16 → d < fu → 192 ≤ u + 8 * sh_W al s i → u ≤ 192 + 8 * sh_W al s i → ∃ u' I' a1' a2' f' r', u' < 385 ∧ fX5_gainInAllOrders_L25 Q T G U fu (nI s) (nI (al - 2 ^ s)) (nI (sh_c al - 1)) (nI u - 192) (nI i) I a1 a2 = some (nI u' - 192, I', a1', a2') ∧ fX6_share_L86 M fu (nI s) v (nI al) (nI (sh_c al)) (nI u - 192) (nI i) J f r = (fX6_fraction (nI u' - 192) (tb_F (sh_c al)) v).bind fun A => some (A, J, f', r')
  | 0, i, fu, u, I, a1, a2, f, r, h1, h2, h3, h4 => by
    obtain ⟨fu, rfl⟩ : ∃ k, fu = k + 1 := ⟨fu - 1, by omega⟩
    have w24 := sh_W24 al hal s hs hb i (by omega)
    have c1 := sh_cm1 al hal s hs hb
    refine ⟨u, I, a1, a2, f, r, by omega, ?_, ?_⟩
    · rw [fX5_gainInAllOrders_L25, if_pos (show (15 : Int32) < nI i from nI_lt (a := 15) (by omega) (by omega))]
    · rw [fX6_share_L86, if_pos (show (16 : Int32) ≤ nI i from nI_le (a := 16) (by omega) (by omega)), sh_fac _ (by omega), sb_]
  | d + 1, i, fu, u, I, a1, a2, f, r, h1, h2, h3, h4 => by
    obtain ⟨fu, rfl⟩ : ∃ k, fu = k + 1 := ⟨fu - 1, by omega⟩
    have hi : i < 16 := by omega
    have c1 := sh_cm1 al hal s hs hb
    have w24 := sh_W24 al hal s hs hb (i + 1) (by omega)
    have two := sh_two al hal s hs hb i hi
    have eW : sh_W al s (i + 1) = sh_W al s i + (if sh_ok al s i = true then sh_w al i else 0) := rfl
    rw [fX5_gainInAllOrders_L25, fX6_share_L86, if_neg (show ¬ (15 : Int32) < nI i from nI_nlt (a := 15) (by omega) (by omega)), if_neg (show ¬ (16 : Int32) ≤ nI i from nI_ge (b := 16) (by omega) (by omega))]
    by_cases ok : sh_ok al s i = true
    · have o1 : (nI i &&& (nI (al - 2 ^ s) ^^^ (-1))) = 0 := of_decide_eq_true ok
      rw [ok] at two
      have o2 := (Bool.and_eq_true _ _).mp two.symm
      have o3 : (nI i &&& (nI al ^^^ (-1))) = 0 := of_decide_eq_true o2.1
      have o4 : fX6_has (nI i) (nI s) = some 0 := of_decide_eq_true o2.2
      have ci := sh_sub al hal s hs hb i hi ok
      have b1 : fJ6_bitCount_0f7a4 (nI i) = some (nI (sh_c i)) := bit_all i (by omega)
      have b2 : fX6_ones (nI i) = some (nI (sh_c i)) := ones_all i (by omega)
      have s1 : nI (sh_c al - 1) - nI (sh_c i) = nI (sh_c al - 1 - sh_c i) := pk_sub ci
      have s2 : nI (sh_c al) - 1 - nI (sh_c i) = nI (sh_c al - 1 - sh_c i) := by
        rw [show nI (sh_c al) - 1 = nI (sh_c al - 1) from pk_sub (b := 1) (by omega), s1]
      have or1 := sh_or i hi s hs
      obtain ⟨I1, x1, x2, v1⟩ := q_visitedBy (Q := Q) (U := (I, dk_upA (dk_upA U.2 1 a1) 2 a2)) (c := fun k => (i ||| 2 ^ s).testBit k) hN hP hG hT (x1 := nI (i ||| 2 ^ s)) (fun k hk => sh_hol _ or1.2 k hk)
      obtain ⟨I2, y1, y2, v2⟩ := q_visitedBy (Q := Q) (U := (I1, dk_upA (dk_upA U.2 1 x1) 2 x2)) (c := fun k => i.testBit k) hN hP hG hT (x1 := nI i) (fun k hk => sh_hol _ hi k hk)
      obtain ⟨f1, r1, m1⟩ := m_visitedBy (M := (J, dk_upA (dk_upA M.2 26 f) 17 r)) (c := fun k => (i ||| 2 ^ s).testBit k) hN hP hM hw (x := nI (i ||| 2 ^ s)) (fun k hk => sh_has _ or1.2 k hk)
      have eJ : ∀ x : Int32, upd (upd J 27 x) 27 15 = J := fun x => by rw [fa_upd_twice, fa_upd_same h15]
      dsimp only at m1
      rw [eJ] at m1
      obtain ⟨f2, r2, m2⟩ := m_visitedBy (M := (J, dk_upA (dk_upA M.2 26 f1) 17 r1)) (c := fun k => i.testBit k) hN hP hM hw (x := nI i) (fun k hk => sh_has _ hi k hk)
      dsimp only at m2
      rw [eJ] at m2
      rw [if_pos o1, if_pos o3, b1, sb_, o4, sb_, if_pos rfl, b2, sb_, sh_fac _ (by omega), sb_, s1, s2, sh_fac _ (by omega), sb_, rd_nI (by omega) (by omega), sb_, rd_nI (by omega) (by omega), sb_, or1.1, v1, sb_]
      dsimp only
      rw [v2, sb_]
      dsimp only
      rw [m1, sb_]
      dsimp only
      rw [m2, sb_]
      dsimp only
      have V1 : sp_vb N g (fun k => (i ||| 2 ^ s).testBit k) ≤ 8 := vb_le
      have V2 : sp_vb N g (fun k => i.testBit k) ≤ 8 := vb_le
      generalize sp_vb N g (fun k => (i ||| 2 ^ s).testBit k) = p1 at V1
      generalize sp_vb N g (fun k => i.testBit k) = p2 at V2
      rw [if_pos ok] at eW
      have k1 : sh_w al i * p1 ≤ sh_w al i * 8 := Nat.mul_le_mul_left _ V1
      have k2 : sh_w al i * p2 ≤ sh_w al i * 8 := Nat.mul_le_mul_left _ V2
      have tw : tb_F (sh_c i) * tb_F (sh_c al - 1 - sh_c i) = nI (sh_w al i) := by
        rw [sh_tb _ (by omega), sh_tb _ (by omega), pk_mul]
        rfl
      rw [tw, sh_step (by omega), nI_1]
      exact share_L hN hP hG hT hM h15 hw hal hs hb d (i + 1) fu _ _ _ _ _ _ (by omega) (by omega) (by omega) (by omega)
    · have ok' : sh_ok al s i = false := by simpa using ok
      have o1 : ¬ (nI i &&& (nI (al - 2 ^ s) ^^^ (-1))) = 0 := of_decide_eq_false ok'
      rw [if_neg ok] at eW
      rw [if_neg o1, nI_1]
      have ih := fun f r => share_L (v := v) hN hP hG hT hM h15 hw hal hs hb d (i + 1) fu u I a1 a2 f r (by omega) (by omega) (by omega) (by omega)
      by_cases o3 : (nI i &&& (nI al ^^^ (-1))) = 0
      · rw [ok'] at two
        have o4 : ¬ fX6_has (nI i) (nI s) = some 0 := fun z => by
          rw [z, o3] at two
          simp at two
        have hh := sh_has i hi s hs
        by_cases z : i.testBit s = true
        · rw [if_pos z] at hh
          rw [if_pos o3, hh, sb_, if_neg one_ne]
          exact ih f r
        · rw [if_neg z] at hh
          exact absurd hh o4
      · rw [if_neg o3]
        exact ih f r
theorem m_sh34 (hN : sp_wN N) (hP : sp_wP N g) (hw : sp_RP (M.2 16) g) {s al : Nat} {v : Int32} {J f r : Nat → Int32} (hal : al < 16) (e1 : ms (sp_pre (g 1) (sp_lv g)) 10 = nI al) : ∀ d i fu, i + d = g 1 → d < fu → fX6_share_L34 M fu (nI s) v (ms (sp_pre i (sp_lv g)) 10) (nI i) J f r = fX6_share_L86 M 1000 (nI s) v (nI al) (nI (sh_c al)) 0 0 J f r
  | 0, i, fu, h1, h2 => by
    have h4 := hP.2.2.1
    obtain ⟨fu, rfl⟩ : ∃ k, fu = k + 1 := ⟨fu - 1, by omega⟩
    have r1 : dk_rd (M.2 16) 21 1 = some (nI (g 1)) := rd_w hw (k := 1) (by omega)
    have b2 : fX6_ones (nI al) = some (nI (sh_c al)) := ones_all al (by omega)
    rw [fX6_share_L34, r1, sb_, if_pos (nI_le (by omega) (by omega)), show i = g 1 by omega, e1, b2, sb_]
  | d + 1, i, fu, h1, h2 => by
    have h4 := hP.2.2.1
    obtain ⟨fu, rfl⟩ : ∃ k, fu = k + 1 := ⟨fu - 1, by omega⟩
    have r1 : dk_rd (M.2 16) 21 1 = some (nI (g 1)) := rd_w hw (k := 1) (by omega)
    have hb := wP_at hN hP (show i < 4 by omega)
    have ih := m_sh34 hN hP hw (s := s) (v := v) (J := J) (f := f) (r := r) hal e1 d (i + 1) fu (by omega) (by omega)
    rw [fX6_share_L34, r1, sb_, if_neg (nI_ge (by omega) (by omega)), m_lives hw (by omega) (by omega), sb_, nI_1]
    by_cases q : sp_lv g i = true
    · rw [if_pos q, if_neg one_ne, pre_t (by omega) (by omega) q]
      exact ih
    · rw [if_neg q, if_pos rfl, or_0, pre_f (by simpa using q)]
      exact ih
theorem sh_frac : ∀ c, 1 ≤ c → c ≤ 4 → ∀ u, u < 385 → ∀ v : Int32, v = 0 ∨ v = 1 → ∃ A, fX5_fraction (nI u - 192) (tb_F c) v = some A ∧ fX6_fraction (nI u - 192) (tb_F c) v = some A := by
  intro c c1 c4 u hu v hv
  have key : ∀ w, w < 2 → fr_both u (tb_F c) w = true := by
    intro w hw
    rcases (show c = 1 ∨ c = 2 ∨ c = 3 ∨ c = 4 by omega) with rfl | rfl | rfl | rfl
    · exact fr_b1 u hu w hw
    · exact fr_b2 u hu w hw
    · exact fr_6 u hu w hw
    · exact fr_24 u hu w hw
  have fin : ∀ w, w < 2 → ∃ A, fX5_fraction (nI u - 192) (tb_F c) (nI w) = some A ∧ fX6_fraction (nI u - 192) (tb_F c) (nI w) = some A := by
    intro w hw
    have h := key w hw
    unfold fr_both at h
    rw [Bool.and_eq_true] at h
    obtain ⟨A, hA⟩ := Option.isSome_iff_exists.mp h.1
    have h2 := of_decide_eq_true h.2
    exact ⟨A, hA, h2 ▸ hA⟩
  rcases hv with z | z
  · rw [z]; exact fin 0 (by omega)
  · rw [z]; exact fin 1 (by omega)
theorem cl_share (h : rl Q X G T C E CB SB M) (v1 v2 : Int32) (h2 : v2 = 0 ∨ v2 = 1) : ∃ A I a1 a2 f u, fX5_share Q T G U v1 v2 = some (A, I, a1, a2) ∧ fX6_share M v1 v2 = some (A, upd M.1 0 0, f, u) := by
  obtain ⟨N, g, k, b, n, t, j, a, c, hr, hb, hX, hE, hM, hK⟩ := h
  obtain ⟨hN, hP, hV, hG, hT, hMN, hw, h15⟩ := hr
  have h4 := hP.2.2.1
  have hM0 : sp_RN (upd M.1 0 0, M.2) N := hMN
  unfold fX5_share fX6_share
  rcases v_cases v1 (n := g 1) (by omega) with o | ⟨s, hs, rfl⟩
  · rw [q_isS_out hT o, sb_, if_pos rfl, m_noS_out (M := (upd M.1 0 0, M.2)) hP hw o, sb_, if_neg one_ne]
    exact ⟨_, _, _, _, _, _, rfl, rfl⟩
  · have hb1 := wP_at hN hP (show s < 4 by omega)
    rw [q_isS_in hT h4 hs, sb_, if_neg one_ne, m_noS_in (M := (upd M.1 0 0, M.2)) hP hw hs, sb_, if_pos rfl, q_lives_in hN hP hT hs, sb_, m_lives hw (by omega) (by omega), sb_]
    by_cases l : sp_lv g s = true
    · obtain ⟨al, hal, e1, e2, e3⟩ := sh_all hN hP
      have tb : al.testBit s = true := by rw [e3 s (by omega), l]; simp [hs]
      have c1 := sh_cm1 al hal s (by omega) tb
      have b1 : fJ6_bitCount_0f7a4 (nI (al - 2 ^ s)) = some (nI (sh_c al - 1)) := by
        rw [bit_all _ (Nat.lt_of_le_of_lt (Nat.sub_le _ _) (by omega)), ← c1.1]
        rfl
      obtain ⟨u', I', a1', a2', f', r', z1, z2, z3⟩ := share_L (Q := Q) (U := U) (J := upd M.1 0 0) (v := v2) hN hP hG hT hM0 h15 hw hal (show s < 4 by omega) tb 16 0 1000 192 U.1 (U.2 1) (U.2 2) (M.2 26) (M.2 17) (by omega) (by omega) (by omega) (by omega)
      have z2' : fX5_gainInAllOrders_L25 Q T G U 1000 (nI s) (nI (al - 2 ^ s)) (nI (sh_c al - 1)) 0 0 U.1 (U.2 1) (U.2 2) = some (nI u' - 192, I', a1', a2') := z2
      have z3' : fX6_share_L86 M 1000 (nI s) v2 (nI al) (nI (sh_c al)) 0 0 (upd M.1 0 0) (M.2 26) (M.2 17) = (fX6_fraction (nI u' - 192) (tb_F (sh_c al)) v2).bind fun A => some (A, upd M.1 0 0, f', r') := z3
      have m34 := m_sh34 (s := s) (v := v2) (J := upd M.1 0 0) (f := M.2 26) (r := M.2 17) hN hP hw hal e1 (g 1) 0 1000 (by omega) (by omega)
      rw [pre_0 (by omega)] at m34
      have m34' : fX6_share_L34 M 1000 (nI s) v2 0 0 (upd M.1 0 0) (M.2 26) (M.2 17) = fX6_share_L86 M 1000 (nI s) v2 (nI al) (nI (sh_c al)) 0 0 (upd M.1 0 0) (M.2 26) (M.2 17) := m34
      obtain ⟨A, A1, A2⟩ := sh_frac (sh_c al) c1.2.1 c1.2.2 u' z1 v2 h2
      rw [if_pos l, if_neg one_ne, if_neg one_ne, q_living hN hP hT, sb_, e2, rd_nI (by omega) (by omega), sb_, m34', z3', A2, sb_]
      unfold fX5_gainInAllOrders
      rw [q_livingOnes hN hP hT, sb_, e1, sh_oth al hal s (by omega) tb, b1, sb_, z2', sb_]
      dsimp only
      rw [A1, sb_]
      exact ⟨_, _, _, _, _, _, rfl, rfl⟩
    · rw [if_neg l, if_pos rfl, if_pos rfl]
      exact ⟨_, _, _, _, _, _, rfl, rfl⟩
end JU
