/-! reading a text: edges as told, what is beside what -/
section TX
variable {x y : Nat → Nat} {P h o s j : Nat} {I a5 a6 a8 J b14 b15 : Nat → Int32} {M G : dk_O}
def rd_ad (x y : Nat → Nat) (j p q : Nat) : Bool := sp_any (fun e => (decide (x e = p) && decide (y e = q)) || (decide (x e = q) && decide (y e = p))) j
def rd_ok (P h o s j : Nat) (x y : Nat → Nat) : Prop := 2 ≤ P ∧ P ≤ 8 ∧ h < P ∧ o < P ∧ o ≠ h ∧ 1 ≤ s ∧ s ≤ 4 ∧ j ≤ 10 ∧ (∀ e, e < j → x e < P ∧ y e < P ∧ x e ≠ y e) ∧ fb_sm (fun p => fb_ct (rd_ad x y j p) 8) P = 2 * j
def rd_C (I a5 a6 a8 : Nat → Int32) (P h o s j : Nat) (x y : Nat → Nat) : Prop := I 0 = nI P ∧ I 1 = nI h ∧ I 2 = nI o ∧ I 3 = nI s ∧ I 4 = nI j ∧ (∀ e, e < j → a5 e = ms (fun p => decide (x e = p) || decide (y e = p)) 8) ∧ (∀ p, p < 8 → a6 p = ms (fun e => decide (e < j) && (decide (x e = p) || decide (y e = p))) 10) ∧ ∀ p, p < 8 → a8 p = ms (rd_ad x y j p) 8
def rd_M (J b14 b15 : Nat → Int32) (P h o s j : Nat) (x y : Nat → Nat) : Prop := J 9 = nI P ∧ J 10 = nI h ∧ J 11 = nI o ∧ J 12 = nI s ∧ J 13 = nI j ∧ ∀ e, e < j → b14 e = nI (x e) ∧ b15 e = nI (y e)
theorem ad_iff {p q : Nat} : rd_ad x y j p q = true ↔ ∃ e, e < j ∧ ((x e = p ∧ y e = q) ∨ (x e = q ∧ y e = p)) := by
  unfold rd_ad
  rw [sp_any_iff]
  simp
theorem rad_lt (hk : ∀ e, e < j → x e < P ∧ y e < P ∧ x e ≠ y e) {p q : Nat} (h : rd_ad x y j p q = true) : p < P ∧ q < P ∧ p ≠ q := by
  obtain ⟨e, he, q1 | q1⟩ := ad_iff.mp h
  · have := hk e he; omega
  · have := hk e he; omega
theorem ct_at {P p : Nat} (hp : p < P) : fb_ct (fun q => decide (q = p)) P = 1 := by
  have h := fb_ct_upd (fun _ => false) true (i := p) hp
  have z : fb_ct (fun _ => false) P = 0 := fb_ct_zero.mpr (fun _ _ => rfl)
  rw [z] at h
  rw [fb_ct_cong (q := fun k => if k = p then true else (fun _ => false) k) (fun k _ => by by_cases e : k = p <;> simp [e])]
  simpa using h
theorem ct_8 (hP : P ≤ 8) {f : Nat → Bool} (hf : ∀ q, f q = true → q < P) : fb_ct f 8 = fb_ct f P := by
  obtain ⟨d, hd⟩ : ∃ d, 8 = P + d := ⟨8 - P, by omega⟩
  have h := fb_ct_widen (f := f) (k := P) d
  rw [← hd] at h
  rw [← h]
  refine fb_ct_cong (fun k _ => ?_)
  by_cases z : f k = true
  · rw [z]; simp [hf k z]
  · simp [z]
/-- beside all others, or not -/
theorem dg_full (hok : rd_ok P h o s j x y) {p : Nat} (hp : p < P) : fb_ct (rd_ad x y j p) 8 + 1 ≤ P ∧ (fb_ct (rd_ad x y j p) 8 + 1 = P ↔ ∀ q, q < P → q = p ∨ rd_ad x y j p q = true) := by
  obtain ⟨k1, k2, k3, k4, k5, k6, k7, k8, k9, k10⟩ := hok
  rw [ct_8 k2 (fun q hq => (rad_lt k9 hq).2.1)]
  have e1 : fb_ct (fun q => rd_ad x y j p q || decide (q = p)) P = fb_ct (rd_ad x y j p) P + 1 := by
    rw [fb_ct_or (fun q _ => ?_), ct_at hp]
    rintro ⟨h1, h2⟩
    have := (rad_lt k9 h1).2.2
    simp at h2
    omega
  have l := fb_ct_le (fun q => rd_ad x y j p q || decide (q = p)) P
  rw [e1] at l
  refine ⟨l, ?_⟩
  rw [← e1, fb_ct_all]
  constructor
  · intro h q hq
    have := h q hq
    simp only [Bool.or_eq_true, decide_eq_true_eq] at this
    rcases this with z | z
    · exact Or.inr z
    · exact Or.inl z
  · intro h q hq
    simp only [Bool.or_eq_true, decide_eq_true_eq]
    rcases h q hq with z | z
    · exact Or.inr z
    · exact Or.inl z
theorem sm_full {f : Nat → Nat} {c : Nat} : ∀ {n : Nat}, (∀ k, k < n → f k ≤ c) → fb_sm f n = n * c → ∀ k, k < n → f k = c
  | 0, _, _ => fun k hk => absurd hk (by omega)
  | n + 1, h, e => by
    rw [fb_sm_succ, Nat.succ_mul] at e
    have b := fb_sm_bound (f := f) (c := c) (n := n) (fun k hk => h k (by omega))
    have h1 := h n (by omega)
    intro k hk
    by_cases z : k = n
    · rw [z]; omega
    · exact sm_full (n := n) (fun k hk => h k (by omega)) (by omega) k (by omega)
theorem half : ∀ P, P < 9 → ∀ j, j < 40 → (P * (P - 1) / 2 ≤ j ↔ P * (P - 1) ≤ 2 * j) := by decide +kernel
/-- a pair without an edge is left, or none -/
theorem open_iff (hok : rd_ok P h o s j x y) : (¬ P * (P - 1) / 2 ≤ j) ↔ ∃ p, p < P ∧ fb_ct (rd_ad x y j p) 8 + 1 < P := by
  obtain ⟨k1, k2, k3, k4, k5, k6, k7, k8, k9, k10⟩ := id hok
  have b : ∀ p, p < P → fb_ct (rd_ad x y j p) 8 ≤ P - 1 := fun p hp => by have := (dg_full hok hp).1; omega
  rw [half P (by omega) j (by omega)]
  have bb := fb_sm_bound (f := fun p => fb_ct (rd_ad x y j p) 8) (c := P - 1) (n := P) b
  rw [k10] at bb
  constructor
  · intro h
    rcases Classical.em (∃ p, p < P ∧ fb_ct (rd_ad x y j p) 8 + 1 < P) with z | z
    · exact z
    · exfalso
      have e : fb_sm (fun p => fb_ct (rd_ad x y j p) 8) P = fb_sm (fun _ => P - 1) P := fb_sm_cong (fun p hp => by
        have h1 := b p hp
        have h2 : ¬ fb_ct (rd_ad x y j p) 8 + 1 < P := fun y => z ⟨p, hp, y⟩
        omega)
      rw [k10, fb_sm_const] at e
      omega
  · rintro ⟨p, hp, h⟩ le
    have e : fb_sm (fun p => fb_ct (rd_ad x y j p) 8) P = P * (P - 1) := by rw [k10]; omega
    have := sm_full b e p hp
    omega
/-- one edge more -/
def rd_x (x : Nat → Nat) (j a : Nat) : Nat → Nat := fun e => if e = j then a else x e
theorem rx_j {a : Nat} : rd_x x j a j = a := if_pos rfl
theorem rx_n {a e : Nat} (h : e ≠ j) : rd_x x j a e = x e := if_neg h
theorem ad_more {a b p q : Nat} : rd_ad (rd_x x j a) (rd_x y j b) (j + 1) p q = (rd_ad x y j p q || ((decide (a = p) && decide (b = q)) || (decide (a = q) && decide (b = p)))) := by
  unfold rd_ad
  rw [sp_any, rx_j, rx_j]
  congr 1
  refine sp_any_cong (fun e he => ?_)
  rw [rx_n (by omega), rx_n (by omega)]
theorem dg_more {a b : Nat} (ha : a < 8) (hb : b < 8) (hab : a ≠ b) (hn : rd_ad x y j a b = false) (hs : rd_ad x y j b a = false) (p : Nat) : fb_ct (rd_ad (rd_x x j a) (rd_x y j b) (j + 1) p) 8 = fb_ct (rd_ad x y j p) 8 + ((if p = a then 1 else 0) + (if p = b then 1 else 0)) := by
  by_cases pa : p = a
  · have h := fb_ct_upd (rd_ad x y j p) true (i := b) hb
    rw [pa, hn] at h
    rw [if_pos pa, if_neg (by omega), pa, fb_ct_cong (q := fun k => if k = b then true else rd_ad x y j a k) (fun k _ => by
      rw [ad_more]
      by_cases z : k = b
      · simp [z]
      · have z' : ¬ b = k := fun w => z w.symm
        have z2 : ¬ b = a := fun w => hab w.symm
        simp [z, z', z2])]
    simpa using h
  · by_cases pb : p = b
    · have h := fb_ct_upd (rd_ad x y j p) true (i := a) ha
      rw [pb, hs] at h
      rw [if_neg pa, if_pos pb, pb, fb_ct_cong (q := fun k => if k = a then true else rd_ad x y j b k) (fun k _ => by
        rw [ad_more]
        by_cases z : k = a
        · simp [z]
        · have z' : ¬ a = k := fun w => z w.symm
          simp [z, z', hab])]
      simpa using h
    · rw [if_neg pa, if_neg pb]
      refine fb_ct_cong (fun k _ => ?_)
      rw [ad_more]
      have z1 : ¬ a = p := fun w => pa w.symm
      have z2 : ¬ b = p := fun w => pb w.symm
      simp [z1, z2]
theorem rad_sym {p q : Nat} : rd_ad x y j p q = rd_ad x y j q p := by
  unfold rd_ad
  refine sp_any_cong (fun e _ => ?_)
  rw [Bool.or_comm]
theorem sm_at {P p : Nat} (hp : p < P) : fb_sm (fun q => if q = p then 1 else 0) P = 1 := by
  have h := fb_sm_upd (fun _ => 0) 1 (i := p) hp
  have z : fb_sm (fun _ => 0) P = 0 := by rw [fb_sm_const]; omega
  rw [z] at h
  simpa using h
theorem ok_more (hok : rd_ok P h o s j x y) (hj : j < 10) {a b : Nat} (ha : a < P) (hb : b < P) (hab : a ≠ b) (hn : rd_ad x y j a b = false) : rd_ok P h o s (j + 1) (rd_x x j a) (rd_x y j b) := by
  obtain ⟨k1, k2, k3, k4, k5, k6, k7, k8, k9, k10⟩ := hok
  refine ⟨k1, k2, k3, k4, k5, k6, k7, by omega, fun e he => ?_, ?_⟩
  · by_cases z : e = j
    · rw [z, rx_j, rx_j]; exact ⟨ha, hb, hab⟩
    · rw [rx_n z, rx_n z]; exact k9 e (by omega)
  · rw [fb_sm_cong (g := fun p => fb_ct (rd_ad x y j p) 8 + ((if p = a then 1 else 0) + (if p = b then 1 else 0))) (fun p _ => dg_more (by omega) (by omega) hab hn (by rw [rad_sym]; exact hn) p), fb_sm_add (fun p => fb_ct (rd_ad x y j p) 8) (fun p => (if p = a then 1 else 0) + (if p = b then 1 else 0)), fb_sm_add (fun p => if p = a then 1 else 0) (fun p => if p = b then 1 else 0), sm_at ha, sm_at hb, k10]
    omega
-- the class's letters
theorem fig_cases {t : Nat} (ht : t < 256) : (∃ f, t = 48 + f ∧ f < 208 ∧ nI t - 48 = nI f) ∨ (t < 48 ∧ nI t - 48 < 0) := by
  by_cases q : t < 48
  · right
    refine ⟨q, ?_⟩
    have := pk_sub_toInt (a := t) (b := 48) (by omega) (by omega)
    rw [fa_lt]
    have h2 : (nI t - 48).toInt = (t : Int) - 48 := this
    rw [h2]
    have : (0 : Int32).toInt = 0 := rfl
    omega
  · left
    refine ⟨t - 48, by omega, by omega, ?_⟩
    have := pk_sub (a := t) (b := 48) (by omega)
    exact this
theorem isP_of {v : Int32} (hP : P ≤ 8) (h0 : G.1 0 = nI P) : (∀ f, v = nI f → f < 208 → fX1_isPlace G v = some (if f < P then 1 else 0)) ∧ (v < 0 → fX1_isPlace G v = some 0) := by
  constructor
  · rintro f rfl hf
    unfold fX1_isPlace
    rw [if_neg (nI_pos (by omega)), h0]
    by_cases q : f < P
    · rw [if_neg (nI_ge q (by omega)), if_neg (show ¬ (8 : Int32) ≤ nI f from nI_ge (b := 8) (by omega) (by omega)), if_pos q]
    · rw [if_pos (nI_le (by omega) (by omega)), if_neg q]
  · intro h
    unfold fX1_isPlace
    rw [if_pos h]
theorem c_e (hok : rd_ok P h o s j x y) (hC : rd_C G.1 (G.2 5) (G.2 6) (G.2 8) P h o s j x y) {t : Nat} (ht : t < 256) : fX1_takesOfEdge G 0 (nI t) = some (if t = 101 ∧ j < 10 ∧ ¬ P * (P - 1) / 2 ≤ j then 1 else 0, G.1, G.2 5, G.2 6, G.2 8) := by
  obtain ⟨k1, k2, -, -, -, -, -, k8, -, -⟩ := hok
  have b : P * (P - 1) ≤ 56 := by
    have : P * (P - 1) ≤ 8 * 7 := Nat.mul_le_mul k2 (by omega)
    omega
  unfold fX1_takesOfEdge
  rw [if_pos rfl, hC.1, hC.2.2.2.2.1, show nI P - 1 = nI (P - 1) from pk_sub (b := 1) (by omega), pk_mul, show nI (P * (P - 1)) / 2 = nI (P * (P - 1) / 2) from pk_div (d := 2) (by omega) (by omega) (by omega)]
  by_cases a : t = 101
  · rw [if_pos (by rw [a]; rfl)]
    by_cases c : j < 10
    · rw [if_neg (show ¬ (10 : Int32) ≤ nI j from nI_ge (b := 10) c (by omega))]
      by_cases d : P * (P - 1) / 2 ≤ j
      · rw [if_pos (nI_le d (by omega)), if_neg (fun w => w.2.2 d)]
      · rw [if_neg (fun w => d ((nI_leI (by omega) (by omega)).mp w)), if_pos ⟨a, c, d⟩]
    · rw [if_pos (show (10 : Int32) ≤ nI j from nI_le (a := 10) (by omega) (by omega)), if_neg (fun w => c w.2.1)]
  · rw [if_neg (show ¬ nI t = 101 from fun w => a ((nI_eq (b := 101) (by omega) (by omega)).mp w)), if_neg (fun w => a w.1)]
/-- a first place -/
theorem c_1 (hok : rd_ok P h o s j x y) (hC : rd_C G.1 (G.2 5) (G.2 6) (G.2 8) P h o s j x y) {t : Nat} (ht : t < 256) : (∃ f, t = 48 + f ∧ f < P ∧ fb_ct (rd_ad x y j f) 8 + 1 < P ∧ fX1_takesOfEdge G 1 (nI t) = some (1, upd G.1 7 (nI f), G.2 5, G.2 6, G.2 8)) ∨ ((∀ f, t = 48 + f → f < P → ¬ fb_ct (rd_ad x y j f) 8 + 1 < P) ∧ ∃ I, fX1_takesOfEdge G 1 (nI t) = some (0, I, G.2 5, G.2 6, G.2 8)) := by
  obtain ⟨k1, k2, -, -, -, -, -, k8, -, -⟩ := id hok
  unfold fX1_takesOfEdge
  rw [if_neg one_ne]
  rcases fig_cases ht with ⟨f, e1, e2, e3⟩ | ⟨e1, e3⟩
  · rw [e3, (isP_of k2 hC.1).1 f rfl e2, sb_]
    by_cases q : f < P
    · have b2 : fJ6_bitCount_0f7a4 (ms (rd_ad x y j f) 8) = some (nI (fb_ct (rd_ad x y j f) 8)) := bit_ms8 _
      have l := fb_ct_le (rd_ad x y j f) 8
      rw [if_pos q, if_neg one_ne, if_pos rfl, rd_nI (by omega) (by omega), sb_, hC.2.2.2.2.2.2.2 f (by omega), b2, sb_, hC.1, show nI P - 1 = nI (P - 1) from pk_sub (b := 1) (by omega)]
      by_cases d : fb_ct (rd_ad x y j f) 8 + 1 < P
      · rw [if_neg (nI_ge (by omega) (by omega))]
        exact Or.inl ⟨f, e1, q, d, rfl⟩
      · rw [if_pos (nI_le (by omega) (by omega))]
        refine Or.inr ⟨fun f' h1 h2 => ?_, _, rfl⟩
        rw [show f' = f by omega]
        exact d
    · rw [if_neg q, if_pos rfl]
      exact Or.inr ⟨fun f' h1 h2 => absurd h2 (by omega), _, rfl⟩
  · rw [(isP_of k2 hC.1).2 e3, sb_, if_pos rfl]
    exact Or.inr ⟨fun f' h1 h2 => absurd h1 (by omega), _, rfl⟩
theorem two_ms {a b : Nat} (ha : a < 8) (hb : b < 8) : ((1 : Int32) <<< (nI a &&& 31)) ||| ((1 : Int32) <<< (nI b &&& 31)) = ms (fun p => decide (a = p) || decide (b = p)) 8 := by
  rw [ms_one (k := 8) (by omega) (by omega), ms_one (k := 8) (by omega) (by omega), ms_or (by omega)]
  refine ms_cong (fun i _ => ?_)
  congr 1 <;> exact decide_eq_decide.mpr ⟨fun h => h.symm, fun h => h.symm⟩
/-- a second place -/
theorem c_2 (hok : rd_ok P h o s j x y) (hj : j < 10) (hC : rd_C G.1 (G.2 5) (G.2 6) (G.2 8) P h o s j x y) {a t : Nat} (ha : a < P) (h7 : G.1 7 = nI a) (ht : t < 256) : (∃ f I f5 f6 f8, t = 48 + f ∧ f < P ∧ a ≠ f ∧ rd_ad x y j a f = false ∧ fX1_takesOfEdge G 2 (nI t) = some (1, I, f5, f6, f8) ∧ rd_C I f5 f6 f8 P h o s (j + 1) (rd_x x j a) (rd_x y j f)) ∨ ((∀ f, t = 48 + f → f < P → a ≠ f → rd_ad x y j a f = true) ∧ ∃ I f5 f6 f8, fX1_takesOfEdge G 2 (nI t) = some (0, I, f5, f6, f8)) := by
  obtain ⟨k1, k2, -, -, -, -, -, k8, -, -⟩ := id hok
  obtain ⟨c0, c1, c2, c3, c4, c5, c6, c8⟩ := hC
  unfold fX1_takesOfEdge
  rw [if_neg (show ¬ (2 : Int32) = 0 by decide)]
  rcases fig_cases ht with ⟨f, e1, e2, e3⟩ | ⟨e1, e3⟩
  · rw [e3, (isP_of k2 c0).1 f rfl e2, sb_]
    by_cases q : f < P
    · rw [if_pos q, if_neg one_ne, if_neg (show ¬ (2 : Int32) = 1 by decide), h7]
      unfold fX1_addEdge
      by_cases af : a = f
      · rw [if_pos (by rw [af]), sb_]
        dsimp only
        rw [if_pos (Or.inl rfl)]
        exact Or.inr ⟨fun f' h1 h2 h3 => absurd h3 (by omega), _, _, _, _, rfl⟩
      · rw [if_neg (fun w => af ((nI_eq (by omega) (by omega)).mp w)), c4, if_neg (show ¬ (10 : Int32) ≤ nI j from nI_ge (b := 10) hj (by omega)), rd_nI (by omega) (by omega), sb_, c8 a (by omega), holds_ms (by omega) (by omega), sb_]
        have l1 : decide (f < 8) = true := by simp; omega
        rw [l1, Bool.true_and]
        by_cases d : rd_ad x y j a f = true
        · rw [if_pos d, if_neg one_ne, sb_]
          dsimp only
          rw [if_pos (Or.inl rfl)]
          refine Or.inr ⟨fun f' h1 h2 h3 => ?_, _, _, _, _, rfl⟩
          rw [show f' = f by omega]
          exact d
        · have d' : rd_ad x y j a f = false := by simpa using d
          have fa' : f ≠ a := fun w => af w.symm
          rw [if_neg d, if_pos rfl, wr_nI hj (by omega), sb_, rd_nI (by omega) (by omega), sb_, wr_nI (by omega) (by omega), sb_, rd_nI (by omega) (by omega), sb_, wr_nI (by omega) (by omega), sb_, sb_, wr_nI (by omega) (by omega), sb_, rd_nI (by omega) (by omega), sb_, wr_nI (by omega) (by omega), sb_, sb_]
          dsimp only
          rw [if_pos (Or.inr rfl), upd_n fa', upd_n fa', nI_1]
          refine Or.inl ⟨f, _, _, _, _, e1, q, af, d', rfl, ?_, ?_, ?_, ?_, ?_, fun e he => ?_, fun p hp => ?_, fun p hp => ?_⟩
          · rw [upd_n (by omega)]; exact c0
          · rw [upd_n (by omega)]; exact c1
          · rw [upd_n (by omega)]; exact c2
          · rw [upd_n (by omega)]; exact c3
          · rw [upd_s]
          · by_cases z : e = j
            · rw [z, upd_s, two_ms (by omega) (by omega), rx_j, rx_j]
            · rw [upd_n z, rx_n z, rx_n z]
              exact c5 e (by omega)
          · have new : ∀ b : Bool, b = (decide (a = p) || decide (f = p)) → ms (fun e => decide (e < j + 1) && (decide (rd_x x j a e = p) || decide (rd_x y j f e = p))) 10 = ms (fun e => (decide (e < j) && (decide (x e = p) || decide (y e = p))) || (b && decide (e = j))) 10 := by
              intro b hb
              refine ms_cong (fun e _ => ?_)
              by_cases z : e = j
              · rw [z, rx_j, rx_j, hb]
                simp
              · rw [rx_n z, rx_n z]
                by_cases w : e < j
                · simp [z, w, show e < j + 1 by omega]
                · simp [z, w, show ¬ e < j + 1 by omega]
            by_cases pf : p = f
            · rw [pf, upd_s, c6 f (by omega), ms_one (k := 10) (by omega) (by omega), ms_or (by omega)]
              rw [pf] at new
              rw [new true (by simp)]
              exact ms_cong (fun e _ => by simp)
            · rw [upd_n pf]
              by_cases pa : p = a
              · rw [pa, upd_s, c6 a (by omega), ms_one (k := 10) (by omega) (by omega), ms_or (by omega)]
                rw [pa] at new
                rw [new true (by simp)]
                exact ms_cong (fun e _ => by simp)
              · rw [upd_n pa, c6 p hp, new false (by simp [show ¬ a = p from fun w => pa w.symm, show ¬ f = p from fun w => pf w.symm])]
                exact ms_cong (fun e _ => by simp)
          · by_cases pf : p = f
            · rw [pf, upd_s, c8 f (by omega), ms_one (k := 8) (by omega) (by omega), ms_or (by omega)]
              refine ms_cong (fun q _ => ?_)
              rw [ad_more]
              by_cases z : q = a
              · simp [z]
              · simp [z, af, show ¬ a = q from fun w => z w.symm]
            · rw [upd_n pf]
              by_cases pa : p = a
              · rw [pa, upd_s, ms_one (k := 8) (by omega) (by omega), ms_or (by omega)]
                refine ms_cong (fun q _ => ?_)
                rw [ad_more]
                by_cases z : q = f
                · simp [z]
                · simp [z, fa', show ¬ f = q from fun w => z w.symm]
              · rw [upd_n pa, c8 p hp]
                refine ms_cong (fun q _ => ?_)
                rw [ad_more]
                simp [show ¬ a = p from fun w => pa w.symm, show ¬ f = p from fun w => pf w.symm]
    · rw [if_neg q, if_pos rfl]
      exact Or.inr ⟨fun f' h1 h2 => absurd h2 (by omega), _, _, _, _, rfl⟩
  · rw [(isP_of k2 c0).2 e3, sb_, if_pos rfl]
    exact Or.inr ⟨fun f' h1 h2 => absurd h1 (by omega), _, _, _, _, rfl⟩
end TX
