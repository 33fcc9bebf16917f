/-! small facts: guarded reads and writes at a known place; sums of bits; the class's and the reference's small methods -/
theorem rd_nI {f : Nat → Int32} {n k : Nat} (hk : k < n) (hn : n < 2 ^ 31) : dk_rd f n (nI k) = some (f k) := by
  unfold dk_rd
  rw [nI_toInt (by omega), if_pos (by omega), nI_clamp (by omega)]
theorem wr_nI {f : Nat → Int32} {n k : Nat} {x : Int32} (hk : k < n) (hn : n < 2 ^ 31) : dk_wr f n (nI k) x = some (upd f k x) := by
  unfold dk_wr
  rw [nI_toInt (by omega), if_pos (by omega), nI_clamp (by omega)]
theorem sb_ {α β : Type} (a : α) (k : α → Option β) : (some a).bind k = k a := rfl
theorem m9_ne {k : Nat} (h : k < 2 ^ 31) : nI k ≠ -9 := by
  intro e
  have := congrArg Int32.toInt e
  rw [nI_toInt h] at this
  have h9 : (-9 : Int32).toInt = -9 := by decide
  rw [h9] at this
  omega
theorem upd_s {f : Nat → Int32} {k : Nat} {x : Int32} : upd f k x k = x := if_pos rfl
theorem upd_n {f : Nat → Int32} {k j : Nat} {x : Int32} (h : j ≠ k) : upd f k x j = f j := if_neg h
theorem upA_s {A : Nat → Nat → Int32} {k : Nat} {f : Nat → Int32} : dk_upA A k f k = f := if_pos rfl
theorem upA_n {A : Nat → Nat → Int32} {k j : Nat} {f : Nat → Int32} (h : j ≠ k) : dk_upA A k f j = A j := if_neg h
theorem up_s {g : Nat → Nat} {k v : Nat} : sp_up g k v k = v := if_pos rfl
theorem up_n {g : Nat → Nat} {k v j : Nat} (h : j ≠ k) : sp_up g k v j = g j := if_neg h
theorem b01 (b : Bool) : (if b = true then (1 : Int32) else 0) = 0 ↔ b = false := by cases b <;> decide
-- bits
theorem bit_all : ∀ n, n < 1024 → fJ6_bitCount_0f7a4 (nI n) = some (nI (fb_ct (fun i => n.testBit i) 10)) := by decide +kernel
theorem least_all : ∀ n, n < 1024 → fX5_least (nI n) = some (nI (fa_first (fun i => n.testBit i) 10)) := by decide +kernel
theorem ones_all : ∀ n, n < 1024 → fX6_ones (nI n) = some (nI (fb_ct (fun i => n.testBit i) 10)) := by decide +kernel
theorem fa_first_cong {p q : Nat → Bool} : ∀ {n : Nat}, (∀ k, k < n → p k = q k) → fa_first p n = fa_first q n
  | 0, _ => rfl
  | n + 1, h => by rw [fa_first, fa_first, fa_first_cong (fun k hk => h k (by omega)), h n (by omega)]
theorem bit_ms (f : Nat → Bool) : fJ6_bitCount_0f7a4 (ms f 10) = some (nI (fb_ct f 10)) := by
  unfold ms
  rw [bit_all _ (bm_lt f 10)]
  rw [fb_ct_cong (q := f) (fun k hk => by rw [bm_tb]; simp [hk])]
theorem least_ms (f : Nat → Bool) : fX5_least (ms f 10) = some (nI (fa_first f 10)) := by
  unfold ms
  rw [least_all _ (bm_lt f 10)]
  rw [fa_first_cong (q := f) (fun k hk => by rw [bm_tb]; simp [hk])]
theorem ones_ms (f : Nat → Bool) : fX6_ones (ms f 10) = some (nI (fb_ct f 10)) := by
  unfold ms
  rw [ones_all _ (bm_lt f 10)]
  rw [fb_ct_cong (q := f) (fun k hk => by rw [bm_tb]; simp [hk])]
theorem bit_ms8 (f : Nat → Bool) : fJ6_bitCount_0f7a4 (ms f 8) = some (nI (fb_ct f 8)) := by
  have h := bit_ms (fun i => decide (i < 8) && f i)
  rw [show ms (fun i => decide (i < 8) && f i) 10 = ms f 8 from (ms_widen 2 (by omega)).symm, show fb_ct (fun i => decide (i < 8) && f i) 10 = fb_ct f 8 from fb_ct_widen 2] at h
  exact h
theorem ones_ms8 (f : Nat → Bool) : fX6_ones (ms f 8) = some (nI (fb_ct f 8)) := by
  have h := ones_ms (fun i => decide (i < 8) && f i)
  rw [show ms (fun i => decide (i < 8) && f i) 10 = ms f 8 from (ms_widen 2 (by omega)).symm, show fb_ct (fun i => decide (i < 8) && f i) 10 = fb_ct f 8 from fb_ct_widen 2] at h
  exact h
theorem bit_ms4 (f : Nat → Bool) : fJ6_bitCount_0f7a4 (ms f 4) = some (nI (fb_ct f 4)) := by
  have h := bit_ms (fun i => decide (i < 4) && f i)
  rw [show ms (fun i => decide (i < 4) && f i) 10 = ms f 4 from (ms_widen 6 (by omega)).symm, show fb_ct (fun i => decide (i < 4) && f i) 10 = fb_ct f 4 from fb_ct_widen 6] at h
  exact h
theorem ones_ms4 (f : Nat → Bool) : fX6_ones (ms f 4) = some (nI (fb_ct f 4)) := by
  have h := ones_ms (fun i => decide (i < 4) && f i)
  rw [show ms (fun i => decide (i < 4) && f i) 10 = ms f 4 from (ms_widen 6 (by omega)).symm, show fb_ct (fun i => decide (i < 4) && f i) 10 = fb_ct f 4 from fb_ct_widen 6] at h
  exact h
/-- the first of a set of places that has one -/
theorem fa_first_widen {f : Nat → Bool} {k : Nat} : ∀ d, fa_first f k < k → fa_first (fun i => decide (i < k) && f i) (k + d) = fa_first f k
  | 0, h => by exact fa_first_cong (fun i hi => by simp [show i < k from hi])
  | d + 1, h => by
    rw [show k + (d + 1) = (k + d) + 1 by omega, fa_first, fa_first_widen d h, if_pos (by omega)]
theorem least_ms8 {f : Nat → Bool} (h : fa_first f 8 < 8) : fX5_least (ms f 8) = some (nI (fa_first f 8)) := by
  have h2 := least_ms (fun i => decide (i < 8) && f i)
  rw [show ms (fun i => decide (i < 8) && f i) 10 = ms f 8 from (ms_widen 2 (by omega)).symm, show fa_first (fun i => decide (i < 8) && f i) 10 = fa_first f 8 from fa_first_widen 2 h] at h2
  exact h2
theorem first_lt {f : Nat → Bool} {n i : Nat} (hi : i < n) (h : f i = true) : fa_first f n < n := by
  rcases Nat.lt_or_ge (fa_first f n) n with q | q
  · exact q
  · exfalso
    have := fa_first_no f n i (by omega)
    rw [h] at this
    cases this
theorem first_eq {f : Nat → Bool} {n i : Nat} (hi : i < n) (h : f i = true) (hn : ∀ k, k < i → f k = false) : fa_first f n = i := by
  have h1 := first_lt hi h
  have h2 := fa_first_yes f n h1
  rcases Nat.lt_or_ge (fa_first f n) i with q | q
  · rw [hn _ q] at h2; cases h2
  · rcases Nat.lt_or_ge i (fa_first f n) with q2 | q2
    · have := fa_first_no f n i q2
      rw [h] at this; cases this
    · omega
theorem first_none {f : Nat → Bool} {n : Nat} (h : ∀ k, k < n → f k = false) : fa_first f n = n := by
  rcases Nat.lt_or_ge (fa_first f n) n with q | q
  · have h2 := fa_first_yes f n q
    rw [h _ q] at h2; cases h2
  · have := fa_first_le f n
    omega
theorem holds_ms {f : Nat → Bool} {k i : Nat} (hk : k ≤ 31) (hi : i < 31) : fX5_holds (ms f k) (nI i) = some (if (decide (i < k) && f i) = true then 1 else 0) := by
  unfold fX5_holds
  rw [ms_bit hi hk]
  cases (decide (i < k) && f i) <;> rfl
theorem has_ms {f : Nat → Bool} {k i : Nat} (hk : k ≤ 31) (hi : i < 31) : fX6_has (ms f k) (nI i) = some (if (decide (i < k) && f i) = true then 1 else 0) := by
  unfold fX6_has
  rw [ms_bit hi hk]
  cases (decide (i < k) && f i) <;> rfl
