/-! sets of small numbers as ints: ms f k has the bits i < k with f i -/
def bm (f : Nat → Bool) : Nat → Nat
  | 0 => 0
  | k + 1 => bm f k + (if f k then 2 ^ k else 0)
theorem bm_lt (f : Nat → Bool) : ∀ k, bm f k < 2 ^ k
  | 0 => by simp [bm]
  | k + 1 => by
    have h := bm_lt f k
    rw [bm, Nat.pow_succ]
    by_cases q : f k = true
    · rw [if_pos q]; omega
    · rw [if_neg q]; omega
theorem bm_tb (f : Nat → Bool) (i : Nat) : ∀ k, (bm f k).testBit i = (decide (i < k) && f i)
  | 0 => by simp [bm]
  | k + 1 => by
    have h := bm_tb f i k
    have hl := bm_lt f k
    rw [bm]
    by_cases q : f k = true
    · rw [if_pos q, Nat.add_comm, show 2 ^ k + bm f k = 2 ^ k * 1 + bm f k by rw [Nat.mul_one], Nat.two_pow_add_eq_or_of_lt hl, Nat.mul_one, Nat.testBit_or, Nat.testBit_two_pow, h]
      by_cases e : k = i
      · subst e; simp [q]
      · by_cases l : i < k
        · simp [e, l, Nat.lt_succ_of_lt l]
        · simp [e, l, show ¬ i < k + 1 by omega]
    · rw [if_neg q, Nat.add_zero, h]
      by_cases e : k = i
      · subst e; have q2 : f k = false := by simpa using q
        simp [q2]
      · by_cases l : i < k
        · simp [l, Nat.lt_succ_of_lt l]
        · simp [l, show ¬ i < k + 1 by omega]
theorem bm_cong {f g : Nat → Bool} : ∀ {k : Nat}, (∀ i, i < k → f i = g i) → bm f k = bm g k
  | 0, _ => rfl
  | k + 1, h => by rw [bm, bm, bm_cong (fun i hi => h i (by omega)), h k (by omega)]
def ms (f : Nat → Bool) (k : Nat) : Int32 := nI (bm f k)
theorem ms_cong {f g : Nat → Bool} {k : Nat} (h : ∀ i, i < k → f i = g i) : ms f k = ms g k := by unfold ms; rw [bm_cong h]
theorem ms_bt {f : Nat → Bool} {k : Nat} (hk : k ≤ 32) (i : Nat) : bt (ms f k) i = (decide (i < k) && f i) := by
  unfold bt ms
  show (BitVec.ofNat 32 (bm f k)).getLsbD i = _
  rw [BitVec.getLsbD_ofNat, bm_tb]
  by_cases h : i < 32
  · simp [h]
  · simp [h, show ¬ i < k by omega]
theorem ms_ext {f : Nat → Bool} {k : Nat} {x : Int32} (hk : k ≤ 32) (h : ∀ i, i < 32 → bt x i = (decide (i < k) && f i)) : x = ms f k := b_ext (fun i hi => by rw [h i hi, ms_bt hk])
theorem ms_and {f g : Nat → Bool} {k : Nat} (hk : k ≤ 32) : ms f k &&& ms g k = ms (fun i => f i && g i) k := ms_ext hk (fun i _ => by
  rw [b_and, ms_bt hk, ms_bt hk]; cases decide (i < k) <;> simp)
theorem ms_or {f g : Nat → Bool} {k : Nat} (hk : k ≤ 32) : ms f k ||| ms g k = ms (fun i => f i || g i) k := ms_ext hk (fun i _ => by
  rw [b_or, ms_bt hk, ms_bt hk]; cases decide (i < k) <;> simp)
theorem ms_andn {f g : Nat → Bool} {k : Nat} (hk : k ≤ 32) : ms f k &&& (ms g k ^^^ (-1)) = ms (fun i => f i && !g i) k := ms_ext hk (fun i hi => by
  rw [b_and, b_xor, b_m1 i hi, ms_bt hk, ms_bt hk]; cases decide (i < k) <;> simp)
theorem ms_eq {f g : Nat → Bool} {k : Nat} (hk : k ≤ 32) : ms f k = ms g k ↔ ∀ i, i < k → f i = g i := by
  refine ⟨fun h i hi => ?_, ms_cong⟩
  have e : bt (ms f k) i = bt (ms g k) i := by rw [h]
  rw [ms_bt hk, ms_bt hk] at e
  simpa [hi] using e
theorem ms_none {k : Nat} (hk : k ≤ 32) : ms (fun _ => false) k = 0 := (ms_ext hk (fun i _ => by rw [b_0]; simp)).symm
theorem ms_zero {f : Nat → Bool} {k : Nat} (hk : k ≤ 32) : ms f k = 0 ↔ ∀ i, i < k → f i = false := by
  rw [← ms_none hk, ms_eq hk]
theorem ms_one {i k : Nat} (hi : i < k) (hk : k ≤ 32) : (1 : Int32) <<< (nI i &&& 31) = ms (fun j => decide (j = i)) k := ms_ext hk (fun j hj => by
  rw [b_shl i (by omega) 1 hj]
  have h1 : ∀ q, q < 32 → bt 1 q = decide (q = 0) := by decide +kernel
  rw [h1 _ (by omega)]
  by_cases e : j = i
  · subst e; simp [hi]
  · by_cases l : i ≤ j
    · simp [e, show ¬ j - i = 0 by omega]
    · simp [e, l])
theorem ms_bit {f : Nat → Bool} {i k : Nat} (hi : i < 31) (hk : k ≤ 31) : (ms f k >>> (nI i &&& 31)) &&& 1 = if (decide (i < k) && f i) = true then 1 else 0 := by
  apply b_ext
  intro j hj
  have h1 : ∀ q, q < 32 → bt 1 q = decide (q = 0) := by decide +kernel
  rw [b_and, b_sshr i (by omega) _ hj, h1 j hj]
  by_cases e : j = 0
  · subst e
    rw [if_pos (by omega), ms_bt (by omega)]
    cases h : (decide (i + 0 < k) && f (i + 0))
    · rw [if_neg (by simpa using h), b_0]; simp
    · rw [if_pos (by simpa using h), h1 0 (by omega)]; simp
  · rw [decide_eq_false e, Bool.and_false]
    by_cases h : (decide (i < k) && f i) = true
    · rw [if_pos h, h1 j hj, decide_eq_false e]
    · rw [if_neg h, b_0]
theorem ms_widen {f : Nat → Bool} {k : Nat} (d : Nat) (hk : k + d ≤ 32) : ms f k = ms (fun i => decide (i < k) && f i) (k + d) := ms_ext hk (fun i _ => by
  rw [ms_bt (by omega)]
  by_cases h : i < k
  · simp [h, show i < k + d by omega]
  · simp [h])
theorem fb_ct_widen {f : Nat → Bool} {k : Nat} : ∀ d, fb_ct (fun i => decide (i < k) && f i) (k + d) = fb_ct f k
  | 0 => fb_ct_cong (fun i hi => by simp [show i < k from hi])
  | d + 1 => by
    rw [show k + (d + 1) = (k + d) + 1 by omega, fb_ct_succ, fb_ct_widen d]
    simp [show ¬ k + d < k by omega]
/-- a full set -/
theorem ms_full8 : ∀ n, n < 9 → ((1 : Int32) <<< (nI n &&& 31)) - 1 = ms (fun i => decide (i < n)) 8 := by decide +kernel
theorem ms_full10 : ∀ n, n < 11 → ((1 : Int32) <<< (nI n &&& 31)) - 1 = ms (fun i => decide (i < n)) 10 := by decide +kernel
theorem bm_of (n k : Nat) (h : n < 2 ^ k) : bm (fun i => n.testBit i) k = n := by
  apply Nat.eq_of_testBit_eq
  intro i
  rw [bm_tb]
  by_cases q : i < k
  · simp [q]
  · simp only [q, decide_false, Bool.false_and]
    exact (Nat.testBit_lt_two_pow (Nat.lt_of_lt_of_le h (Nat.pow_le_pow_right (by omega) (by omega)))).symm
