/-! the class's caution -/
theorem bit_ms1 {f : Nat → Bool} {i k : Nat} (hi : i < k) (hk : k ≤ 31) : (((ms f k >>> (nI i &&& 31)) &&& 1) = 0) ↔ f i = false := by
  rw [ms_bit (by omega) hk]
  cases h : f i <;> simp [hi]
section CA
variable {N : sN} {g : Nat → Nat} {T G : dk_O}
def wd_acc (N : sN) (g : Nat → Nat) (f : Nat → Bool) (i : Nat) : Nat → Bool := fun q => f q || sp_any (fun e => sp_sf g e && (sp_en N e q && (f (sp_a N e) || f (sp_b N e)))) i
theorem q_wid_L (hN : sp_wN N) (hG : sp_RG G N) (f : Nat → Bool) : ∀ d i fu, i + d = sp_E N → d < fu → fX1_widened_L5 G fu (ms f 8) (ms (fun e => decide (e < sp_E N) && sp_sf g e) 10) (ms (wd_acc N g f i) 8) (nI i) = some (ms (wd_acc N g f (sp_E N)) 8)
  | 0, i, fu, h1, h2 => by
    have hE := hN.2.2.2.1
    obtain ⟨fu, rfl⟩ : ∃ k, fu = k + 1 := ⟨fu - 1, by omega⟩
    rw [fX1_widened_L5, hG.2.2.1, if_pos (nI_le (by omega) (by omega)), show i = sp_E N by omega]
  | d + 1, i, fu, h1, h2 => by
    have hE := hN.2.2.2.1
    have h8 := hN.2.1
    have hw := hN.2.2.2.2 i (by omega)
    obtain ⟨fu, rfl⟩ : ∃ k, fu = k + 1 := ⟨fu - 1, by omega⟩
    have ih := q_wid_L hN hG f d (i + 1) fu (by omega) (by omega)
    rw [fX1_widened_L5, hG.2.2.1, if_neg (nI_ge (by omega) (by omega)), nI_1, rd_nI (by omega) (by omega), sb_, hG.2.2.2.1 i (by omega), sb_, ms_and (by omega), ms_or (by omega)]
    have keep : (sp_sf g i && (f (sp_a N i) || f (sp_b N i))) = false → ms (wd_acc N g f i) 8 = ms (wd_acc N g f (i + 1)) 8 := by
      intro hk
      refine ms_cong (fun q _ => ?_)
      unfold wd_acc
      rw [sp_any]
      cases a : sp_sf g i
      · simp
      · rw [a, Bool.true_and] at hk
        rw [hk]; simp
    by_cases a1 : sp_sf g i = true
    · rw [if_neg (fun z => by have := (bit_ms1 (by omega) (by omega)).mp z; simp [a1, show i < sp_E N by omega] at this)]
      by_cases a2 : (f (sp_a N i) || f (sp_b N i)) = true
      · rw [if_neg (fun z => ?_)]
        · rw [← ih]
          congr 1
          refine ms_cong (fun q _ => ?_)
          unfold wd_acc
          rw [sp_any, a1, a2]
          simp [Bool.or_assoc]
        · have z1 := (ms_zero (by omega)).mp z
          rw [Bool.or_eq_true] at a2
          rcases a2 with a2 | a2
          · have := z1 (sp_a N i) (by omega)
            simp [sp_en, a2] at this
          · have := z1 (sp_b N i) (by omega)
            simp [sp_en, a2] at this
      · have a2' : (f (sp_a N i) || f (sp_b N i)) = false := by simpa using a2
        rw [if_pos ((ms_zero (by omega)).mpr (fun q _ => ?_)), keep (by rw [a2']; simp)]
        · exact ih
        · rw [Bool.or_eq_false_iff] at a2'
          by_cases y : sp_en N i q = true
          · rcases en_iff.mp y with y | y
            · rw [← y, a2'.1]; simp
            · rw [← y, a2'.2]; simp
          · have : sp_en N i q = false := by simpa using y
            rw [this]; simp
    · have a1' : sp_sf g i = false := by simpa using a1
      rw [if_pos ((bit_ms1 (by omega) (by omega)).mpr (by simp [a1'])), keep (by rw [a1']; simp)]
      exact ih
theorem q_widen (hN : sp_wN N) (hG : sp_RG G N) (hT : sp_RT T N g) {p d : Nat} : fX1_widened G (ms (sp_rs N g p d) 8) (T.1 7) = some (ms (sp_rs N g p (d + 1)) 8) := by
  have hE := hN.2.2.2.1
  unfold fX1_widened
  have h := q_wid_L (g := g) hN hG (sp_rs N g p d) (sp_E N) 0 1000 (by omega) (by omega)
  rw [RT_sf hT]
  have e0 : ms (wd_acc N g (sp_rs N g p d) 0) 8 = ms (sp_rs N g p d) 8 := ms_cong (fun q _ => by simp [wd_acc, sp_any])
  rw [e0] at h
  exact h
theorem q_ends_L (hN : sp_wN N) (hG : sp_RG G N) (f : Nat → Bool) : ∀ d i fu, i + d = sp_E N → d < fu → fX1_endsOf_L4 G fu (ms (fun e => decide (e < sp_E N) && f e) 10) (ms (fun q => sp_any (fun e => f e && sp_en N e q) i) 8) (nI i) = some (ms (fun q => sp_any (fun e => f e && sp_en N e q) (sp_E N)) 8)
  | 0, i, fu, h1, h2 => by
    have hE := hN.2.2.2.1
    obtain ⟨fu, rfl⟩ : ∃ k, fu = k + 1 := ⟨fu - 1, by omega⟩
    rw [fX1_endsOf_L4, hG.2.2.1, if_pos (nI_le (by omega) (by omega)), show i = sp_E N by omega]
  | d + 1, i, fu, h1, h2 => by
    have hE := hN.2.2.2.1
    obtain ⟨fu, rfl⟩ : ∃ k, fu = k + 1 := ⟨fu - 1, by omega⟩
    have ih := q_ends_L hN hG f d (i + 1) fu (by omega) (by omega)
    rw [fX1_endsOf_L4, hG.2.2.1, if_neg (nI_ge (by omega) (by omega)), nI_1, rd_nI (by omega) (by omega), sb_, hG.2.2.2.1 i (by omega), ms_or (by omega)]
    cases a : f i
    · rw [if_pos ((bit_ms1 (by omega) (by omega)).mpr (by simp [a])), ← ih]
      congr 1
      refine ms_cong (fun q _ => ?_)
      rw [sp_any, a]; simp
    · rw [if_neg (fun z => by have := (bit_ms1 (by omega) (by omega)).mp z; simp [a, show i < sp_E N by omega] at this), ← ih]
      congr 1
      refine ms_cong (fun q _ => ?_)
      rw [sp_any, a]; simp
theorem q_goals (hN : sp_wN N) (hG : sp_RG G N) (hT : sp_RT T N g) : fX1_endsOf G (T.1 6) = some (ms (sp_go N g) 8) := by
  have hE := hN.2.2.2.1
  unfold fX1_endsOf
  have h := q_ends_L hN hG (sp_un g) (sp_E N) 0 1000 (by omega) (by omega)
  rw [RT_un hT]
  rw [show ms (fun q => sp_any (fun e => sp_un g e && sp_en N e q) 0) 8 = 0 from (ms_zero (by omega)).mpr (fun i _ => rfl)] at h
  exact h
theorem q_any_L (hN : sp_wN N) (hG : sp_RG G N) (f : Nat → Bool) : ∀ d i fu, i + d = 8 → d < fu → fX1_edgesAtAny_L4 G fu (ms f 8) (ms (fun e => sp_any (fun p => f p && (decide (e < sp_E N) && sp_en N e p)) i) 10) (nI i) = some (ms (fun e => sp_any (fun p => f p && (decide (e < sp_E N) && sp_en N e p)) 8) 10)
  | 0, i, fu, h1, h2 => by
    obtain ⟨fu, rfl⟩ : ∃ k, fu = k + 1 := ⟨fu - 1, by omega⟩
    rw [fX1_edgesAtAny_L4, if_pos (by exact nI_le (a := 8) (by omega) (by omega)), show i = 8 by omega]
  | d + 1, i, fu, h1, h2 => by
    obtain ⟨fu, rfl⟩ : ∃ k, fu = k + 1 := ⟨fu - 1, by omega⟩
    have ih := q_any_L hN hG f d (i + 1) fu (by omega) (by omega)
    rw [fX1_edgesAtAny_L4, if_neg (by exact nI_ge (b := 8) (by omega) (by omega)), nI_1, rd_nI (by omega) (by omega), sb_, hG.2.2.2.2 i (by omega), ms_or (by omega)]
    cases a : f i
    · rw [if_pos ((bit_ms1 (by omega) (by omega)).mpr a), ← ih]
      congr 1
      refine ms_cong (fun q _ => ?_)
      rw [sp_any, a]; simp
    · rw [if_neg (fun z => by have := (bit_ms1 (by omega) (by omega)).mp z; rw [a] at this; cases this), ← ih]
      congr 1
      refine ms_cong (fun q _ => ?_)
      rw [sp_any, a]; simp
theorem q_atAny (hN : sp_wN N) (hG : sp_RG G N) (f : Nat → Bool) : fX1_edgesAtAny G (ms f 8) = some (ms (fun e => decide (e < sp_E N) && (f (sp_a N e) || f (sp_b N e))) 10) := by
  have h8 := hN.2.1
  unfold fX1_edgesAtAny
  have h := q_any_L hN hG f 8 0 1000 (by omega) (by omega)
  rw [show ms (fun e => sp_any (fun p => f p && (decide (e < sp_E N) && sp_en N e p)) 0) 10 = 0 from (ms_zero (by omega)).mpr (fun i _ => rfl)] at h
  refine h.trans ?_
  congr 1
  refine ms_cong (fun e _ => ?_)
  rw [Bool.eq_iff_iff, sp_any_iff]
  simp only [Bool.and_eq_true, Bool.or_eq_true, decide_eq_true_eq]
  constructor
  · rintro ⟨p, -, h1, h2, h3⟩
    refine ⟨h2, ?_⟩
    rcases en_iff.mp h3 with z | z
    · exact Or.inl (z ▸ h1)
    · exact Or.inr (z ▸ h1)
  · rintro ⟨h1, h2⟩
    have hw := hN.2.2.2.2 e h1
    rcases h2 with h2 | h2
    · exact ⟨sp_a N e, by omega, h2, h1, by simp [sp_en]⟩
    · exact ⟨sp_b N e, by omega, h2, h1, by simp [sp_en]⟩
theorem q_near_L (hN : sp_wN N) (hG : sp_RG G N) (hT : sp_RT T N g) {p : Nat} (hp : p < sp_n N) : ∀ d k fu, k + d = 8 → 1 ≤ k → d < fu → (∀ j, j < k → sp_any (fun q => sp_go N g q && sp_rs N g p j q) 8 = false) → fX3_nearestUnseen_L19 T G fu (ms (sp_go N g) 8) (ms (sp_rs N g p (k - 1)) 8) (nI k) = some (if sp_nd N g p < 8 then nI (sp_nq N g p) else -9)
  | 0, k, fu, h1, hk, h2, hj => by
    obtain ⟨fu, rfl⟩ : ∃ k, fu = k + 1 := ⟨fu - 1, by omega⟩
    rw [fX3_nearestUnseen_L19, if_pos (by exact nI_le (a := 8) (by omega) (by omega)), if_neg]
    unfold sp_nd
    rw [first_none (fun j hj8 => hj j (by omega))]
    omega
  | d + 1, k, fu, h1, hk, h2, hj => by
    have h8 := hN.2.1
    obtain ⟨fu, rfl⟩ : ∃ k, fu = k + 1 := ⟨fu - 1, by omega⟩
    have wd := q_widen hN hG hT (p := p) (d := k - 1)
    rw [show k - 1 + 1 = k by omega] at wd
    rw [fX3_nearestUnseen_L19, if_neg (by exact nI_ge (b := 8) (by omega) (by omega)), wd, sb_]
    by_cases a1 : ms (sp_rs N g p k) 8 = ms (sp_rs N g p (k - 1)) 8
    · rw [if_pos a1, if_neg]
      have st : ∀ q, sp_rs N g p (k - 1 + 1) q = true → sp_rs N g p (k - 1) q = true := by
        intro q hq
        rw [show k - 1 + 1 = k by omega] at hq
        have hl := rs_lt hN hp hq
        rw [← (ms_eq (by omega)).mp a1 q (by omega)]
        exact hq
      have : sp_nd N g p = 8 := by
        unfold sp_nd
        refine first_none (fun j _ => ?_)
        rw [sp_any_no]
        intro q hq
        have h0 := sp_any_no.mp (hj (k - 1) (by omega)) q hq
        cases z : sp_rs N g p j q
        · simp
        · have := rs_still st z
          rw [this] at h0
          rw [Bool.and_true] at h0 ⊢
          exact h0
      omega
    · rw [if_neg a1, ms_and (by omega)]
      by_cases a2 : ms (fun i => sp_rs N g p k i && sp_go N g i) 8 = 0
      · rw [if_pos a2, nI_1]
        refine q_near_L hN hG hT hp d (k + 1) fu (by omega) (by omega) (by omega) (fun j hj2 => ?_)
        by_cases z : j = k
        · rw [z, sp_any_no]
          intro q hq
          have := (ms_zero (by omega)).mp a2 q hq
          rw [Bool.and_comm]; exact this
        · exact hj j (by omega)
      · rw [if_neg a2]
        have ex : sp_any (fun q => sp_go N g q && sp_rs N g p k q) 8 = true := by
          cases z : sp_any (fun q => sp_go N g q && sp_rs N g p k q) 8
          · exfalso
            refine a2 ((ms_zero (by omega)).mpr (fun q hq => ?_))
            have := sp_any_no.mp z q hq
            rw [Bool.and_comm]; exact this
          · rfl
        have nd : sp_nd N g p = k := by
          unfold sp_nd
          exact first_eq (by omega) ex hj
        have e1 : ms (fun i => sp_rs N g p k i && sp_go N g i) 8 = ms (fun q => sp_go N g q && sp_rs N g p k q) 8 := ms_cong (fun i _ => Bool.and_comm _ _)
        obtain ⟨q, hq1, hq2⟩ := sp_any_iff.mp ex
        have fl := first_lt (f := fun q => sp_go N g q && sp_rs N g p k q) hq1 hq2
        rw [e1, least_ms8 fl, sb_, if_pos (by omega)]
        unfold sp_nq
        rw [nd]
theorem q_near (hN : sp_wN N) (hG : sp_RG G N) (hT : sp_RT T N g) {p : Nat} (hp : p < sp_n N) (h0 : sp_go N g p = false) : fX3_nearestUnseen T G (nI p) = some (if sp_nd N g p < 8 then nI (sp_nq N g p) else -9) := by
  have h8 := hN.2.1
  unfold fX3_nearestUnseen
  rw [q_goals hN hG hT, sb_, ms_one (k := 8) (by omega) (by omega)]
  refine q_near_L hN hG hT hp 7 1 1000 (by omega) (by omega) (by omega) (fun j hj => ?_)
  rw [show j = 0 by omega, sp_any_no]
  intro q _
  by_cases z : q = p
  · rw [z, h0]; simp
  · simp [sp_rs, z]
end CA
