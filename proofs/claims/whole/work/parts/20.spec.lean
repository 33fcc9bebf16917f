/-! THE DOCUMENT'S OWN THINGS, in numbers: a net N, a page g (0 the hole, 1 how many, 2 moves, 3.. places (9: swallowed), 7.. ways out (0: none, e + 1), 11.. edges (0 unseen, 1 asked, 2 safe)) -/
abbrev sN : Type := Nat × Nat × Nat × (Nat → Nat) × (Nat → Nat)
abbrev sp_n (N : sN) : Nat := N.1
abbrev sp_h (N : sN) : Nat := N.2.1
abbrev sp_E (N : sN) : Nat := N.2.2.1
abbrev sp_a (N : sN) : Nat → Nat := N.2.2.2.1
abbrev sp_b (N : sN) : Nat → Nat := N.2.2.2.2
def sp_wN (N : sN) : Prop := 2 ≤ sp_n N ∧ sp_n N ≤ 8 ∧ sp_h N < sp_n N ∧ sp_E N ≤ 10 ∧ ∀ e, e < sp_E N → sp_a N e < sp_b N e ∧ sp_b N e < sp_n N
def sp_any (f : Nat → Bool) : Nat → Bool
  | 0 => false
  | k + 1 => sp_any f k || f k
theorem sp_any_iff {f : Nat → Bool} : ∀ {k : Nat}, sp_any f k = true ↔ ∃ i, i < k ∧ f i = true
  | 0 => by simp [sp_any]
  | k + 1 => by
    rw [sp_any, Bool.or_eq_true, sp_any_iff]
    constructor
    · rintro (⟨i, h1, h2⟩ | h)
      · exact ⟨i, by omega, h2⟩
      · exact ⟨k, by omega, h⟩
    · rintro ⟨i, h1, h2⟩
      by_cases e : i = k
      · exact Or.inr (e ▸ h2)
      · exact Or.inl ⟨i, by omega, h2⟩
theorem sp_any_no {f : Nat → Bool} {k : Nat} : sp_any f k = false ↔ ∀ i, i < k → f i = false := by
  rw [← Bool.not_eq_true, sp_any_iff]
  constructor
  · intro h i hi
    rw [← Bool.not_eq_true]
    exact fun q => h ⟨i, hi, q⟩
  · rintro h ⟨i, h1, h2⟩
    rw [h i h1] at h2
    cases h2
theorem sp_any_cong {f g : Nat → Bool} : ∀ {k : Nat}, (∀ i, i < k → f i = g i) → sp_any f k = sp_any g k
  | 0, _ => rfl
  | k + 1, h => by rw [sp_any, sp_any, sp_any_cong (fun i hi => h i (by omega)), h k (by omega)]
def sp_en (N : sN) (e p : Nat) : Bool := decide (sp_a N e = p) || decide (sp_b N e = p)
def sp_by (N : sN) (e p : Nat) : Nat := if sp_a N e = p then sp_b N e else sp_a N e
def sp_lv (g : Nat → Nat) (s : Nat) : Bool := decide (g (3 + s) ≠ 9)
def sp_nl (g : Nat → Nat) : Nat := fb_ct (sp_lv g) (g 1)
def sp_sf (g : Nat → Nat) (e : Nat) : Bool := decide (g (11 + e) = 2)
def sp_un (g : Nat → Nat) (e : Nat) : Bool := decide (g (11 + e) = 0)
def sp_vis (N : sN) (g : Nat → Nat) (p : Nat) : Bool := decide (p = sp_h N) || sp_any (fun e => sp_sf g e && sp_en N e p) (sp_E N)
def sp_mb (N : sN) (g : Nat → Nat) (p : Nat) : Bool := decide (p < sp_n N) && !sp_vis N g p
def sp_kn (N : sN) (g : Nat → Nat) : Bool := decide (fb_ct (sp_mb N g) 8 = 1)
def sp_cs (N : sN) (g : Nat → Nat) (s e : Nat) : Bool :=
  decide (s < g 1) && decide (e < sp_E N) && sp_lv g s && sp_en N e (g (3 + s)) &&
    (if 0 < g (7 + s) then decide (g (7 + s) = e + 1) else (sp_sf g e || (sp_un g e && !(sp_kn N g && (sp_mb N g (sp_a N e) || sp_mb N g (sp_b N e))))))
def sp_up (g : Nat → Nat) (k v : Nat) : Nat → Nat := fun j => if j = k then v else g j
def sp_st (N : sN) (g : Nat → Nat) (s e : Nat) : Nat → Nat :=
  if 0 < g (7 + s) then sp_up (sp_up (sp_up (sp_up g (7 + s) 0) (11 + e) 2) (3 + s) (sp_by N e (g (3 + s)))) 2 (g 2 + 1)
  else if g (11 + e) = 2 then sp_up (sp_up g (3 + s) (sp_by N e (g (3 + s)))) 2 (g 2 + 1)
  else sp_up (sp_up (sp_up (sp_up g (11 + e) 1) (3 + s) (if sp_by N e (g (3 + s)) = g 0 then 9 else sp_by N e (g (3 + s)))) (7 + s) (if sp_by N e (g (3 + s)) = g 0 then 0 else e + 1)) 2 (g 2 + 1)
/-- the first unseen edge that ends at a place; as many as there are edges: none -/
def sp_ua (N : sN) (g : Nat → Nat) (p : Nat) : Nat := fa_first (fun e => sp_un g e && sp_en N e p) (sp_E N)
/-- what lies at most so many safe edges away -/
def sp_rs (N : sN) (g : Nat → Nat) (p : Nat) : Nat → Nat → Bool
  | 0 => fun q => decide (q = p)
  | d + 1 => fun q => sp_rs N g p d q || sp_any (fun e => sp_sf g e && (sp_en N e q && (sp_rs N g p d (sp_a N e) || sp_rs N g p d (sp_b N e)))) (sp_E N)
/-- a place at which an unseen edge ends -/
def sp_go (N : sN) (g : Nat → Nat) (q : Nat) : Bool := sp_any (fun e => sp_un g e && sp_en N e q) (sp_E N)
/-- how far the nearest such place is (8: there is none) -/
def sp_nd (N : sN) (g : Nat → Nat) (p : Nat) : Nat := fa_first (fun d => sp_any (fun q => sp_go N g q && sp_rs N g p d q) 8) 8
def sp_nq (N : sN) (g : Nat → Nat) (p : Nat) : Nat := fa_first (fun q => sp_go N g q && sp_rs N g p (sp_nd N g p) q) 8
/-- the safe edge towards it -/
def sp_tw (N : sN) (g : Nat → Nat) (p : Nat) : Nat := fa_first (fun e => sp_sf g e && (sp_en N e p && sp_rs N g (sp_nq N g p) (sp_nd N g p - 1) (sp_by N e p))) (sp_E N)
/-- the edge that caution tells; as many as there are edges: it rests -/
def sp_ch (N : sN) (g : Nat → Nat) (s : Nat) : Nat :=
  if sp_lv g s = false then sp_E N
  else if 0 < g (7 + s) then g (7 + s) - 1
  else if sp_kn N g = true then sp_E N
  else if sp_ua N g (g (3 + s)) < sp_E N then sp_ua N g (g (3 + s))
  else if sp_nd N g (g (3 + s)) < 8 then sp_tw N g (g (3 + s)) else sp_E N
/-- a round of those in c, from searcher i on, k of them; how many went -/
def sp_rd (N : sN) (c : Nat → Bool) : Nat → Nat → (Nat → Nat) × Nat → (Nat → Nat) × Nat
  | 0, _, z => z
  | k + 1, i, z => sp_rd N c k (i + 1) (if c i = true ∧ sp_ch N z.1 i < sp_E N then (sp_st N z.1 i (sp_ch N z.1 i), z.2 + 1) else z)
def sp_ro (N : sN) (c : Nat → Bool) (g : Nat → Nat) : (Nat → Nat) × Nat := sp_rd N c (g 1) 0 (g, 0)
def sp_all : Nat → Bool := fun _ => true
def sp_it (N : sN) (c : Nat → Bool) (g : Nat → Nat) : Nat → Nat → Nat
  | 0 => g
  | k + 1 => (sp_ro N c (sp_it N c g k)).1
/-- a place that has a fate -/
def sp_ft (N : sN) (g : Nat → Nat) (p : Nat) : Bool := sp_mb N g p && !sp_any (fun s => decide (g (3 + s) = p)) (g 1)
-- ===== how the rows hold them =====
def sp_pl (x : Nat) : Int32 := if x = 9 then -9 else nI x
def sp_ot (x : Nat) : Int32 := if x = 0 then -9 else nI (x - 1)
def sp_RP (w : Nat → Int32) (g : Nat → Nat) : Prop := ∀ k, k < 21 → w k = nI (g k)
def sp_RN (M : dk_O) (N : sN) : Prop := M.1 4 = nI (sp_n N) ∧ M.1 5 = nI (sp_h N) ∧ M.1 6 = nI (sp_E N) ∧ ∀ e, e < sp_E N → M.2 7 e = nI (sp_a N e) ∧ M.2 8 e = nI (sp_b N e)
def sp_RG (G : dk_O) (N : sN) : Prop := G.1 0 = nI (sp_n N) ∧ G.1 1 = nI (sp_h N) ∧ G.1 4 = nI (sp_E N) ∧ (∀ e, e < sp_E N → G.2 5 e = ms (sp_en N e) 8) ∧ ∀ p, p < 8 → G.2 6 p = ms (fun e => decide (e < sp_E N) && sp_en N e p) 10
def sp_RT (T : dk_O) (N : sN) (g : Nat → Nat) : Prop := T.1 3 = nI (g 1) ∧ T.1 4 = nI (g 0) ∧ T.1 5 = nI (g 2) ∧ T.1 6 = ms (fun e => decide (e < sp_E N) && sp_un g e) 10 ∧ T.1 7 = ms (fun e => decide (e < sp_E N) && sp_sf g e) 10 ∧ T.1 8 = ms (sp_vis N g) 8 ∧ (∀ s, s < 4 → T.2 1 s = sp_pl (g (3 + s))) ∧ ∀ s, s < 4 → T.2 2 s = sp_ot (g (7 + s))
/-- what every page of a run keeps -/
def sp_wP (N : sN) (g : Nat → Nat) : Prop :=
  g 0 < sp_n N ∧ 1 ≤ g 1 ∧ g 1 ≤ 4 ∧ (∀ s, s < 4 → g (3 + s) = 9 ∨ g (3 + s) < sp_n N) ∧
  (∀ s, s < 4 → g (7 + s) = 0 ∨ (g (7 + s) ≤ sp_E N ∧ s < g 1 ∧ g (3 + s) ≠ 9 ∧ sp_en N (g (7 + s) - 1) (g (3 + s)) = true ∧ g (11 + (g (7 + s) - 1)) = 1)) ∧
  (∀ e, e < 10 → g (11 + e) ≤ 2) ∧
  (∀ s t, s < 4 → t < 4 → g (7 + s) = g (7 + t) → g (7 + s) = 0 ∨ s = t)
