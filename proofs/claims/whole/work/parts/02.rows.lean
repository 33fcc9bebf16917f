/-! my own words: the state of an object as ints by slot and rows by slot; reads and writes with their guard -/
abbrev dk_O : Type := (Nat → Int32) × (Nat → Nat → Int32)
def dk_upA (A : Nat → Nat → Int32) (k : Nat) (f : Nat → Int32) : Nat → Nat → Int32 := fun j => if j = k then f else A j
def dk_upB (B : Nat → dk_O) (k : Nat) (T : dk_O) : Nat → dk_O := fun j => if j = k then T else B j
def dk_rd (f : Nat → Int32) (n : Nat) (i : Int32) : Option Int32 := if 0 ≤ i.toInt ∧ i.toInt < n then some (f i.toNatClampNeg) else none
def dk_wr (f : Nat → Int32) (n : Nat) (i x : Int32) : Option (Nat → Int32) := if 0 ≤ i.toInt ∧ i.toInt < n then some (upd f i.toNatClampNeg x) else none
theorem dk_bind {α β : Type} {o : Option α} {k : α → Option β} {r : β} (h : o.bind k = some r) : ∃ v, o = some v ∧ k v = some r := by
  cases o with
  | none => cases h
  | some v => exact ⟨v, rfl, h⟩
theorem dk_rd_in {f : Nat → Int32} {n : Nat} {i v : Int32} (h : dk_rd f n i = some v) : vp_in i n ∧ f i.toNatClampNeg = v := by
  unfold dk_rd at h
  by_cases q : 0 ≤ i.toInt ∧ i.toInt < n
  · rw [if_pos q] at h
    exact ⟨vp_in_iff.mpr q, Option.some.inj h⟩
  · rw [if_neg q] at h
    cases h
theorem dk_wr_in {f g : Nat → Int32} {n : Nat} {i x : Int32} (h : dk_wr f n i x = some g) : vp_in i n ∧ upd f i.toNatClampNeg x = g := by
  unfold dk_wr at h
  by_cases q : 0 ≤ i.toInt ∧ i.toInt < n
  · rw [if_pos q] at h
    exact ⟨vp_in_iff.mpr q, Option.some.inj h⟩
  · rw [if_neg q] at h
    cases h
theorem dk_pos {α : Type} {P : Prop} [Decidable P] {a b : Option α} {r : α} (h : (if P then a else b) = some r) (q : P) : a = some r := by rw [if_pos q] at h; exact h
theorem dk_neg {α : Type} {P : Prop} [Decidable P] {a b : Option α} {r : α} (h : (if P then a else b) = some r) (q : ¬ P) : b = some r := by rw [if_neg q] at h; exact h
theorem dk_guard {α : Type} {P : Prop} [Decidable P] {b : Option α} {r : α} (h : (if P then none else b) = some r) : ¬ P ∧ b = some r := by
  by_cases q : P
  · rw [if_pos q] at h; cases h
  · rw [if_neg q] at h; exact ⟨q, h⟩
theorem dk_guardT {α : Type} {P : Prop} [Decidable P] {b : Option α} {r : α} (h : (if P then b else none) = some r) : P ∧ b = some r := by
  by_cases q : P
  · rw [if_pos q] at h; exact ⟨q, h⟩
  · rw [if_neg q] at h; cases h
theorem dk_zn {v : Int32} (h : v = 0 ∨ v = 1) : narrow .boolean (.int v) = .int v := by
  rcases h with rfl | rfl <;> rfl
theorem dk_znv {v : Int32} (h : v = 0 ∨ v = 1) : vp_nar .boolean v = v := by
  rcases h with rfl | rfl <;> rfl
theorem dk_two {α β : Type} {a r : α} {b t : β} (h : some (a, b) = some (r, t)) : a = r ∧ b = t := by cases h; exact ⟨rfl, rfl⟩
/-- a switch's number beyond its cases -/
theorem dk_tabOut {x : Int32} (lo n : Nat) (hn : lo + n < 1000) (h : ∀ k, lo ≤ k → k < lo + n → ¬ x = nI k) : x.toInt < (lo : Int) ∨ (lo : Int) + n - 1 < x.toInt := by
  rcases Int.lt_or_le x.toInt lo with q | q
  · exact Or.inl q
  · right
    rcases Int.lt_or_le ((lo : Int) + n - 1) x.toInt with q2 | q2
    · exact q2
    · exfalso
      have hk : x = nI x.toInt.toNat := by
        apply Int32.toInt_inj.mp
        rw [nI_toInt (by omega)]
        omega
      exact h x.toInt.toNat (by omega) (by omega) hk
def dk_nests : List Cond := [Cond.fieldLinkNest "DarkPlace" 245 "DarkPlace$Text" "length" "I" "DarkPlace", Cond.fieldLinkNest "DarkPlace$Stand" 89 "DarkPlace$Net" "places" "I" "DarkPlace", Cond.fieldLinkNest "DarkPlace" 248 "DarkPlace$Net" "places" "I" "DarkPlace", Cond.fieldLinkNest "DarkPlace$Stand" 55 "DarkPlace$Net" "home" "I" "DarkPlace", Cond.fieldLinkNest "DarkPlace" 251 "DarkPlace$Net" "home" "I" "DarkPlace", Cond.fieldLinkNest "DarkPlace$Stand" 44 "DarkPlace$Net" "hole" "I" "DarkPlace", Cond.fieldLinkNest "DarkPlace" 87 "DarkPlace$Net" "hole" "I" "DarkPlace", Cond.fieldLinkNest "DarkPlace$Stand" 41 "DarkPlace$Net" "searchers" "I" "DarkPlace", Cond.fieldLinkNest "DarkPlace" 83 "DarkPlace$Net" "searchers" "I" "DarkPlace", Cond.fieldLinkNest "DarkPlace" 96 "DarkPlace$Net" "edges" "I" "DarkPlace", Cond.fieldLinkNest "DarkPlace" 147 "DarkPlace$Stand" "searchers" "I" "DarkPlace", Cond.fieldLinkNest "DarkPlace" 154 "DarkPlace$Stand" "hole" "I" "DarkPlace", Cond.fieldLinkNest "DarkPlace" 168 "DarkPlace$Stand" "moves" "I" "DarkPlace", Cond.fieldLinkNest "DarkPlace" 171 "DarkPlace$Stand" "visited" "I" "DarkPlace", Cond.fieldLinkNest "DarkPlace" 161 "DarkPlace$Acts" "size" "I" "DarkPlace", Cond.fieldLinkNest "DarkPlace" 208 "DarkPlace$Seen" "size" "I" "DarkPlace", Cond.methodLinkNest "DarkPlace" 11 ⟨"DarkPlace$Text", "<init>", "()V"⟩ "DarkPlace", Cond.methodLinkNest "DarkPlace" 18 ⟨"DarkPlace$Net", "<init>", "()V"⟩ "DarkPlace", Cond.methodLinkNest "DarkPlace" 55 ⟨"DarkPlace$Seen", "<init>", "()V"⟩ "DarkPlace", Cond.methodLinkNest "DarkPlace$Net" 69 ⟨"DarkPlace", "holds", "(II)Z"⟩ "DarkPlace", Cond.methodLinkNest "DarkPlace$Net" 75 ⟨"DarkPlace", "least", "(I)I"⟩ "DarkPlace", Cond.methodLinkNest "DarkPlace$Stand" 85 ⟨"DarkPlace", "holds", "(II)Z"⟩ "DarkPlace", Cond.methodLinkNest "DarkPlace$Stand" 102 ⟨"DarkPlace", "least", "(I)I"⟩ "DarkPlace"]
def dk_N (U : State) : Prop := ∀ w ∈ dk_nests, va_Nw w U
theorem dk_N.same {u U : State} (h : u.vm = U.vm) (hN : dk_N u) : dk_N U := fun w hw => va_Nw.same (by
  have : dk_nests.all (fun w => w.onTables) = true := by decide +kernel
  exact List.all_eq_true.mp this w hw) h (hN w hw)
theorem dk_N.warm {s U : State} (hW : s.WarmedH U.vm) (hN : dk_N s) : dk_N U := by
  intro w hw
  have h := hN w hw
  simp only [dk_nests, List.mem_cons, List.not_mem_nil, or_false] at hw
  rcases hw with rfl | rfl | rfl | rfl | rfl | rfl | rfl | rfl | rfl | rfl | rfl | rfl | rfl | rfl | rfl | rfl | rfl | rfl | rfl | rfl | rfl | rfl | rfl <;> first | exact va_Nw.warmF hW h | exact va_Nw.warmM hW h
abbrev dk_tys (cy : Nat → ClassId) : List (ClassId × FieldType) := [(cy 0, .int), (cy 1, .boolean), (cy 2, .object "DarkPlace$Stand"), (cy 3, .long)]
def dk_K (D : va_G) (cy : Nat → ClassId) (U : State) : Prop := va_K D vwCl (dk_tys cy) U ∧ dk_N U
theorem dk_K.warm {D : va_G} {cy : Nat → ClassId} {s U : State} (hW : s.WarmedH U.vm) (h : dk_K D cy s) : dk_K D cy U := ⟨va_K.moved hW.alike h.1, h.2.warm hW⟩
theorem dk_K.same {D : va_G} {cy : Nat → ClassId} {u U : State} (e : u.vm = U.vm) (h : dk_K D cy u) : dk_K D cy U := ⟨va_K.moved (by rw [e]; exact Vm.Alike.refl _) h.1, h.2.same e⟩
/-- the start of a method that only reads, and of one that changes its cells -/
def dk_R (D : va_G) (cy : Nat → ClassId) (w : va_W) : State → Prop := fun U => va_P D vwCl w U.heap ∧ dk_K D cy U
def dk_M (D : va_G) (cy : Nat → ClassId) (w : va_W) (sz : Nat) : State → Prop := fun U => U.heap.size = sz ∧ va_P D vwCl w U.heap ∧ dk_K D cy U ∧ va_D (fun _ => True) w
theorem dk_R.blind {D : va_G} {cy : Nat → ClassId} {w : va_W} {As : List Value} : FrameBlind (va_Pc As (dk_R D cy w)) := fun a U g mk q => ⟨q.1, q.2.1, dk_K.same (u := U) (U := U.calling g mk a) rfl q.2.2⟩
theorem dk_M.blind {D : va_G} {cy : Nat → ClassId} {w : va_W} {sz : Nat} {As : List Value} : FrameBlind (va_Pc As (dk_M D cy w sz)) := fun a U g mk q => ⟨q.1, q.2.1, q.2.2.1, dk_K.same (u := U) (U := U.calling g mk a) rfl q.2.2.2.1, q.2.2.2.2⟩
theorem dk_preV {D : va_G} {cy : Nat → ClassId} {w : va_W} {s : State} {H : Heap} {b q0 ci N : Nat} {C : String} {T : u_T} {fs As : List Value} (hK : dk_K D cy s) (hP : va_P D vwCl w H) (hc : vwCl[ci]? = some (C, T, N)) (he : w[q0]? = some (b, .inr (ci, fs))) : PreV s H C b (va_Pc (.ref b :: As) (dk_R D cy w)) As :=
  ⟨dk_R.blind, va_recv hK.1 hP hc he, fun U hU hW => ⟨rfl, by rw [hU]; exact hP, hK.warm hW⟩⟩
theorem dk_preS {D : va_G} {cy : Nat → ClassId} {w : va_W} {s : State} {H : Heap} {As : List Value} (hK : dk_K D cy s) (hP : va_P D vwCl w H) : PreS s H (va_Pc As (dk_R D cy w)) As :=
  ⟨dk_R.blind, fun U hU hW => ⟨rfl, by rw [hU]; exact hP, hK.warm hW⟩⟩
theorem dk_premV {D : va_G} {cy : Nat → ClassId} {w : va_W} {s : State} {H : Heap} {b q0 ci N : Nat} {C : String} {T : u_T} {fs As : List Value} {A : Nat → Prop} (hK : dk_K D cy s) (hP : va_P D vwCl w H) (hD : va_D A w) (hc : vwCl[ci]? = some (C, T, N)) (he : w[q0]? = some (b, .inr (ci, fs))) : PreV s H C b (va_Pc (.ref b :: As) (dk_M D cy w H.size)) As :=
  ⟨dk_M.blind, va_recv hK.1 hP hc he, fun U hU hW => ⟨rfl, by rw [hU], by rw [hU]; exact hP, hK.warm hW, hD.weaken (fun _ _ _ _ => trivial)⟩⟩
theorem dk_premS {D : va_G} {cy : Nat → ClassId} {w : va_W} {s : State} {H : Heap} {As : List Value} {A : Nat → Prop} (hK : dk_K D cy s) (hP : va_P D vwCl w H) (hD : va_D A w) : PreS s H (va_Pc As (dk_M D cy w H.size)) As :=
  ⟨dk_M.blind, fun U hU hW => ⟨rfl, by rw [hU], by rw [hU]; exact hP, hK.warm hW, hD.weaken (fun _ _ _ _ => trivial)⟩⟩
/-- what a method that changes its cells leaves -/
abbrev dk_B (D : va_G) (w : va_W) (A : Nat → Prop) : Unit → State → Prop := fun _ t => va_P D vwCl w t.heap ∧ va_D A w
abbrev dk_RdI (l : Launch) (y : MethodName) (ws : List Cond) (rm : Room) (D : va_G) (cy : Nat → ClassId) (As : List Value) (w : va_W) (r : Int32) : Prop := Met l y ws rm (va_Pc As (dk_R D cy w)) (vp_Si (fun x => x = r)) 0 0 (fun _ => False)
abbrev dk_RdL (l : Launch) (y : MethodName) (ws : List Cond) (rm : Room) (D : va_G) (cy : Nat → ClassId) (As : List Value) (w : va_W) (r : Int64) : Prop := Met l y ws rm (va_Pc As (dk_R D cy w)) (vp_Sl (fun x => x = r)) 0 0 (fun _ => False)
abbrev dk_MuI (l : Launch) (y : MethodName) (ws : List Cond) (rm : Room) (D : va_G) (cy : Nat → ClassId) (As : List Value) (w w' : va_W) (sz : Nat) (r : Int32) : Prop := Met l y ws rm (va_Pc As (dk_M D cy w sz)) (va_Qi (fun (x : Int32) (_ : Unit) => x = r) (dk_B D w' (va_A w sz)) (va_A w sz)) 0 0 (va_A w sz)
abbrev dk_MuL (l : Launch) (y : MethodName) (ws : List Cond) (rm : Room) (D : va_G) (cy : Nat → ClassId) (As : List Value) (w w' : va_W) (sz : Nat) (r : Int64) : Prop := Met l y ws rm (va_Pc As (dk_M D cy w sz)) (va_Ql (fun (x : Int64) (_ : Unit) => x = r) (dk_B D w' (va_A w sz)) (va_A w sz)) 0 0 (va_A w sz)
abbrev dk_MuV (l : Launch) (y : MethodName) (ws : List Cond) (rm : Room) (D : va_G) (cy : Nat → ClassId) (As : List Value) (w w' : va_W) (sz : Nat) : Prop := Met l y ws rm (va_Pc As (dk_M D cy w sz)) (va_Qv (fun (_ : Unit) => True) (dk_B D w' (va_A w sz)) (va_A w sz)) 0 0 (va_A w sz)
abbrev dk_S : Type := (Nat → Nat) × (Nat → Nat → Nat)
abbrev dk_BA (D : va_G) (w : dk_S → va_W) (A : Nat → Prop) : dk_S → State → Prop := fun u t => va_P D vwCl (w u) t.heap ∧ va_D A (w u)
abbrev dk_MuIA (l : Launch) (y : MethodName) (ws : List Cond) (rm : Room) (D : va_G) (cy : Nat → ClassId) (As : List Value) (w : va_W) (w' : dk_S → va_W) (sz : Nat) (r : Int32) : Prop := Met l y ws rm (va_Pc As (dk_M D cy w sz)) (va_Qi (fun (x : Int32) (_ : dk_S) => x = r) (dk_BA D w' (va_A w sz)) (va_A w sz)) 0 0 (va_A w sz)
abbrev dk_MuVA (l : Launch) (y : MethodName) (ws : List Cond) (rm : Room) (D : va_G) (cy : Nat → ClassId) (As : List Value) (w : va_W) (w' : dk_S → va_W) (sz : Nat) : Prop := Met l y ws rm (va_Pc As (dk_M D cy w sz)) (va_Qv (fun (_ : dk_S) => True) (dk_BA D w' (va_A w sz)) (va_A w sz)) 0 0 (va_A w sz)
-- worlds
def wRw (cy : Nat → ClassId) (a n : Nat) (f : Nat → Int32) : va_W := [(a, .inl (cy 0, n, .inl f))]
def wNt (cy : Nat → ClassId) (g : Nat) (b : Nat → Nat) (G : dk_O) : va_W := [(g, .inr (1, [.int (G.1 0), .int (G.1 1), .int (G.1 2), .int (G.1 3), .int (G.1 4), .ref (b 5), .ref (b 6), .int (G.1 7), .ref (b 8)])), (b 5, .inl (cy 0, 10, .inl (G.2 5))), (b 6, .inl (cy 0, 8, .inl (G.2 6))), (b 8, .inl (cy 0, 8, .inl (G.2 8)))]
def wSt (cy : Nat → ClassId) (h : Nat) (a : Nat → Nat) (g : Nat) (T : dk_O) : va_W := [(h, .inr (3, [.ref g, .ref (a 1), .ref (a 2), .int (T.1 3), .int (T.1 4), .int (T.1 5), .int (T.1 6), .int (T.1 7), .int (T.1 8)])), (a 1, .inl (cy 0, 4, .inl (T.2 1))), (a 2, .inl (cy 0, 4, .inl (T.2 2)))]
def wTx (cy : Nat → ClassId) (h : Nat) (a : Nat → Nat) (X : dk_O) : va_W := [(h, .inr (4, [.ref (a 0), .int (X.1 1)])), (a 0, .inl (cy 0, 40, .inl (X.2 0)))]
def wSe (cy : Nat → ClassId) (h : Nat) (a : Nat → Nat) (E : dk_O) : va_W := [(h, .inr (2, [.ref (a 0), .ref (a 1), .int (E.1 2)])), (a 0, .inl (cy 0, 6, .inl (E.2 0))), (a 1, .inl (cy 0, 6, .inl (E.2 1)))]
def wMo (a : Nat → Nat) (sd : Int64) (M : dk_O) : List Value := [.int (M.1 0), .ref (a 1), .int (M.1 2), .int (M.1 3), .int (M.1 4), .int (M.1 5), .int (M.1 6), .ref (a 7), .ref (a 8), .int (M.1 9), .int (M.1 10), .int (M.1 11), .int (M.1 12), .int (M.1 13), .ref (a 14), .ref (a 15), .ref (a 16), .ref (a 17), .ref (a 18), .int (M.1 19), .ref (a 20), .ref (a 21), .int (M.1 22), .ref (a 23), .ref (a 24), .long sd, .ref (a 26), .int (M.1 27)]
/-- the reference with the rows that its steps on a row need -/
def wMs (cy : Nat → ClassId) (h : Nat) (a : Nat → Nat) (sd : Int64) (M : dk_O) : va_W := [(h, .inr (6, wMo a sd M)), (a 7, .inl (cy 0, 10, .inl (M.2 7))), (a 8, .inl (cy 0, 10, .inl (M.2 8))), (a 26, .inl (cy 0, 8, .inl (M.2 26)))]
/-- the reference whole -/
def wMd (cy : Nat → ClassId) (h : Nat) (a : Nat → Nat) (sd : Int64) (M : dk_O) : va_W := [(h, .inr (6, wMo a sd M)), (a 7, .inl (cy 0, 10, .inl (M.2 7))), (a 8, .inl (cy 0, 10, .inl (M.2 8))), (a 26, .inl (cy 0, 8, .inl (M.2 26))), (a 16, .inl (cy 0, 21, .inl (M.2 16))), (a 17, .inl (cy 0, 21, .inl (M.2 17))), (a 1, .inl (cy 0, 40, .inl (M.2 1))), (a 14, .inl (cy 0, 10, .inl (M.2 14))), (a 15, .inl (cy 0, 10, .inl (M.2 15))), (a 18, .inl (cy 0, 294, .inl (M.2 18))), (a 20, .inl (cy 0, 42, .inl (M.2 20))), (a 21, .inl (cy 1, 2, .inl (M.2 21))), (a 23, .inl (cy 0, 6, .inl (M.2 23))), (a 24, .inl (cy 0, 6, .inl (M.2 24)))]
def wAo (h b : Nat) (A : dk_O) : va_W := [(h, .inr (0, [.ref b, .int (A.1 1)]))]
def wPo (cy : Nat → ClassId) (b n : Nat) (s : Nat → Nat) : va_W := [(b, .inl (cy 2, n, .inr (.inr (.inr (.inr (fun k => some (s k)))))))]
def wPl (cy : Nat → ClassId) (s : Nat → Nat) (a : Nat → Nat → Nat) (g : Nat) (B : Nat → dk_O) : va_W := (List.range 14).flatMap (fun k => wSt cy (s k) (a k) g (B k))
def wSl (cy : Nat → ClassId) (b : Nat) (s : Nat → Nat) (a : Nat → Nat → Nat) (g : Nat) (B : Nat → dk_O) : va_W := wPo cy b 2 s ++ (wSt cy (s 0) (a 0) g (B 0) ++ wSt cy (s 1) (a 1) g (B 1))
def wDp (cy : Nat → ClassId) (h : Nat) (a : Nat → Nat) (ch : Int64) (P : dk_O) : va_W := [(h, .inr (5, [.ref (a 0), .ref (a 1), .ref (a 2), .ref (a 3), .ref (a 4), .ref (a 5), .ref (a 6), .ref (a 7), .ref (a 8), .long ch])), (a 7, .inl (cy 1, 2, .inl (P.2 7)))]
section DKR
variable {p : Program} {l : Launch} {e : Env} {R : Room} {s : State} {m : MethodId} {args : Array Value} {below : List Frame} {meth : Method} {c : Code} {H : Heap} {locs : List Loc} {cells slots : Nat} {Q : State → Prop} {cc : ByteArray} {pc : Nat} {ls : Array Slot} {rest st0 : List Value} {α : Type} {fa fb : Option α} {r : α} {a : Array Value}
theorem dk_ceq (hexec : p.tables.exec = Jvm.exec) (hb : c.code = cc) {x y : Int32} {off : Int} {tgt : Nat} (hdg : decode cc pc = .ok (.if_icmp .eq off, 3)) (ht : (pc : Int) + off = (tgt : Int)) (hf : (if x = y then fa else fb) = some r) (kt : fa = some r → W p l e R s m args below meth c H locs cells slots Q (F0 m tgt ls rest)) (kf : fb = some r → W p l e R s m args below meth c H locs cells slots Q (F0 m (pc + 3) ls rest)) : W p l e R s m args below meth c H locs cells slots Q (F0 m pc ls (.int y :: .int x :: rest)) := lv_icmp_eq hexec hb hdg ht (fun q => kt (dk_pos hf q)) (fun q => kf (dk_neg hf q))
theorem dk_cne (hexec : p.tables.exec = Jvm.exec) (hb : c.code = cc) {x y : Int32} {off : Int} {tgt : Nat} (hdg : decode cc pc = .ok (.if_icmp .ne off, 3)) (ht : (pc : Int) + off = (tgt : Int)) (hf : (if x = y then fa else fb) = some r) (kt : fb = some r → W p l e R s m args below meth c H locs cells slots Q (F0 m tgt ls rest)) (kf : fa = some r → W p l e R s m args below meth c H locs cells slots Q (F0 m (pc + 3) ls rest)) : W p l e R s m args below meth c H locs cells slots Q (F0 m pc ls (.int y :: .int x :: rest)) := lv_icmp_ne hexec hb hdg ht (fun q => kt (dk_neg hf q)) (fun q => kf (dk_pos hf q))
theorem dk_clt (hexec : p.tables.exec = Jvm.exec) (hb : c.code = cc) {x y : Int32} {off : Int} {tgt : Nat} (hdg : decode cc pc = .ok (.if_icmp .lt off, 3)) (ht : (pc : Int) + off = (tgt : Int)) (hf : (if x < y then fa else fb) = some r) (kt : fa = some r → W p l e R s m args below meth c H locs cells slots Q (F0 m tgt ls rest)) (kf : fb = some r → W p l e R s m args below meth c H locs cells slots Q (F0 m (pc + 3) ls rest)) : W p l e R s m args below meth c H locs cells slots Q (F0 m pc ls (.int y :: .int x :: rest)) := lv_icmp_lt hexec hb hdg ht (fun q => kt (dk_pos hf q)) (fun q => kf (dk_neg hf q))
theorem dk_cge (hexec : p.tables.exec = Jvm.exec) (hb : c.code = cc) {x y : Int32} {off : Int} {tgt : Nat} (hdg : decode cc pc = .ok (.if_icmp .ge off, 3)) (ht : (pc : Int) + off = (tgt : Int)) (hf : (if y ≤ x then fa else fb) = some r) (kt : fa = some r → W p l e R s m args below meth c H locs cells slots Q (F0 m tgt ls rest)) (kf : fb = some r → W p l e R s m args below meth c H locs cells slots Q (F0 m (pc + 3) ls rest)) : W p l e R s m args below meth c H locs cells slots Q (F0 m pc ls (.int y :: .int x :: rest)) := lv_icmp_ge hexec hb hdg ht (fun q => kt (dk_pos hf q)) (fun q => kf (dk_neg hf q))
theorem dk_cgt (hexec : p.tables.exec = Jvm.exec) (hb : c.code = cc) {x y : Int32} {off : Int} {tgt : Nat} (hdg : decode cc pc = .ok (.if_icmp .gt off, 3)) (ht : (pc : Int) + off = (tgt : Int)) (hf : (if y < x then fa else fb) = some r) (kt : fa = some r → W p l e R s m args below meth c H locs cells slots Q (F0 m tgt ls rest)) (kf : fb = some r → W p l e R s m args below meth c H locs cells slots Q (F0 m (pc + 3) ls rest)) : W p l e R s m args below meth c H locs cells slots Q (F0 m pc ls (.int y :: .int x :: rest)) := lv_icmp_gt hexec hb hdg ht (fun q => kt (dk_pos hf q)) (fun q => kf (dk_neg hf q))
theorem dk_cle (hexec : p.tables.exec = Jvm.exec) (hb : c.code = cc) {x y : Int32} {off : Int} {tgt : Nat} (hdg : decode cc pc = .ok (.if_icmp .le off, 3)) (ht : (pc : Int) + off = (tgt : Int)) (hf : (if x ≤ y then fa else fb) = some r) (kt : fa = some r → W p l e R s m args below meth c H locs cells slots Q (F0 m tgt ls rest)) (kf : fb = some r → W p l e R s m args below meth c H locs cells slots Q (F0 m (pc + 3) ls rest)) : W p l e R s m args below meth c H locs cells slots Q (F0 m pc ls (.int y :: .int x :: rest)) := lv_icmp_le hexec hb hdg ht (fun q => kt (dk_pos hf q)) (fun q => kf (dk_neg hf q))
theorem dk_ieq (hexec : p.tables.exec = Jvm.exec) (hb : c.code = cc) {x : Int32} {off : Int} {tgt : Nat} (hdg : decode cc pc = .ok (.ifCond .eq off, 3)) (ht : (pc : Int) + off = (tgt : Int)) (hf : (if x = 0 then fa else fb) = some r) (kt : fa = some r → W p l e R s m args below meth c H locs cells slots Q (F0 m tgt ls rest)) (kf : fb = some r → W p l e R s m args below meth c H locs cells slots Q (F0 m (pc + 3) ls rest)) : W p l e R s m args below meth c H locs cells slots Q (F0 m pc ls (.int x :: rest)) := lv_if_eq hexec hb hdg ht (fun q => kt (dk_pos hf q)) (fun q => kf (dk_neg hf q))
theorem dk_ine (hexec : p.tables.exec = Jvm.exec) (hb : c.code = cc) {x : Int32} {off : Int} {tgt : Nat} (hdg : decode cc pc = .ok (.ifCond .ne off, 3)) (ht : (pc : Int) + off = (tgt : Int)) (hf : (if x = 0 then fa else fb) = some r) (kt : fb = some r → W p l e R s m args below meth c H locs cells slots Q (F0 m tgt ls rest)) (kf : fa = some r → W p l e R s m args below meth c H locs cells slots Q (F0 m (pc + 3) ls rest)) : W p l e R s m args below meth c H locs cells slots Q (F0 m pc ls (.int x :: rest)) := lv_if_ne hexec hb hdg ht (fun q => kt (dk_neg hf q)) (fun q => kf (dk_pos hf q))
theorem dk_ilt (hexec : p.tables.exec = Jvm.exec) (hb : c.code = cc) {x : Int32} {off : Int} {tgt : Nat} (hdg : decode cc pc = .ok (.ifCond .lt off, 3)) (ht : (pc : Int) + off = (tgt : Int)) (hf : (if x < 0 then fa else fb) = some r) (kt : fa = some r → W p l e R s m args below meth c H locs cells slots Q (F0 m tgt ls rest)) (kf : fb = some r → W p l e R s m args below meth c H locs cells slots Q (F0 m (pc + 3) ls rest)) : W p l e R s m args below meth c H locs cells slots Q (F0 m pc ls (.int x :: rest)) := lv_if_lt hexec hb hdg ht (fun q => kt (dk_pos hf q)) (fun q => kf (dk_neg hf q))
theorem dk_ige (hexec : p.tables.exec = Jvm.exec) (hb : c.code = cc) {x : Int32} {off : Int} {tgt : Nat} (hdg : decode cc pc = .ok (.ifCond .ge off, 3)) (ht : (pc : Int) + off = (tgt : Int)) (hf : (if 0 ≤ x then fa else fb) = some r) (kt : fa = some r → W p l e R s m args below meth c H locs cells slots Q (F0 m tgt ls rest)) (kf : fb = some r → W p l e R s m args below meth c H locs cells slots Q (F0 m (pc + 3) ls rest)) : W p l e R s m args below meth c H locs cells slots Q (F0 m pc ls (.int x :: rest)) := lv_if_ge hexec hb hdg ht (fun q => kt (dk_pos hf q)) (fun q => kf (dk_neg hf q))
theorem dk_igt (hexec : p.tables.exec = Jvm.exec) (hb : c.code = cc) {x : Int32} {off : Int} {tgt : Nat} (hdg : decode cc pc = .ok (.ifCond .gt off, 3)) (ht : (pc : Int) + off = (tgt : Int)) (hf : (if 0 < x then fa else fb) = some r) (kt : fa = some r → W p l e R s m args below meth c H locs cells slots Q (F0 m tgt ls rest)) (kf : fb = some r → W p l e R s m args below meth c H locs cells slots Q (F0 m (pc + 3) ls rest)) : W p l e R s m args below meth c H locs cells slots Q (F0 m pc ls (.int x :: rest)) := lv_if_gt hexec hb hdg ht (fun q => kt (dk_pos hf q)) (fun q => kf (dk_neg hf q))
theorem dk_ile (hexec : p.tables.exec = Jvm.exec) (hb : c.code = cc) {x : Int32} {off : Int} {tgt : Nat} (hdg : decode cc pc = .ok (.ifCond .le off, 3)) (ht : (pc : Int) + off = (tgt : Int)) (hf : (if x ≤ 0 then fa else fb) = some r) (kt : fa = some r → W p l e R s m args below meth c H locs cells slots Q (F0 m tgt ls rest)) (kf : fb = some r → W p l e R s m args below meth c H locs cells slots Q (F0 m (pc + 3) ls rest)) : W p l e R s m args below meth c H locs cells slots Q (F0 m pc ls (.int x :: rest)) := lv_if_le hexec hb hdg ht (fun q => kt (dk_pos hf q)) (fun q => kf (dk_neg hf q))
/-- a call that only reads -/
theorem dk_ri {v : Int32} (hr : va_Run p l e R s m args below meth c H locs cells slots 0 0 (F0 m pc ls st0) rest (vp_Si (fun x => x = v) a) (fun _ => False)) (kk : W p l e R s m args below meth c H locs cells slots Q (F0 m (pc + 3) ls (.int v :: rest))) : W p l e R s m args below meth c H locs cells slots Q (F0 m pc ls st0) := by
  refine vp_callSi (post := fun x => x = v) (a := a) (rest := rest) (fun T hT X => ?_) (fun r hr => by cases hr; exact kk)
  obtain ⟨v, st₀, t, T', L, h1, h2, h3, h4, -, h6, h7⟩ := hr T hT X
  exact ⟨v, st₀, t, T', L, h1, h2, h3, h4, h6, h7⟩
theorem dk_rl {v : Int64} (hr : va_Run p l e R s m args below meth c H locs cells slots 0 0 (F0 m pc ls st0) rest (vp_Sl (fun x => x = v) a) (fun _ => False)) (kk : W p l e R s m args below meth c H locs cells slots Q (F0 m (pc + 3) ls (.long v :: rest))) : W p l e R s m args below meth c H locs cells slots Q (F0 m pc ls st0) := by
  intro T hT X
  obtain ⟨v', st₀, t, T', L, h0, X', hL, e1, -, ⟨r, hv, hp, hh⟩, st⟩ := hr T hT X
  cases hv
  cases hp
  obtain ⟨t2, a1, b1⟩ := kk T' (by rw [e1, hh, h0]) (Stand.forget X' (fun q h => (hL q h).elim))
  exact ⟨t2, st t2 a1, b1⟩
theorem dk_iald {D : va_G} {cl : List vw_C} {tys : List (ClassId × FieldType)} {ws : va_W} {ad : Nat} (hexec : p.tables.exec = Jvm.exec) (hb : c.code = cc) (hK : va_K D cl tys s) (hP : va_P D cl ws H) (q0 t0 : Nat) {cA : ClassId} {n : Nat} {f : Nat → Int32} (ha : ws[q0]? = some (ad, .inl (cA, n, .inl f))) (ht : tys[t0]? = some (cA, .int)) {i : Int32} {k : Int32 → Option α} (hf : (dk_rd f n i).bind k = some r) (hdg : decode cc pc = .ok (.iaload, 1)) (kk : ∀ v : Int32, k v = some r → W p l e R s m args below meth c H locs cells slots Q (F0 m (pc + 1) ls (.int v :: rest))) : W p l e R s m args below meth c H locs cells slots Q (F0 m pc ls (.int i :: .ref ad :: rest)) := by
  obtain ⟨v, h1, h2⟩ := dk_bind hf
  obtain ⟨h3, rfl⟩ := dk_rd_in h1
  exact va_iald hexec hb hK hP q0 t0 ha ht h3 hdg (kk _ h2)
theorem dk_zald {D : va_G} {cl : List vw_C} {tys : List (ClassId × FieldType)} {ws : va_W} {ad : Nat} (hexec : p.tables.exec = Jvm.exec) (hb : c.code = cc) (hK : va_K D cl tys s) (hP : va_P D cl ws H) (q0 t0 : Nat) {cA : ClassId} {n : Nat} {f : Nat → Int32} (ha : ws[q0]? = some (ad, .inl (cA, n, .inl f))) (ht : tys[t0]? = some (cA, .boolean)) {i : Int32} {k : Int32 → Option α} (hf : (dk_rd f n i).bind k = some r) (hdg : decode cc pc = .ok (.baload, 1)) (kk : ∀ v : Int32, k v = some r → W p l e R s m args below meth c H locs cells slots Q (F0 m (pc + 1) ls (.int v :: rest))) : W p l e R s m args below meth c H locs cells slots Q (F0 m pc ls (.int i :: .ref ad :: rest)) := by
  obtain ⟨v, h1, h2⟩ := dk_bind hf
  obtain ⟨h3, rfl⟩ := dk_rd_in h1
  exact va_zald hexec hb hK hP q0 t0 ha ht h3 hdg (kk _ h2)
theorem dk_iast {D : va_G} {cl : List vw_C} {tys : List (ClassId × FieldType)} {ws : va_W} {ad : Nat} {A : Nat → Prop} {H0 : Heap} (hexec : p.tables.exec = Jvm.exec) (hb : c.code = cc) (hK : va_K D cl tys s) (hP : va_P D cl ws H) (hD : va_D A ws) (hS : va_S A H0 H locs) (q0 t0 : Nat) {cA : ClassId} {n : Nat} {f : Nat → Int32} (ha : ws[q0]? = some (ad, .inl (cA, n, .inl f))) (ht : tys[t0]? = some (cA, .int)) {i x : Int32} {k : (Nat → Int32) → Option α} (hf : (dk_wr f n i x).bind k = some r) (hdg : decode cc pc = .ok (.iastore, 1)) (kk : ∀ (g : Nat → Int32) (H1 : Heap) (locs1 : List Loc), va_P D cl (ws.set q0 (ad, .inl (cA, n, .inl g))) H1 → va_D A (ws.set q0 (ad, .inl (cA, n, .inl g))) → va_S A H0 H1 locs1 → k g = some r → W p l e R s m args below meth c H1 locs1 cells slots Q (F0 m (pc + 1) ls rest)) : W p l e R s m args below meth c H locs cells slots Q (F0 m pc ls (.int x :: .int i :: .ref ad :: rest)) := by
  obtain ⟨v, h1, h2⟩ := dk_bind hf
  obtain ⟨h3, rfl⟩ := dk_wr_in h1
  exact va_iast hexec hb hK hP hD hS q0 t0 ha ht h3 hdg (fun H1 l1 a1 a2 a3 => kk _ H1 l1 a1 a2 a3 h2)
theorem dk_zast {D : va_G} {cl : List vw_C} {tys : List (ClassId × FieldType)} {ws : va_W} {ad : Nat} {A : Nat → Prop} {H0 : Heap} (hexec : p.tables.exec = Jvm.exec) (hb : c.code = cc) (hK : va_K D cl tys s) (hP : va_P D cl ws H) (hD : va_D A ws) (hS : va_S A H0 H locs) (q0 t0 : Nat) {cA : ClassId} {n : Nat} {f : Nat → Int32} (ha : ws[q0]? = some (ad, .inl (cA, n, .inl f))) (ht : tys[t0]? = some (cA, .boolean)) {i x : Int32} (hx : vp_nar .boolean x = x) {k : (Nat → Int32) → Option α} (hf : (dk_wr f n i x).bind k = some r) (hdg : decode cc pc = .ok (.bastore, 1)) (kk : ∀ (g : Nat → Int32) (H1 : Heap) (locs1 : List Loc), va_P D cl (ws.set q0 (ad, .inl (cA, n, .inl g))) H1 → va_D A (ws.set q0 (ad, .inl (cA, n, .inl g))) → va_S A H0 H1 locs1 → k g = some r → W p l e R s m args below meth c H1 locs1 cells slots Q (F0 m (pc + 1) ls rest)) : W p l e R s m args below meth c H locs cells slots Q (F0 m pc ls (.int x :: .int i :: .ref ad :: rest)) := by
  obtain ⟨v, h1, h2⟩ := dk_bind hf
  obtain ⟨h3, rfl⟩ := dk_wr_in h1
  exact va_zast hexec hb hK hP hD hS q0 t0 ha ht h3 hdg (fun H1 l1 a1 a2 a3 => kk _ H1 l1 (by rw [hx] at a1; exact a1) (by rw [hx] at a2; exact a2) a3 h2)
theorem dk_aald {D : va_G} {cl : List vw_C} {tys : List (ClassId × FieldType)} {ws : va_W} {ad : Nat} (hexec : p.tables.exec = Jvm.exec) (hb : c.code = cc) (hK : va_K D cl tys s) (hP : va_P D cl ws H) (q0 t0 : Nat) {cA : ClassId} {C : String} {n : Nat} {f : Nat → Nat} (ha : ws[q0]? = some (ad, .inl (cA, n, .inr (.inr (.inr (.inr (fun k => some (f k)))))))) (ht : tys[t0]? = some (cA, .object C)) {i : Int32} (k : Nat) (hi : i = nI k) (hk : k < n ∧ n < 1000) (hdg : decode cc pc = .ok (.aaload, 1)) (kk : W p l e R s m args below meth c H locs cells slots Q (F0 m (pc + 1) ls (.ref (f k) :: rest))) : W p l e R s m args below meth c H locs cells slots Q (F0 m pc ls (.int i :: .ref ad :: rest)) := by
  subst hi
  refine va_aldq hexec hb hK hP q0 t0 ha ht (vp_in_nI hk.1 (by omega)) hdg ?_
  rw [nI_clamp (by omega)]
  exact kk
end DKR
