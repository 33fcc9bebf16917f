/-! contracts over a part of a world, lifted to the whole of it -/
theorem dk_mono {l : Launch} {y : MethodName} {ws : List Cond} {rm : Room} {Pc Pc' : Array Value → State → Prop} {Qc Qc' : Array Value → State → Outcome → State → Prop} {mc ms : Nat} {free free' : Addr → Prop} (hM : Met l y ws rm Pc Qc mc ms free) (hp : ∀ a s, Pc' a s → Pc a s) (hq : ∀ a s o t, Pc' a s → Qc a s o t → Qc' a s o t) (hf : ∀ q, free q → free' q) : Met l y ws rm Pc' Qc' mc ms free' := by
  intro p e ha hc hk s m args below hfr happ hP hK
  obtain ⟨n, o, h1, h2, h3, hq1, L, hF, hL⟩ := hM p e ha hc hk s m args below hfr happ (hp _ _ hP) hK
  exact ⟨n, o, h1, h2, h3, hq _ _ _ _ hP hq1, L, hF, fun q h => hf _ (hL q h)⟩
/-- the uniform contract: the tables are given; the world behind it is some world of a family -/
abbrev lw_K (l : Launch) (y : MethodName) (ws : List Cond) (rm : Room) (D : va_G) (cy : Nat → ClassId) (As : List Value) (w : va_W) {S : Type} (w' : S → va_W) (sz tF tT : Nat) (r : Int32) : Prop := Met l y ws rm (va_Pc As (dk_MS D cy w sz tF tT)) (va_Qi (fun (x : Int32) (_ : S) => x = r) (fun (u : S) (t : State) => va_P D vwCl (w' u) t.heap ∧ va_D (va_A w sz) (w' u)) (va_A w sz)) 0 0 (va_A w sz)
abbrev lw_KL (l : Launch) (y : MethodName) (ws : List Cond) (rm : Room) (D : va_G) (cy : Nat → ClassId) (As : List Value) (w : va_W) {S : Type} (w' : S → va_W) (sz tF tT : Nat) (r : Int64) : Prop := Met l y ws rm (va_Pc As (dk_MS D cy w sz tF tT)) (va_Ql (fun (x : Int64) (_ : S) => x = r) (fun (u : S) (t : State) => va_P D vwCl (w' u) t.heap ∧ va_D (va_A w sz) (w' u)) (va_A w sz)) 0 0 (va_A w sz)
theorem dk_leftP {D : va_G} {cl : List vw_C} {a b : va_W} {H : Heap} (h : va_P D cl (a ++ b) H) : va_P D cl a H := fun k q hk => h k q (by rw [List.getElem?_append_left (List.getElem?_eq_some_iff.mp hk).1]; exact hk)
theorem dk_leftD {A : Nat → Prop} {a b : va_W} (h : va_D A (a ++ b)) : va_D A a := h.by id (fun k q hk => by
  show (a ++ b)[k]? = some q
  rw [List.getElem?_append_left (List.getElem?_eq_some_iff.mp hk).1]
  exact hk) (fun i j _ _ e => e)
theorem dk_Asub {X w pl : va_W} {isC : List Nat} {sz : Nat} (hC : isC.map (fun i => X[i]?) = w.map some) {q : Nat} (h : va_A w sz q) : va_A (X ++ pl) sz q := by
  rcases h with ⟨k, e, h⟩ | h
  · obtain ⟨i, -, h2⟩ := va_in_of isC hC h
    exact Or.inl ⟨i, e, by rw [List.getElem?_append_left (List.getElem?_eq_some_iff.mp h2).1]; exact h2⟩
  · exact Or.inr h
theorem dk_AsubP {X w pl : va_W} {isC : List Nat} {sz : Nat} (hC : isC.map (fun i => X[i]?) = w.map some) {q : Nat} (h : va_A (w ++ pl) sz q) : va_A (X ++ pl) sz q := by
  rcases h with ⟨k, e, h⟩ | h
  · exact Or.inl ⟨_, e, va_part isC hC k _ h⟩
  · exact Or.inr h
theorem dk_FM {A B : Nat → Prop} {s t : State} (h : va_F A s t) (hAB : ∀ q, A q → B q) : va_F B s t := ⟨h.1, fun q h1 h2 => h.2 q h1 (fun z => h2 (hAB q z))⟩
section LF
variable {l : Launch} {y : MethodName} {ws : List Cond} {rm : Room} {D : va_G} {cy : Nat → ClassId} {As : List Value} {X X' pl w w1 wr : va_W} {sz tF tT : Nat} {S : Type} {W' : S → va_W}
/-- what a call that had w leaves of the rest -/
theorem lf_join (isC isR iso : List Nat) (hC : isC.map (fun i => X[i]?) = w.map some) (hR : isR.map (fun i => X[i]?) = wr.map some) (hn : va_nd isR = true) (hdis : ∀ i ∈ isR, i ∉ isC) (ho : iso.map (fun i => (wr ++ w1)[i]?) = X'.map some) (hno : va_nd iso = true) {s t : State} (hP : va_P D vwCl (X ++ pl) s.heap) (hD : va_D (fun _ => True) (X ++ pl)) (hF : va_F (va_A w s.heap.size) s t) (hP1 : va_P D vwCl w1 t.heap) (hD1 : va_D (va_A w s.heap.size) w1) : va_P D vwCl (X' ++ pl) t.heap ∧ va_D (va_A (X ++ pl) s.heap.size) (X' ++ pl) := by
  obtain ⟨h1, h2⟩ := va_joinQ (A0 := va_A (X ++ pl) s.heap.size) hP hD.self isC isR hC hR hn hdis hF.2 (fun q h => dk_Asub hC h) hP1 hD1
  exact ⟨h1.part iso ho, h2.part iso hno ho⟩
theorem lf_I (isC isR iso : List Nat) (hC : isC.map (fun i => X[i]?) = w.map some) (hnC : va_nd isC = true) (hR : isR.map (fun i => X[i]?) = wr.map some) (hn : va_nd isR = true) (hdis : ∀ i ∈ isR, i ∉ isC) (ho : iso.map (fun i => (wr ++ w1)[i]?) = X'.map some) (hno : va_nd iso = true) (u : S) (hu : W' u = X' ++ pl) {r : Int32} (hM : dk_MuI l y ws rm D cy As w w1 sz r) : lw_K l y ws rm D cy As (X ++ pl) W' sz tF tT r := by
  refine dk_mono hM (fun a s h => ?_) (fun a s o t h q => ?_) (fun q h => dk_Asub hC h)
  · obtain ⟨h1, ⟨h2, h3, h4, h5⟩, -⟩ := h
    exact ⟨h1, h2, dk_leftP (h3.part isC hC), h4, dk_leftD (h5.part isC hnC hC)⟩
  · obtain ⟨h1, ⟨h2, h3, h4, h5⟩, -⟩ := h
    subst h2
    obtain ⟨⟨x, -, q1, q2, q3, q4⟩, qF⟩ := q
    have e := lf_join isC isR iso hC hR hn hdis ho hno h3 h5 qF q3 q4
    exact ⟨⟨x, u, q1, q2, by dsimp only; rw [hu]; exact e⟩, dk_FM qF (fun q h => dk_Asub hC h)⟩
theorem lf_L (isC isR iso : List Nat) (hC : isC.map (fun i => X[i]?) = w.map some) (hnC : va_nd isC = true) (hR : isR.map (fun i => X[i]?) = wr.map some) (hn : va_nd isR = true) (hdis : ∀ i ∈ isR, i ∉ isC) (ho : iso.map (fun i => (wr ++ w1)[i]?) = X'.map some) (hno : va_nd iso = true) (u : S) (hu : W' u = X' ++ pl) {r : Int64} (hM : dk_MuL l y ws rm D cy As w w1 sz r) : lw_KL l y ws rm D cy As (X ++ pl) W' sz tF tT r := by
  refine dk_mono hM (fun a s h => ?_) (fun a s o t h q => ?_) (fun q h => dk_Asub hC h)
  · obtain ⟨h1, ⟨h2, h3, h4, h5⟩, -⟩ := h
    exact ⟨h1, h2, dk_leftP (h3.part isC hC), h4, dk_leftD (h5.part isC hnC hC)⟩
  · obtain ⟨h1, ⟨h2, h3, h4, h5⟩, -⟩ := h
    subst h2
    obtain ⟨⟨x, -, q1, q2, q3, q4⟩, qF⟩ := q
    have e := lf_join isC isR iso hC hR hn hdis ho hno h3 h5 qF q3 q4
    exact ⟨⟨x, u, q1, q2, by dsimp only; rw [hu]; exact e⟩, dk_FM qF (fun q h => dk_Asub hC h)⟩
/-- one with the tables -/
theorem lf_S (isC isR iso : List Nat) (hC : isC.map (fun i => X[i]?) = w.map some) (hnC : va_nd isC = true) (hR : isR.map (fun i => X[i]?) = wr.map some) (hn : va_nd isR = true) (hdis : ∀ i ∈ isR, i ∉ isC) (ho : iso.map (fun i => (wr ++ w1)[i]?) = X'.map some) (hno : va_nd iso = true) (u : S) (hu : W' u = X' ++ pl) {r : Int32} (hM : dk_MuIS l y ws rm D cy As w w1 sz tF tT r) : lw_K l y ws rm D cy As (X ++ pl) W' sz tF tT r := by
  refine dk_mono hM (fun a s h => ?_) (fun a s o t h q => ?_) (fun q h => dk_Asub hC h)
  · obtain ⟨h1, ⟨h2, h3, h4, h5⟩, h6⟩ := h
    exact ⟨h1, ⟨h2, dk_leftP (h3.part isC hC), h4, dk_leftD (h5.part isC hnC hC)⟩, h6.narrow (fun q z => dk_Asub hC z)⟩
  · obtain ⟨h1, ⟨h2, h3, h4, h5⟩, -⟩ := h
    subst h2
    obtain ⟨⟨x, -, q1, q2, q3, q4⟩, qF⟩ := q
    have e := lf_join isC isR iso hC hR hn hdis ho hno h3 h5 qF q3 q4
    exact ⟨⟨x, u, q1, q2, by dsimp only; rw [hu]; exact e⟩, dk_FM qF (fun q h => dk_Asub hC h)⟩
/-- one that only reads -/
theorem lf_R (isC : List Nat) (hC : isC.map (fun i => X[i]?) = w.map some) (u : S) (hu : W' u = X ++ pl) {r : Int32} (hM : dk_RdI l y ws rm D cy As w r) : lw_K l y ws rm D cy As (X ++ pl) W' sz tF tT r := by
  refine dk_mono hM (fun a s h => ?_) (fun a s o t h q => ?_) (fun q h => h.elim)
  · obtain ⟨h1, ⟨h2, h3, h4, h5⟩, -⟩ := h
    exact ⟨h1, dk_leftP (h3.part isC hC), h4⟩
  · obtain ⟨h1, ⟨h2, h3, h4, h5⟩, -⟩ := h
    subst h2
    obtain ⟨x, q1, q2, q3⟩ := q
    exact ⟨⟨x, u, q1, q2, by dsimp only; rw [hu, q3]; exact ⟨h3, h5.self⟩⟩, ⟨by rw [q3]; exact Nat.le_refl _, fun q _ _ => by rw [q3]⟩⟩
/-- one that has the pool: its stands may have changed places -/
theorem lf_P {w1 : dk_S → va_W} {pl1 : dk_S → va_W} {X' : dk_S → va_W} (isC isR iso : List Nat) (hC : isC.map (fun i => X[i]?) = w.map some) (hnC : va_nd isC = true) (hR : isR.map (fun i => X[i]?) = wr.map some) (hn : va_nd isR = true) (hdis : ∀ i ∈ isR, i ∉ isC) (ho : ∀ v, iso.map (fun i => (wr ++ w1 v)[i]?) = (X' v).map some) (hno : va_nd iso = true) (u : dk_S → S) (hu : ∀ v, W' (u v) = X' v ++ pl1 v) {r : Int32} (hM : dk_MuIA l y ws rm D cy As (w ++ pl) (fun v => w1 v ++ pl1 v) sz r) : lw_K l y ws rm D cy As (X ++ pl) W' sz tF tT r := by
  refine dk_mono hM (fun a s h => ?_) (fun a s o t h q => ?_) (fun q h => dk_AsubP hC h)
  · obtain ⟨h1, ⟨h2, h3, h4, h5⟩, -⟩ := h
    exact ⟨h1, h2, h3.part isC hC, h4, h5.part isC hnC hC⟩
  · obtain ⟨h1, ⟨h2, h3, h4, h5⟩, -⟩ := h
    subst h2
    obtain ⟨⟨x, v, q1, q2, q3, q4⟩, qF⟩ := q
    obtain ⟨e1, e2⟩ := va_joinP (A0 := va_A (X ++ pl) s.heap.size) h3 h5.self isC isR hC hR hn hdis qF.2 (fun q h => dk_AsubP hC h) q3 q4
    exact ⟨⟨x, u v, q1, q2, by dsimp only; rw [hu]; exact ⟨e1.part iso (ho v), e2.part iso hno (ho v)⟩⟩, dk_FM qF (fun q h => dk_AsubP hC h)⟩
/-- one that has the pool and leaves it where it is -/
theorem lf_Q (isC isR iso : List Nat) (hC : isC.map (fun i => X[i]?) = w.map some) (hnC : va_nd isC = true) (hR : isR.map (fun i => X[i]?) = wr.map some) (hn : va_nd isR = true) (hdis : ∀ i ∈ isR, i ∉ isC) (ho : iso.map (fun i => (wr ++ w1)[i]?) = X'.map some) (hno : va_nd iso = true) (u : S) (hu : W' u = X' ++ pl) {r : Int32} (hM : dk_MuI l y ws rm D cy As (w ++ pl) (w1 ++ pl) sz r) : lw_K l y ws rm D cy As (X ++ pl) W' sz tF tT r := by
  refine dk_mono hM (fun a s h => ?_) (fun a s o t h q => ?_) (fun q h => dk_AsubP hC h)
  · obtain ⟨h1, ⟨h2, h3, h4, h5⟩, -⟩ := h
    exact ⟨h1, h2, h3.part isC hC, h4, h5.part isC hnC hC⟩
  · obtain ⟨h1, ⟨h2, h3, h4, h5⟩, -⟩ := h
    subst h2
    obtain ⟨⟨x, v, q1, q2, q3, q4⟩, qF⟩ := q
    obtain ⟨e1, e2⟩ := va_joinP (A0 := va_A (X ++ pl) s.heap.size) h3 h5.self isC isR hC hR hn hdis qF.2 (fun q h => dk_AsubP hC h) q3 q4
    exact ⟨⟨x, u, q1, q2, by dsimp only; rw [hu]; exact ⟨e1.part iso ho, e2.part iso hno ho⟩⟩, dk_FM qF (fun q h => dk_AsubP hC h)⟩
end LF
theorem dk_rightD {A0 : Nat → Prop} {a b : va_W} (hD : va_D A0 (a ++ b)) : va_D A0 b := hD.by (fun k => a.length + k) (fun k q hq => by
  show (a ++ b)[a.length + k]? = some q
  rw [List.getElem?_append_right (by omega), show a.length + k - a.length = k by omega]
  exact hq) (fun i j _ _ e => by
  have e : a.length + i = a.length + j := e
  omega)
/-- behind a call that had the left part, or the right one -/
theorem fr_left {A0 : Nat → Prop} {D : va_G} {cl : List vw_C} {a b a1 : va_W} {H H1 : Heap} (hP : va_P D cl (a ++ b) H) (hD : va_D A0 (a ++ b)) (hk : ∀ q : Nat, q < H.size → ¬ va_A a H.size q → H1[q]? = H[q]?) (hF : ∀ q, va_A a H.size q → A0 q) (hP1 : va_P D cl a1 H1) (hD1 : va_D (va_A a H.size) a1) : va_P D cl (a1 ++ b) H1 ∧ va_D A0 (a1 ++ b) := by
  have at' : ∀ (k : Nat) (q : Nat × va_E), b[k]? = some q → (a ++ b)[a.length + k]? = some q := fun k q hq => by
    rw [List.getElem?_append_right (by omega), show a.length + k - a.length = k by omega]
    exact hq
  have apart : ∀ (k : Nat) (q : Nat × va_E), b[k]? = some q → q.1 < H.size ∧ ¬ va_A a H.size q.1 := by
    intro k q hq
    have h2 := at' k q hq
    refine ⟨(hP _ q h2).lt, fun h => ?_⟩
    rcases h with ⟨k2, e, h⟩ | h
    · have hl := (List.getElem?_eq_some_iff.mp h).1
      have h3 : (a ++ b)[k2]? = some (q.1, e) := by rw [List.getElem?_append_left hl]; exact h
      have := hD.1 _ _ q (q.1, e) h2 h3 rfl
      omega
    · have := (hP _ q h2).lt
      omega
  have hDb : va_D A0 b := dk_rightD hD
  refine ⟨va_P.app hP1 (fun k q hq => ?_), va_D.app (hD1.weaken (fun k q _ h => hF q.1 h)) hDb (fun i j x y hx hy hxy => ?_)⟩
  · obtain ⟨g1, g2⟩ := apart k q hq
    exact (hP _ q (at' k q hq)).kept (hk q.1 g1 g2)
  · exact (apart j y hy).2 (by rw [← hxy]; exact hD1.2 i x hx)
theorem dk_swap2P {D : va_G} {cl : List vw_C} {a b : va_W} {H : Heap} (h : va_P D cl (a ++ b) H) : va_P D cl (b ++ a) H := va_P.swap (a := []) h
theorem dk_swap2D {A : Nat → Prop} {a b : va_W} (h : va_D A (a ++ b)) : va_D A (b ++ a) := va_D.swap (a := []) h
