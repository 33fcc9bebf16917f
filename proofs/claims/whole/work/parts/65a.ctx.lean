/-! the law: what holds throughout, and its two kinds of calls -/
def ls_A (s : State) : Nat → Prop := fun q => s.heap.size ≤ q
def ls_Cx (p : Program) (s : State) (m : MethodId) (c : Code) (b L : Nat) (xs : Nat → Int32) (D : va_G) (cy : Nat → ClassId) (tF tT : Nat) : Prop := p.tables.exec = Jvm.exec ∧ c.code = cL_law ∧ c.maxLocals = 4 ∧ s.vm.findClass RL = some m.cls ∧ (∀ w ∈ wsL_law, w.before #[Value.ref b] s = true) ∧ va_X b L xs s s.heap ∧ b < s.heap.size ∧ dk_K D cy s ∧ dk_Tb tF tT (ls_A s) s s.heap
section LC
variable {p : Program} {l : Launch} {e : Env} {s : State} {m : MethodId} {below : List Frame} {meth : Method} {c : Code} {H : Heap} {locs : List Loc} {cells slots : Nat} {Qg : State → Prop} {pc : Nat} {ls : Array Slot} {rest st0 : List Value} {b L : Nat} {xs : Nat → Int32} {D : va_G} {cy : Nat → ClassId} {tF tT : Nat} {h hM : Nat} {aM : Nat → Nat} {u : lw_Ad} {Z Z' : ls_Z} {M M' : Int64 × dk_O}
theorem ls_F {a w : va_W} {A0 : Nat → Prop} {H0 H : Heap} {locs : List Loc} (hD : va_D A0 a) (hS : va_S A0 H0 H locs) (hA : ∀ q, H0.size ≤ q → A0 q) : ∀ q, va_A a H.size q → A0 q := by
  intro q hq
  rcases hq with ⟨k, x, hq⟩ | hq
  · exact hD.2 k (q, x) hq
  · exact hA q (Nat.le_trans hS.1 hq)
theorem lc_5 {As : List Value} {index n maxL : Nat} {y : MethodName} {ws : List Cond} {rm : Room} {bytes : ByteArray} {ret : Option FieldType} {r : Int32} (cx : ls_Cx p s m c b L xs D cy tF tT) (hl : ls.size = 4) (hK5 : ∀ u sz tF tT, lw_K l y ws rm D cy (.ref h :: As) (ls_W cy h u Z) (fun (u' : lw_Ad) => ls_W cy h u' Z') sz tF tT r) (cw : CallW room_1 s #[Value.ref b] RL RX5 index y bytes maxL ret ws rm 0 0 n) (hn : As.length = n) (hst : st0 = As.reverse ++ .ref h :: rest) (hW : (rest.map fun v => v.category).sum ≤ 8) (hdg : decode cL_law pc = .ok (.invokevirtual index, 3)) (hc : cells ≤ 600000 ∧ slots ≤ 7302250) (hP : va_P D vwCl (ls_W cy h u Z ++ ls_V cy hM aM M) H) (hD : va_D (ls_A s) (ls_W cy h u Z ++ ls_V cy hM aM M)) (hS : va_S (ls_A s) s.heap H locs) (kk : ∀ (u : lw_Ad) (H : Heap) (locs : List Loc), va_P D vwCl (ls_W cy h u Z' ++ ls_V cy hM aM M) H → va_D (ls_A s) (ls_W cy h u Z' ++ ls_V cy hM aM M) → va_S (ls_A s) s.heap H locs → W p l e room_1 s m #[Value.ref b] below meth c H locs cells slots Qg (F0 m (pc + 3) ls (.int r :: rest))) : W p l e room_1 s m #[Value.ref b] below meth c H locs cells slots Qg (F0 m pc ls st0) := by
  obtain ⟨hx, hb, hml, hown, hts, hX, hbl, hK, hTb⟩ := cx
  subst hst
  have hPc := dk_leftP hP
  have hDc := dk_leftD hD
  have hF := ls_F hDc hS (w := []) (fun q h => h)
  refine va_calli (va_runV (As := As) (rest := rest) ⟨hx, hb, hml, hown, hts⟩ (hK5 u H.size tF tT) cw (dk_premVS hK hPc hDc hTb hS hF (ci := 5) (q0 := 0) rfl rfl) rfl hn hl rfl (lv_room hW) hdg hc) hS (fun q _ h => hF q h) hF (fun r1 u1 t H1 locs ht hvm hw hB hz1 hk1 hS => ?_)
  obtain ⟨hP1, hD1⟩ := hB
  rw [ht] at hP1
  rw [hw]
  obtain ⟨hP2, hD2⟩ := fr_left hP hD hk1 hF hP1 hD1
  exact kk u1 H1 locs hP2 hD2 hS
theorem lc_5L {As : List Value} {index n maxL : Nat} {y : MethodName} {ws : List Cond} {rm : Room} {bytes : ByteArray} {ret : Option FieldType} {r : Int64} (cx : ls_Cx p s m c b L xs D cy tF tT) (hl : ls.size = 4) (hK5 : ∀ u sz tF tT, lw_KL l y ws rm D cy (.ref h :: As) (ls_W cy h u Z) (fun (u' : lw_Ad) => ls_W cy h u' Z') sz tF tT r) (cw : CallW room_1 s #[Value.ref b] RL RX5 index y bytes maxL ret ws rm 0 0 n) (hn : As.length = n) (hst : st0 = As.reverse ++ .ref h :: rest) (hW : (rest.map fun v => v.category).sum ≤ 8) (hdg : decode cL_law pc = .ok (.invokevirtual index, 3)) (hc : cells ≤ 600000 ∧ slots ≤ 7302250) (hP : va_P D vwCl (ls_W cy h u Z ++ ls_V cy hM aM M) H) (hD : va_D (ls_A s) (ls_W cy h u Z ++ ls_V cy hM aM M)) (hS : va_S (ls_A s) s.heap H locs) (kk : ∀ (u : lw_Ad) (H : Heap) (locs : List Loc), va_P D vwCl (ls_W cy h u Z' ++ ls_V cy hM aM M) H → va_D (ls_A s) (ls_W cy h u Z' ++ ls_V cy hM aM M) → va_S (ls_A s) s.heap H locs → W p l e room_1 s m #[Value.ref b] below meth c H locs cells slots Qg (F0 m (pc + 3) ls (.long r :: rest))) : W p l e room_1 s m #[Value.ref b] below meth c H locs cells slots Qg (F0 m pc ls st0) := by
  obtain ⟨hx, hb, hml, hown, hts, hX, hbl, hK, hTb⟩ := cx
  subst hst
  have hPc := dk_leftP hP
  have hDc := dk_leftD hD
  have hF := ls_F hDc hS (w := []) (fun q h => h)
  refine va_calll (va_runV (As := As) (rest := rest) ⟨hx, hb, hml, hown, hts⟩ (hK5 u H.size tF tT) cw (dk_premVS hK hPc hDc hTb hS hF (ci := 5) (q0 := 0) rfl rfl) rfl hn hl rfl (lv_room hW) hdg hc) hS (fun q _ h => hF q h) hF (fun r1 u1 t H1 locs ht hvm hw hB hz1 hk1 hS => ?_)
  obtain ⟨hP1, hD1⟩ := hB
  rw [ht] at hP1
  rw [hw]
  obtain ⟨hP2, hD2⟩ := fr_left hP hD hk1 hF hP1 hD1
  exact kk u1 H1 locs hP2 hD2 hS
theorem lc_6 {As : List Value} {index n maxL : Nat} {y : MethodName} {ws : List Cond} {rm : Room} {bytes : ByteArray} {ret : Option FieldType} {r : Int32} (cx : ls_Cx p s m c b L xs D cy tF tT) (hl : ls.size = 4) (hK6 : ∀ sz, dk_MuI l y ws rm D cy (.ref hM :: As) (ls_V cy hM aM M) (ls_V cy hM aM M') sz r) (cw : CallW room_1 s #[Value.ref b] RL RX6 index y bytes maxL ret ws rm 0 0 n) (hn : As.length = n) (hst : st0 = As.reverse ++ .ref hM :: rest) (hW : (rest.map fun v => v.category).sum ≤ 8) (hdg : decode cL_law pc = .ok (.invokevirtual index, 3)) (hc : cells ≤ 600000 ∧ slots ≤ 7302250) (hP : va_P D vwCl (ls_W cy h u Z ++ ls_V cy hM aM M) H) (hD : va_D (ls_A s) (ls_W cy h u Z ++ ls_V cy hM aM M)) (hS : va_S (ls_A s) s.heap H locs) (kk : ∀ (H : Heap) (locs : List Loc), va_P D vwCl (ls_W cy h u Z ++ ls_V cy hM aM M') H → va_D (ls_A s) (ls_W cy h u Z ++ ls_V cy hM aM M') → va_S (ls_A s) s.heap H locs → W p l e room_1 s m #[Value.ref b] below meth c H locs cells slots Qg (F0 m (pc + 3) ls (.int r :: rest))) : W p l e room_1 s m #[Value.ref b] below meth c H locs cells slots Qg (F0 m pc ls st0) := by
  obtain ⟨hx, hb, hml, hown, hts, hX, hbl, hK, hTb⟩ := cx
  subst hst
  have hP := dk_swap2P hP
  have hD := dk_swap2D hD
  have hPc := dk_leftP hP
  have hDc := dk_leftD hD
  have hF := ls_F hDc hS (w := []) (fun q h => h)
  refine va_calli (va_runV (As := As) (rest := rest) ⟨hx, hb, hml, hown, hts⟩ (hK6 H.size) cw (dk_premV hK hPc hDc (ci := 6) (q0 := 0) rfl rfl) rfl hn hl rfl (lv_room hW) hdg hc) hS (fun q _ h => hF q h) hF (fun r1 u1 t H1 locs ht hvm hw hB hz1 hk1 hS => ?_)
  obtain ⟨hP1, hD1⟩ := hB
  rw [ht] at hP1
  rw [hw]
  obtain ⟨hP2, hD2⟩ := fr_left hP hD hk1 hF hP1 hD1
  exact kk H1 locs (dk_swap2P hP2) (dk_swap2D hD2) hS
theorem lc_6L {As : List Value} {index n maxL : Nat} {y : MethodName} {ws : List Cond} {rm : Room} {bytes : ByteArray} {ret : Option FieldType} {r : Int64} (cx : ls_Cx p s m c b L xs D cy tF tT) (hl : ls.size = 4) (hK6 : ∀ sz, dk_MuL l y ws rm D cy (.ref hM :: As) (ls_V cy hM aM M) (ls_V cy hM aM M') sz r) (cw : CallW room_1 s #[Value.ref b] RL RX6 index y bytes maxL ret ws rm 0 0 n) (hn : As.length = n) (hst : st0 = As.reverse ++ .ref hM :: rest) (hW : (rest.map fun v => v.category).sum ≤ 8) (hdg : decode cL_law pc = .ok (.invokevirtual index, 3)) (hc : cells ≤ 600000 ∧ slots ≤ 7302250) (hP : va_P D vwCl (ls_W cy h u Z ++ ls_V cy hM aM M) H) (hD : va_D (ls_A s) (ls_W cy h u Z ++ ls_V cy hM aM M)) (hS : va_S (ls_A s) s.heap H locs) (kk : ∀ (H : Heap) (locs : List Loc), va_P D vwCl (ls_W cy h u Z ++ ls_V cy hM aM M') H → va_D (ls_A s) (ls_W cy h u Z ++ ls_V cy hM aM M') → va_S (ls_A s) s.heap H locs → W p l e room_1 s m #[Value.ref b] below meth c H locs cells slots Qg (F0 m (pc + 3) ls (.long r :: rest))) : W p l e room_1 s m #[Value.ref b] below meth c H locs cells slots Qg (F0 m pc ls st0) := by
  obtain ⟨hx, hb, hml, hown, hts, hX, hbl, hK, hTb⟩ := cx
  subst hst
  have hP := dk_swap2P hP
  have hD := dk_swap2D hD
  have hPc := dk_leftP hP
  have hDc := dk_leftD hD
  have hF := ls_F hDc hS (w := []) (fun q h => h)
  refine va_calll (va_runV (As := As) (rest := rest) ⟨hx, hb, hml, hown, hts⟩ (hK6 H.size) cw (dk_premV hK hPc hDc (ci := 6) (q0 := 0) rfl rfl) rfl hn hl rfl (lv_room hW) hdg hc) hS (fun q _ h => hF q h) hF (fun r1 u1 t H1 locs ht hvm hw hB hz1 hk1 hS => ?_)
  obtain ⟨hP1, hD1⟩ := hB
  rw [ht] at hP1
  rw [hw]
  obtain ⟨hP2, hD2⟩ := fr_left hP hD hk1 hF hP1 hD1
  exact kk H1 locs (dk_swap2P hP2) (dk_swap2D hD2) hS
/-- a number of the script -/
theorem lc_ld (cx : ls_Cx p s m c b L xs D cy tF tT) (hS : va_S (ls_A s) s.heap H locs) {k : Nat} {x : Int32} (hk : k < L ∧ L ≤ 2048) (hxk : x = nI k) (hdg : decode cL_law pc = .ok (.iaload, 1)) (kk : W p l e room_1 s m #[Value.ref b] below meth c H locs cells slots Qg (F0 m (pc + 1) ls (.int (xs k) :: rest))) : W p l e room_1 s m #[Value.ref b] below meth c H locs cells slots Qg (F0 m pc ls (.int x :: .ref b :: rest)) := by
  obtain ⟨hx, hb, hml, hown, hts, hX, hbl, hK, hTb⟩ := cx
  subst hxk
  refine va_sld hx hb hX hbl (A := ls_A s) (Nat.not_le.mpr hbl) hS (vp_in_nI hk.1 (by omega)) hdg ?_
  rw [nI_clamp (by omega)]
  exact kk
end LC
