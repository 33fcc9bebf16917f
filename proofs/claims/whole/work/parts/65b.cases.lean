-- printed by wip/gen/cases.py
theorem lc_cmp (r : Int64) : lg_cmp r r = 0 := by
  have h1 := (lg_cmp_ge r r).mpr (Int64.le_refl r)
  have h2 := (lg_cmp_le r r).mpr (Int64.le_refl r)
  rw [fa_le] at h1 h2
  exact Int32.toInt_inj.mp (by have : (0 : Int32).toInt = 0 := rfl
                               omega)
section LK1
variable {p : Program} {l : Launch} {e : Env} {s : State} {m : MethodId} {below : List Frame} {meth : Method} {c : Code} {H : Heap} {locs : List Loc} {cells slots : Nat} {Qg : State → Prop} {ls : Array Slot} {b L : Nat} {xs : Nat → Int32} {D : va_G} {cy : Nat → ClassId} {tF tT : Nat} {h hM : Nat} {aM : Nat → Nat} {u : lw_Ad} {Z : ls_Z} {M : Int64 × dk_O}
set_option maxHeartbeats 4000000 in
set_option maxRecDepth 100000 in
theorem lk_write (hL : L ≤ 2048) (cx : ls_Cx p s m c b L xs D cy tF tT) {i : Nat} (hi : i + 3 < L) (hl : lv_has ls 4 [(3, .int (nI i)), (2, .ref hM), (1, .ref h), (0, .ref b)]) (hc : cells ≤ 600000 ∧ slots ≤ 7302250) (hP : va_P D vwCl (ls_W cy h u Z ++ ls_V cy hM aM M) H) (hD : va_D (ls_A s) (ls_W cy h u Z ++ ls_V cy hM aM M)) (hS : va_S (ls_A s) s.heap H locs) (hR : ls_R Z M) (kk : ∀ (u : lw_Ad) (Z : ls_Z) (M : Int64 × dk_O) (H : Heap) (locs : List Loc), va_P D vwCl (ls_W cy h u Z ++ ls_V cy hM aM M) H → va_D (ls_A s) (ls_W cy h u Z ++ ls_V cy hM aM M) → va_S (ls_A s) s.heap H locs → ls_R Z M → W p l e room_1 s m #[Value.ref b] below meth c H locs cells slots Qg (F0 m 799 ls [])) : W p l e room_1 s m #[Value.ref b] below meth c H locs cells slots Qg (F0 m 144 ls []) := by
  obtain ⟨hx, hb, hml, hown, hts, -, -, -, -⟩ := id cx
  refine lv_aload_n hx hb dL_law_144 rfl (lv_at hl 2 rfl) ?_
  refine lv_aload_n hx hb dL_law_145 rfl (lv_at hl 3 rfl) ?_
  refine lv_iload_n hx hb dL_law_146 rfl (lv_at hl 0 rfl) ?_
  refine lv_iconst (v := 1) hx hb dL_law_147 (by decide) ?_
  refine lv_iadd hx hb dL_law_148 ?_
  refine lc_ld cx hS (k := i + 1) ⟨by omega, hL⟩ (nI_add i 1) dL_law_149 ?_
  obtain ⟨r, Z2, M2, c5, c6, hR2⟩ := pr_write l D cy h hM aM hR (xs (i + 1))
  refine lc_5 cx hl.1 c5 (cwV 1 hts gL_law_X5_write rfl rfl rfl (by decide +kernel) ⟨(Nat.le_of_ble_eq_true rfl), (Nat.le_of_ble_eq_true rfl)⟩) rfl rfl (Nat.le_of_ble_eq_true rfl) dL_law_150 hc hP hD hS (fun u H locs hP hD hS => ?_)
  refine lv_aload_n hx hb dL_law_153 rfl (lv_at hl 1 rfl) ?_
  refine lv_aload_n hx hb dL_law_154 rfl (lv_at hl 3 rfl) ?_
  refine lv_iload_n hx hb dL_law_155 rfl (lv_at hl 0 rfl) ?_
  refine lv_iconst (v := 1) hx hb dL_law_156 (by decide) ?_
  refine lv_iadd hx hb dL_law_157 ?_
  refine lc_ld cx hS (k := i + 1) ⟨by omega, hL⟩ (nI_add i 1) dL_law_158 ?_
  refine lc_6 cx hl.1 c6 (cwV 1 hts gL_law_X6_write rfl rfl rfl (by decide +kernel) ⟨(Nat.le_of_ble_eq_true rfl), (Nat.le_of_ble_eq_true rfl)⟩) rfl rfl (Nat.le_of_ble_eq_true rfl) dL_law_159 hc hP hD hS (fun H locs hP hD hS => ?_)
  refine lv_icmp_eq (tgt := 799) hx hb dL_law_162 (by decide) (fun _ => ?_) (fun q => absurd rfl q)
  exact kk u Z2 M2 H locs hP hD hS hR2
set_option maxHeartbeats 4000000 in
set_option maxRecDepth 100000 in
theorem lk_wipe (hL : L ≤ 2048) (cx : ls_Cx p s m c b L xs D cy tF tT) {i : Nat} (hi : i + 3 < L) (hl : lv_has ls 4 [(3, .int (nI i)), (2, .ref hM), (1, .ref h), (0, .ref b)]) (hc : cells ≤ 600000 ∧ slots ≤ 7302250) (hP : va_P D vwCl (ls_W cy h u Z ++ ls_V cy hM aM M) H) (hD : va_D (ls_A s) (ls_W cy h u Z ++ ls_V cy hM aM M)) (hS : va_S (ls_A s) s.heap H locs) (hR : ls_R Z M) (kk : ∀ (u : lw_Ad) (Z : ls_Z) (M : Int64 × dk_O) (H : Heap) (locs : List Loc), va_P D vwCl (ls_W cy h u Z ++ ls_V cy hM aM M) H → va_D (ls_A s) (ls_W cy h u Z ++ ls_V cy hM aM M) → va_S (ls_A s) s.heap H locs → ls_R Z M → W p l e room_1 s m #[Value.ref b] below meth c H locs cells slots Qg (F0 m 799 ls [])) : W p l e room_1 s m #[Value.ref b] below meth c H locs cells slots Qg (F0 m 167 ls []) := by
  obtain ⟨hx, hb, hml, hown, hts, -, -, -, -⟩ := id cx
  refine lv_aload_n hx hb dL_law_167 rfl (lv_at hl 2 rfl) ?_
  obtain ⟨r, Z2, M2, c5, c6, hR2⟩ := pr_wipe l D cy h hM aM hR 
  refine lc_5 cx hl.1 c5 (cwV 0 hts gL_law_X5_wipe rfl rfl rfl (by decide +kernel) ⟨(Nat.le_of_ble_eq_true rfl), (Nat.le_of_ble_eq_true rfl)⟩) rfl rfl (Nat.le_of_ble_eq_true rfl) dL_law_168 hc hP hD hS (fun u H locs hP hD hS => ?_)
  refine lv_aload_n hx hb dL_law_171 rfl (lv_at hl 1 rfl) ?_
  refine lc_6 cx hl.1 c6 (cwV 0 hts gL_law_X6_wipe rfl rfl rfl (by decide +kernel) ⟨(Nat.le_of_ble_eq_true rfl), (Nat.le_of_ble_eq_true rfl)⟩) rfl rfl (Nat.le_of_ble_eq_true rfl) dL_law_172 hc hP hD hS (fun H locs hP hD hS => ?_)
  refine lv_icmp_eq (tgt := 799) hx hb dL_law_175 (by decide) (fun _ => ?_) (fun q => absurd rfl q)
  exact kk u Z2 M2 H locs hP hD hS hR2
set_option maxHeartbeats 4000000 in
set_option maxRecDepth 100000 in
theorem lk_fault (hL : L ≤ 2048) (cx : ls_Cx p s m c b L xs D cy tF tT) {i : Nat} (hi : i + 3 < L) (hl : lv_has ls 4 [(3, .int (nI i)), (2, .ref hM), (1, .ref h), (0, .ref b)]) (hc : cells ≤ 600000 ∧ slots ≤ 7302250) (hP : va_P D vwCl (ls_W cy h u Z ++ ls_V cy hM aM M) H) (hD : va_D (ls_A s) (ls_W cy h u Z ++ ls_V cy hM aM M)) (hS : va_S (ls_A s) s.heap H locs) (hR : ls_R Z M) (kk : ∀ (u : lw_Ad) (Z : ls_Z) (M : Int64 × dk_O) (H : Heap) (locs : List Loc), va_P D vwCl (ls_W cy h u Z ++ ls_V cy hM aM M) H → va_D (ls_A s) (ls_W cy h u Z ++ ls_V cy hM aM M) → va_S (ls_A s) s.heap H locs → ls_R Z M → W p l e room_1 s m #[Value.ref b] below meth c H locs cells slots Qg (F0 m 799 ls [])) : W p l e room_1 s m #[Value.ref b] below meth c H locs cells slots Qg (F0 m 180 ls []) := by
  obtain ⟨hx, hb, hml, hown, hts, -, -, -, -⟩ := id cx
  refine lv_aload_n hx hb dL_law_180 rfl (lv_at hl 2 rfl) ?_
  obtain ⟨r, Z2, M2, c5, c6, hR2⟩ := pr_fault l D cy h hM aM hR 
  refine lc_5 cx hl.1 c5 (cwV 0 hts gL_law_X5_fault rfl rfl rfl (by decide +kernel) ⟨(Nat.le_of_ble_eq_true rfl), (Nat.le_of_ble_eq_true rfl)⟩) rfl rfl (Nat.le_of_ble_eq_true rfl) dL_law_181 hc hP hD hS (fun u H locs hP hD hS => ?_)
  refine lv_aload_n hx hb dL_law_184 rfl (lv_at hl 1 rfl) ?_
  refine lc_6 cx hl.1 c6 (cwV 0 hts gL_law_X6_fault rfl rfl rfl (by decide +kernel) ⟨(Nat.le_of_ble_eq_true rfl), (Nat.le_of_ble_eq_true rfl)⟩) rfl rfl (Nat.le_of_ble_eq_true rfl) dL_law_185 hc hP hD hS (fun H locs hP hD hS => ?_)
  refine lv_icmp_eq (tgt := 799) hx hb dL_law_188 (by decide) (fun _ => ?_) (fun q => absurd rfl q)
  exact kk u Z2 M2 H locs hP hD hS hR2
set_option maxHeartbeats 4000000 in
set_option maxRecDepth 100000 in
theorem lk_net (hL : L ≤ 2048) (cx : ls_Cx p s m c b L xs D cy tF tT) {i : Nat} (hi : i + 3 < L) (hl : lv_has ls 4 [(3, .int (nI i)), (2, .ref hM), (1, .ref h), (0, .ref b)]) (hc : cells ≤ 600000 ∧ slots ≤ 7302250) (hP : va_P D vwCl (ls_W cy h u Z ++ ls_V cy hM aM M) H) (hD : va_D (ls_A s) (ls_W cy h u Z ++ ls_V cy hM aM M)) (hS : va_S (ls_A s) s.heap H locs) (hR : ls_R Z M) (kk : ∀ (u : lw_Ad) (Z : ls_Z) (M : Int64 × dk_O) (H : Heap) (locs : List Loc), va_P D vwCl (ls_W cy h u Z ++ ls_V cy hM aM M) H → va_D (ls_A s) (ls_W cy h u Z ++ ls_V cy hM aM M) → va_S (ls_A s) s.heap H locs → ls_R Z M → W p l e room_1 s m #[Value.ref b] below meth c H locs cells slots Qg (F0 m 799 ls [])) : W p l e room_1 s m #[Value.ref b] below meth c H locs cells slots Qg (F0 m 193 ls []) := by
  obtain ⟨hx, hb, hml, hown, hts, -, -, -, -⟩ := id cx
  refine lv_aload_n hx hb dL_law_193 rfl (lv_at hl 2 rfl) ?_
  obtain ⟨r, Z2, M2, c5, c6, hR2⟩ := pr_net l D cy h hM aM hR 
  refine lc_5 cx hl.1 c5 (cwV 0 hts gL_law_X5_net rfl rfl rfl (by decide +kernel) ⟨(Nat.le_of_ble_eq_true rfl), (Nat.le_of_ble_eq_true rfl)⟩) rfl rfl (Nat.le_of_ble_eq_true rfl) dL_law_194 hc hP hD hS (fun u H locs hP hD hS => ?_)
  refine lv_aload_n hx hb dL_law_197 rfl (lv_at hl 1 rfl) ?_
  refine lc_6 cx hl.1 c6 (cwV 0 hts gL_law_X6_net rfl rfl rfl (by decide +kernel) ⟨(Nat.le_of_ble_eq_true rfl), (Nat.le_of_ble_eq_true rfl)⟩) rfl rfl (Nat.le_of_ble_eq_true rfl) dL_law_198 hc hP hD hS (fun H locs hP hD hS => ?_)
  refine lv_icmp_eq (tgt := 799) hx hb dL_law_201 (by decide) (fun _ => ?_) (fun q => absurd rfl q)
  exact kk u Z2 M2 H locs hP hD hS hR2
set_option maxHeartbeats 4000000 in
set_option maxRecDepth 100000 in
theorem lk_edge (hL : L ≤ 2048) (cx : ls_Cx p s m c b L xs D cy tF tT) {i : Nat} (hi : i + 3 < L) (hl : lv_has ls 4 [(3, .int (nI i)), (2, .ref hM), (1, .ref h), (0, .ref b)]) (hc : cells ≤ 600000 ∧ slots ≤ 7302250) (hP : va_P D vwCl (ls_W cy h u Z ++ ls_V cy hM aM M) H) (hD : va_D (ls_A s) (ls_W cy h u Z ++ ls_V cy hM aM M)) (hS : va_S (ls_A s) s.heap H locs) (hR : ls_R Z M) (kk : ∀ (u : lw_Ad) (Z : ls_Z) (M : Int64 × dk_O) (H : Heap) (locs : List Loc), va_P D vwCl (ls_W cy h u Z ++ ls_V cy hM aM M) H → va_D (ls_A s) (ls_W cy h u Z ++ ls_V cy hM aM M) → va_S (ls_A s) s.heap H locs → ls_R Z M → W p l e room_1 s m #[Value.ref b] below meth c H locs cells slots Qg (F0 m 799 ls [])) : W p l e room_1 s m #[Value.ref b] below meth c H locs cells slots Qg (F0 m 206 ls []) := by
  obtain ⟨hx, hb, hml, hown, hts, -, -, -, -⟩ := id cx
  refine lv_aload_n hx hb dL_law_206 rfl (lv_at hl 2 rfl) ?_
  refine lv_aload_n hx hb dL_law_207 rfl (lv_at hl 3 rfl) ?_
  refine lv_iload_n hx hb dL_law_208 rfl (lv_at hl 0 rfl) ?_
  refine lv_iconst (v := 1) hx hb dL_law_209 (by decide) ?_
  refine lv_iadd hx hb dL_law_210 ?_
  refine lc_ld cx hS (k := i + 1) ⟨by omega, hL⟩ (nI_add i 1) dL_law_211 ?_
  refine lv_aload_n hx hb dL_law_212 rfl (lv_at hl 3 rfl) ?_
  refine lv_iload_n hx hb dL_law_213 rfl (lv_at hl 0 rfl) ?_
  refine lv_iconst (v := 2) hx hb dL_law_214 (by decide) ?_
  refine lv_iadd hx hb dL_law_215 ?_
  refine lc_ld cx hS (k := i + 2) ⟨by omega, hL⟩ (nI_add i 2) dL_law_216 ?_
  obtain ⟨r, Z2, M2, c5, c6, hR2⟩ := pr_edge l D cy h hM aM hR (xs (i + 1)) (xs (i + 2))
  refine lc_5 cx hl.1 c5 (cwV 2 hts gL_law_X5_edge rfl rfl rfl (by decide +kernel) ⟨(Nat.le_of_ble_eq_true rfl), (Nat.le_of_ble_eq_true rfl)⟩) rfl rfl (Nat.le_of_ble_eq_true rfl) dL_law_217 hc hP hD hS (fun u H locs hP hD hS => ?_)
  refine lv_aload_n hx hb dL_law_220 rfl (lv_at hl 1 rfl) ?_
  refine lv_aload_n hx hb dL_law_221 rfl (lv_at hl 3 rfl) ?_
  refine lv_iload_n hx hb dL_law_222 rfl (lv_at hl 0 rfl) ?_
  refine lv_iconst (v := 1) hx hb dL_law_223 (by decide) ?_
  refine lv_iadd hx hb dL_law_224 ?_
  refine lc_ld cx hS (k := i + 1) ⟨by omega, hL⟩ (nI_add i 1) dL_law_225 ?_
  refine lv_aload_n hx hb dL_law_226 rfl (lv_at hl 3 rfl) ?_
  refine lv_iload_n hx hb dL_law_227 rfl (lv_at hl 0 rfl) ?_
  refine lv_iconst (v := 2) hx hb dL_law_228 (by decide) ?_
  refine lv_iadd hx hb dL_law_229 ?_
  refine lc_ld cx hS (k := i + 2) ⟨by omega, hL⟩ (nI_add i 2) dL_law_230 ?_
  refine lc_6 cx hl.1 c6 (cwV 2 hts gL_law_X6_edge rfl rfl rfl (by decide +kernel) ⟨(Nat.le_of_ble_eq_true rfl), (Nat.le_of_ble_eq_true rfl)⟩) rfl rfl (Nat.le_of_ble_eq_true rfl) dL_law_231 hc hP hD hS (fun H locs hP hD hS => ?_)
  refine lv_icmp_eq (tgt := 799) hx hb dL_law_234 (by decide) (fun _ => ?_) (fun q => absurd rfl q)
  exact kk u Z2 M2 H locs hP hD hS hR2
set_option maxHeartbeats 4000000 in
set_option maxRecDepth 100000 in
theorem lk_searcher (hL : L ≤ 2048) (cx : ls_Cx p s m c b L xs D cy tF tT) {i : Nat} (hi : i + 3 < L) (hl : lv_has ls 4 [(3, .int (nI i)), (2, .ref hM), (1, .ref h), (0, .ref b)]) (hc : cells ≤ 600000 ∧ slots ≤ 7302250) (hP : va_P D vwCl (ls_W cy h u Z ++ ls_V cy hM aM M) H) (hD : va_D (ls_A s) (ls_W cy h u Z ++ ls_V cy hM aM M)) (hS : va_S (ls_A s) s.heap H locs) (hR : ls_R Z M) (kk : ∀ (u : lw_Ad) (Z : ls_Z) (M : Int64 × dk_O) (H : Heap) (locs : List Loc), va_P D vwCl (ls_W cy h u Z ++ ls_V cy hM aM M) H → va_D (ls_A s) (ls_W cy h u Z ++ ls_V cy hM aM M) → va_S (ls_A s) s.heap H locs → ls_R Z M → W p l e room_1 s m #[Value.ref b] below meth c H locs cells slots Qg (F0 m 799 ls [])) : W p l e room_1 s m #[Value.ref b] below meth c H locs cells slots Qg (F0 m 239 ls []) := by
  obtain ⟨hx, hb, hml, hown, hts, -, -, -, -⟩ := id cx
  refine lv_aload_n hx hb dL_law_239 rfl (lv_at hl 2 rfl) ?_
  refine lv_aload_n hx hb dL_law_240 rfl (lv_at hl 3 rfl) ?_
  refine lv_iload_n hx hb dL_law_241 rfl (lv_at hl 0 rfl) ?_
  refine lv_iconst (v := 1) hx hb dL_law_242 (by decide) ?_
  refine lv_iadd hx hb dL_law_243 ?_
  refine lc_ld cx hS (k := i + 1) ⟨by omega, hL⟩ (nI_add i 1) dL_law_244 ?_
  refine lv_aload_n hx hb dL_law_245 rfl (lv_at hl 3 rfl) ?_
  refine lv_iload_n hx hb dL_law_246 rfl (lv_at hl 0 rfl) ?_
  refine lv_iconst (v := 2) hx hb dL_law_247 (by decide) ?_
  refine lv_iadd hx hb dL_law_248 ?_
  refine lc_ld cx hS (k := i + 2) ⟨by omega, hL⟩ (nI_add i 2) dL_law_249 ?_
  obtain ⟨r, Z2, M2, c5, c6, hR2⟩ := pr_searcher l D cy h hM aM hR (xs (i + 1)) (xs (i + 2))
  refine lc_5 cx hl.1 c5 (cwV 2 hts gL_law_X5_searcher rfl rfl rfl (by decide +kernel) ⟨(Nat.le_of_ble_eq_true rfl), (Nat.le_of_ble_eq_true rfl)⟩) rfl rfl (Nat.le_of_ble_eq_true rfl) dL_law_250 hc hP hD hS (fun u H locs hP hD hS => ?_)
  refine lv_aload_n hx hb dL_law_253 rfl (lv_at hl 1 rfl) ?_
  refine lv_aload_n hx hb dL_law_254 rfl (lv_at hl 3 rfl) ?_
  refine lv_iload_n hx hb dL_law_255 rfl (lv_at hl 0 rfl) ?_
  refine lv_iconst (v := 1) hx hb dL_law_256 (by decide) ?_
  refine lv_iadd hx hb dL_law_257 ?_
  refine lc_ld cx hS (k := i + 1) ⟨by omega, hL⟩ (nI_add i 1) dL_law_258 ?_
  refine lv_aload_n hx hb dL_law_259 rfl (lv_at hl 3 rfl) ?_
  refine lv_iload_n hx hb dL_law_260 rfl (lv_at hl 0 rfl) ?_
  refine lv_iconst (v := 2) hx hb dL_law_261 (by decide) ?_
  refine lv_iadd hx hb dL_law_262 ?_
  refine lc_ld cx hS (k := i + 2) ⟨by omega, hL⟩ (nI_add i 2) dL_law_263 ?_
  refine lc_6 cx hl.1 c6 (cwV 2 hts gL_law_X6_searcher rfl rfl rfl (by decide +kernel) ⟨(Nat.le_of_ble_eq_true rfl), (Nat.le_of_ble_eq_true rfl)⟩) rfl rfl (Nat.le_of_ble_eq_true rfl) dL_law_264 hc hP hD hS (fun H locs hP hD hS => ?_)
  refine lv_icmp_eq (tgt := 799) hx hb dL_law_267 (by decide) (fun _ => ?_) (fun q => absurd rfl q)
  exact kk u Z2 M2 H locs hP hD hS hR2
set_option maxHeartbeats 4000000 in
set_option maxRecDepth 100000 in
theorem lk_step (hL : L ≤ 2048) (cx : ls_Cx p s m c b L xs D cy tF tT) {i : Nat} (hi : i + 3 < L) (hl : lv_has ls 4 [(3, .int (nI i)), (2, .ref hM), (1, .ref h), (0, .ref b)]) (hc : cells ≤ 600000 ∧ slots ≤ 7302250) (hP : va_P D vwCl (ls_W cy h u Z ++ ls_V cy hM aM M) H) (hD : va_D (ls_A s) (ls_W cy h u Z ++ ls_V cy hM aM M)) (hS : va_S (ls_A s) s.heap H locs) (hR : ls_R Z M) (kk : ∀ (u : lw_Ad) (Z : ls_Z) (M : Int64 × dk_O) (H : Heap) (locs : List Loc), va_P D vwCl (ls_W cy h u Z ++ ls_V cy hM aM M) H → va_D (ls_A s) (ls_W cy h u Z ++ ls_V cy hM aM M) → va_S (ls_A s) s.heap H locs → ls_R Z M → W p l e room_1 s m #[Value.ref b] below meth c H locs cells slots Qg (F0 m 799 ls [])) : W p l e room_1 s m #[Value.ref b] below meth c H locs cells slots Qg (F0 m 272 ls []) := by
  obtain ⟨hx, hb, hml, hown, hts, -, -, -, -⟩ := id cx
  refine lv_aload_n hx hb dL_law_272 rfl (lv_at hl 2 rfl) ?_
  refine lv_aload_n hx hb dL_law_273 rfl (lv_at hl 3 rfl) ?_
  refine lv_iload_n hx hb dL_law_274 rfl (lv_at hl 0 rfl) ?_
  refine lv_iconst (v := 1) hx hb dL_law_275 (by decide) ?_
  refine lv_iadd hx hb dL_law_276 ?_
  refine lc_ld cx hS (k := i + 1) ⟨by omega, hL⟩ (nI_add i 1) dL_law_277 ?_
  refine lv_aload_n hx hb dL_law_278 rfl (lv_at hl 3 rfl) ?_
  refine lv_iload_n hx hb dL_law_279 rfl (lv_at hl 0 rfl) ?_
  refine lv_iconst (v := 2) hx hb dL_law_280 (by decide) ?_
  refine lv_iadd hx hb dL_law_281 ?_
  refine lc_ld cx hS (k := i + 2) ⟨by omega, hL⟩ (nI_add i 2) dL_law_282 ?_
  obtain ⟨r, Z2, M2, c5, c6, hR2⟩ := pr_step l D cy h hM aM hR (xs (i + 1)) (xs (i + 2))
  refine lc_5 cx hl.1 c5 (cwV 2 hts gL_law_X5_step rfl rfl rfl (by decide +kernel) ⟨(Nat.le_of_ble_eq_true rfl), (Nat.le_of_ble_eq_true rfl)⟩) rfl rfl (Nat.le_of_ble_eq_true rfl) dL_law_283 hc hP hD hS (fun u H locs hP hD hS => ?_)
  refine lv_aload_n hx hb dL_law_286 rfl (lv_at hl 1 rfl) ?_
  refine lv_aload_n hx hb dL_law_287 rfl (lv_at hl 3 rfl) ?_
  refine lv_iload_n hx hb dL_law_288 rfl (lv_at hl 0 rfl) ?_
  refine lv_iconst (v := 1) hx hb dL_law_289 (by decide) ?_
  refine lv_iadd hx hb dL_law_290 ?_
  refine lc_ld cx hS (k := i + 1) ⟨by omega, hL⟩ (nI_add i 1) dL_law_291 ?_
  refine lv_aload_n hx hb dL_law_292 rfl (lv_at hl 3 rfl) ?_
  refine lv_iload_n hx hb dL_law_293 rfl (lv_at hl 0 rfl) ?_
  refine lv_iconst (v := 2) hx hb dL_law_294 (by decide) ?_
  refine lv_iadd hx hb dL_law_295 ?_
  refine lc_ld cx hS (k := i + 2) ⟨by omega, hL⟩ (nI_add i 2) dL_law_296 ?_
  refine lc_6 cx hl.1 c6 (cwV 2 hts gL_law_X6_step rfl rfl rfl (by decide +kernel) ⟨(Nat.le_of_ble_eq_true rfl), (Nat.le_of_ble_eq_true rfl)⟩) rfl rfl (Nat.le_of_ble_eq_true rfl) dL_law_297 hc hP hD hS (fun H locs hP hD hS => ?_)
  refine lv_icmp_eq (tgt := 799) hx hb dL_law_300 (by decide) (fun _ => ?_) (fun q => absurd rfl q)
  exact kk u Z2 M2 H locs hP hD hS hR2
set_option maxHeartbeats 4000000 in
set_option maxRecDepth 100000 in
theorem lk_round (hL : L ≤ 2048) (cx : ls_Cx p s m c b L xs D cy tF tT) {i : Nat} (hi : i + 3 < L) (hl : lv_has ls 4 [(3, .int (nI i)), (2, .ref hM), (1, .ref h), (0, .ref b)]) (hc : cells ≤ 600000 ∧ slots ≤ 7302250) (hP : va_P D vwCl (ls_W cy h u Z ++ ls_V cy hM aM M) H) (hD : va_D (ls_A s) (ls_W cy h u Z ++ ls_V cy hM aM M)) (hS : va_S (ls_A s) s.heap H locs) (hR : ls_R Z M) (kk : ∀ (u : lw_Ad) (Z : ls_Z) (M : Int64 × dk_O) (H : Heap) (locs : List Loc), va_P D vwCl (ls_W cy h u Z ++ ls_V cy hM aM M) H → va_D (ls_A s) (ls_W cy h u Z ++ ls_V cy hM aM M) → va_S (ls_A s) s.heap H locs → ls_R Z M → W p l e room_1 s m #[Value.ref b] below meth c H locs cells slots Qg (F0 m 799 ls [])) : W p l e room_1 s m #[Value.ref b] below meth c H locs cells slots Qg (F0 m 305 ls []) := by
  obtain ⟨hx, hb, hml, hown, hts, -, -, -, -⟩ := id cx
  refine lv_aload_n hx hb dL_law_305 rfl (lv_at hl 2 rfl) ?_
  obtain ⟨r, Z2, M2, c5, c6, hR2⟩ := pr_round l D cy h hM aM hR 
  refine lc_5 cx hl.1 c5 (cwV 0 hts gL_law_X5_round rfl rfl rfl (by decide +kernel) ⟨(Nat.le_of_ble_eq_true rfl), (Nat.le_of_ble_eq_true rfl)⟩) rfl rfl (Nat.le_of_ble_eq_true rfl) dL_law_306 hc hP hD hS (fun u H locs hP hD hS => ?_)
  refine lv_aload_n hx hb dL_law_309 rfl (lv_at hl 1 rfl) ?_
  refine lc_6 cx hl.1 c6 (cwV 0 hts gL_law_X6_round rfl rfl rfl (by decide +kernel) ⟨(Nat.le_of_ble_eq_true rfl), (Nat.le_of_ble_eq_true rfl)⟩) rfl rfl (Nat.le_of_ble_eq_true rfl) dL_law_310 hc hP hD hS (fun H locs hP hD hS => ?_)
  refine lv_icmp_eq (tgt := 799) hx hb dL_law_313 (by decide) (fun _ => ?_) (fun q => absurd rfl q)
  exact kk u Z2 M2 H locs hP hD hS hR2
set_option maxHeartbeats 4000000 in
set_option maxRecDepth 100000 in
theorem lk_join (hL : L ≤ 2048) (cx : ls_Cx p s m c b L xs D cy tF tT) {i : Nat} (hi : i + 3 < L) (hl : lv_has ls 4 [(3, .int (nI i)), (2, .ref hM), (1, .ref h), (0, .ref b)]) (hc : cells ≤ 600000 ∧ slots ≤ 7302250) (hP : va_P D vwCl (ls_W cy h u Z ++ ls_V cy hM aM M) H) (hD : va_D (ls_A s) (ls_W cy h u Z ++ ls_V cy hM aM M)) (hS : va_S (ls_A s) s.heap H locs) (hR : ls_R Z M) (kk : ∀ (u : lw_Ad) (Z : ls_Z) (M : Int64 × dk_O) (H : Heap) (locs : List Loc), va_P D vwCl (ls_W cy h u Z ++ ls_V cy hM aM M) H → va_D (ls_A s) (ls_W cy h u Z ++ ls_V cy hM aM M) → va_S (ls_A s) s.heap H locs → ls_R Z M → W p l e room_1 s m #[Value.ref b] below meth c H locs cells slots Qg (F0 m 799 ls [])) : W p l e room_1 s m #[Value.ref b] below meth c H locs cells slots Qg (F0 m 318 ls []) := by
  obtain ⟨hx, hb, hml, hown, hts, -, -, -, -⟩ := id cx
  refine lv_aload_n hx hb dL_law_318 rfl (lv_at hl 2 rfl) ?_
  obtain ⟨r, Z2, M2, c5, c6, hR2⟩ := pr_join l D cy h hM aM hR 
  refine lc_5 cx hl.1 c5 (cwV 0 hts gL_law_X5_join rfl rfl rfl (by decide +kernel) ⟨(Nat.le_of_ble_eq_true rfl), (Nat.le_of_ble_eq_true rfl)⟩) rfl rfl (Nat.le_of_ble_eq_true rfl) dL_law_319 hc hP hD hS (fun u H locs hP hD hS => ?_)
  refine lv_aload_n hx hb dL_law_322 rfl (lv_at hl 1 rfl) ?_
  refine lc_6 cx hl.1 c6 (cwV 0 hts gL_law_X6_join rfl rfl rfl (by decide +kernel) ⟨(Nat.le_of_ble_eq_true rfl), (Nat.le_of_ble_eq_true rfl)⟩) rfl rfl (Nat.le_of_ble_eq_true rfl) dL_law_323 hc hP hD hS (fun H locs hP hD hS => ?_)
  refine lv_icmp_eq (tgt := 799) hx hb dL_law_326 (by decide) (fun _ => ?_) (fun q => absurd rfl q)
  exact kk u Z2 M2 H locs hP hD hS hR2
set_option maxHeartbeats 4000000 in
set_option maxRecDepth 100000 in
theorem lk_hide (hL : L ≤ 2048) (cx : ls_Cx p s m c b L xs D cy tF tT) {i : Nat} (hi : i + 3 < L) (hl : lv_has ls 4 [(3, .int (nI i)), (2, .ref hM), (1, .ref h), (0, .ref b)]) (hc : cells ≤ 600000 ∧ slots ≤ 7302250) (hP : va_P D vwCl (ls_W cy h u Z ++ ls_V cy hM aM M) H) (hD : va_D (ls_A s) (ls_W cy h u Z ++ ls_V cy hM aM M)) (hS : va_S (ls_A s) s.heap H locs) (hR : ls_R Z M) (kk : ∀ (u : lw_Ad) (Z : ls_Z) (M : Int64 × dk_O) (H : Heap) (locs : List Loc), va_P D vwCl (ls_W cy h u Z ++ ls_V cy hM aM M) H → va_D (ls_A s) (ls_W cy h u Z ++ ls_V cy hM aM M) → va_S (ls_A s) s.heap H locs → ls_R Z M → W p l e room_1 s m #[Value.ref b] below meth c H locs cells slots Qg (F0 m 799 ls [])) : W p l e room_1 s m #[Value.ref b] below meth c H locs cells slots Qg (F0 m 331 ls []) := by
  obtain ⟨hx, hb, hml, hown, hts, -, -, -, -⟩ := id cx
  refine lv_aload_n hx hb dL_law_331 rfl (lv_at hl 2 rfl) ?_
  refine lv_aload_n hx hb dL_law_332 rfl (lv_at hl 3 rfl) ?_
  refine lv_iload_n hx hb dL_law_333 rfl (lv_at hl 0 rfl) ?_
  refine lv_iconst (v := 1) hx hb dL_law_334 (by decide) ?_
  refine lv_iadd hx hb dL_law_335 ?_
  refine lc_ld cx hS (k := i + 1) ⟨by omega, hL⟩ (nI_add i 1) dL_law_336 ?_
  obtain ⟨r, Z2, M2, c5, c6, hR2⟩ := pr_hide l D cy h hM aM hR (xs (i + 1))
  refine lc_5 cx hl.1 c5 (cwV 1 hts gL_law_X5_hide rfl rfl rfl (by decide +kernel) ⟨(Nat.le_of_ble_eq_true rfl), (Nat.le_of_ble_eq_true rfl)⟩) rfl rfl (Nat.le_of_ble_eq_true rfl) dL_law_337 hc hP hD hS (fun u H locs hP hD hS => ?_)
  refine lv_aload_n hx hb dL_law_340 rfl (lv_at hl 1 rfl) ?_
  refine lv_aload_n hx hb dL_law_341 rfl (lv_at hl 3 rfl) ?_
  refine lv_iload_n hx hb dL_law_342 rfl (lv_at hl 0 rfl) ?_
  refine lv_iconst (v := 1) hx hb dL_law_343 (by decide) ?_
  refine lv_iadd hx hb dL_law_344 ?_
  refine lc_ld cx hS (k := i + 1) ⟨by omega, hL⟩ (nI_add i 1) dL_law_345 ?_
  refine lc_6 cx hl.1 c6 (cwV 1 hts gL_law_X6_hide rfl rfl rfl (by decide +kernel) ⟨(Nat.le_of_ble_eq_true rfl), (Nat.le_of_ble_eq_true rfl)⟩) rfl rfl (Nat.le_of_ble_eq_true rfl) dL_law_346 hc hP hD hS (fun H locs hP hD hS => ?_)
  refine lv_icmp_eq (tgt := 799) hx hb dL_law_349 (by decide) (fun _ => ?_) (fun q => absurd rfl q)
  exact kk u Z2 M2 H locs hP hD hS hR2
set_option maxHeartbeats 4000000 in
set_option maxRecDepth 100000 in
theorem lk_undo (hL : L ≤ 2048) (cx : ls_Cx p s m c b L xs D cy tF tT) {i : Nat} (hi : i + 3 < L) (hl : lv_has ls 4 [(3, .int (nI i)), (2, .ref hM), (1, .ref h), (0, .ref b)]) (hc : cells ≤ 600000 ∧ slots ≤ 7302250) (hP : va_P D vwCl (ls_W cy h u Z ++ ls_V cy hM aM M) H) (hD : va_D (ls_A s) (ls_W cy h u Z ++ ls_V cy hM aM M)) (hS : va_S (ls_A s) s.heap H locs) (hR : ls_R Z M) (kk : ∀ (u : lw_Ad) (Z : ls_Z) (M : Int64 × dk_O) (H : Heap) (locs : List Loc), va_P D vwCl (ls_W cy h u Z ++ ls_V cy hM aM M) H → va_D (ls_A s) (ls_W cy h u Z ++ ls_V cy hM aM M) → va_S (ls_A s) s.heap H locs → ls_R Z M → W p l e room_1 s m #[Value.ref b] below meth c H locs cells slots Qg (F0 m 799 ls [])) : W p l e room_1 s m #[Value.ref b] below meth c H locs cells slots Qg (F0 m 354 ls []) := by
  obtain ⟨hx, hb, hml, hown, hts, -, -, -, -⟩ := id cx
  refine lv_aload_n hx hb dL_law_354 rfl (lv_at hl 2 rfl) ?_
  obtain ⟨r, Z2, M2, c5, c6, hR2⟩ := pr_undo l D cy h hM aM hR 
  refine lc_5 cx hl.1 c5 (cwV 0 hts gL_law_X5_undo rfl rfl rfl (by decide +kernel) ⟨(Nat.le_of_ble_eq_true rfl), (Nat.le_of_ble_eq_true rfl)⟩) rfl rfl (Nat.le_of_ble_eq_true rfl) dL_law_355 hc hP hD hS (fun u H locs hP hD hS => ?_)
  refine lv_aload_n hx hb dL_law_358 rfl (lv_at hl 1 rfl) ?_
  refine lc_6 cx hl.1 c6 (cwV 0 hts gL_law_X6_undo rfl rfl rfl (by decide +kernel) ⟨(Nat.le_of_ble_eq_true rfl), (Nat.le_of_ble_eq_true rfl)⟩) rfl rfl (Nat.le_of_ble_eq_true rfl) dL_law_359 hc hP hD hS (fun H locs hP hD hS => ?_)
  refine lv_icmp_eq (tgt := 799) hx hb dL_law_362 (by decide) (fun _ => ?_) (fun q => absurd rfl q)
  exact kk u Z2 M2 H locs hP hD hS hR2
set_option maxHeartbeats 4000000 in
set_option maxRecDepth 100000 in
theorem lk_ask (hL : L ≤ 2048) (cx : ls_Cx p s m c b L xs D cy tF tT) {i : Nat} (hi : i + 3 < L) (hl : lv_has ls 4 [(3, .int (nI i)), (2, .ref hM), (1, .ref h), (0, .ref b)]) (hc : cells ≤ 600000 ∧ slots ≤ 7302250) (hP : va_P D vwCl (ls_W cy h u Z ++ ls_V cy hM aM M) H) (hD : va_D (ls_A s) (ls_W cy h u Z ++ ls_V cy hM aM M)) (hS : va_S (ls_A s) s.heap H locs) (hR : ls_R Z M) (kk : ∀ (u : lw_Ad) (Z : ls_Z) (M : Int64 × dk_O) (H : Heap) (locs : List Loc), va_P D vwCl (ls_W cy h u Z ++ ls_V cy hM aM M) H → va_D (ls_A s) (ls_W cy h u Z ++ ls_V cy hM aM M) → va_S (ls_A s) s.heap H locs → ls_R Z M → W p l e room_1 s m #[Value.ref b] below meth c H locs cells slots Qg (F0 m 799 ls [])) : W p l e room_1 s m #[Value.ref b] below meth c H locs cells slots Qg (F0 m 367 ls []) := by
  obtain ⟨hx, hb, hml, hown, hts, -, -, -, -⟩ := id cx
  refine lv_aload_n hx hb dL_law_367 rfl (lv_at hl 2 rfl) ?_
  refine lv_aload_n hx hb dL_law_368 rfl (lv_at hl 3 rfl) ?_
  refine lv_iload_n hx hb dL_law_369 rfl (lv_at hl 0 rfl) ?_
  refine lv_iconst (v := 1) hx hb dL_law_370 (by decide) ?_
  refine lv_iadd hx hb dL_law_371 ?_
  refine lc_ld cx hS (k := i + 1) ⟨by omega, hL⟩ (nI_add i 1) dL_law_372 ?_
  obtain ⟨r, Z2, M2, c5, c6, hR2⟩ := pr_ask l D cy h hM aM hR (xs (i + 1))
  refine lc_5 cx hl.1 c5 (cwV 1 hts gL_law_X5_ask rfl rfl rfl (by decide +kernel) ⟨(Nat.le_of_ble_eq_true rfl), (Nat.le_of_ble_eq_true rfl)⟩) rfl rfl (Nat.le_of_ble_eq_true rfl) dL_law_373 hc hP hD hS (fun u H locs hP hD hS => ?_)
  refine lv_aload_n hx hb dL_law_376 rfl (lv_at hl 1 rfl) ?_
  refine lv_aload_n hx hb dL_law_377 rfl (lv_at hl 3 rfl) ?_
  refine lv_iload_n hx hb dL_law_378 rfl (lv_at hl 0 rfl) ?_
  refine lv_iconst (v := 1) hx hb dL_law_379 (by decide) ?_
  refine lv_iadd hx hb dL_law_380 ?_
  refine lc_ld cx hS (k := i + 1) ⟨by omega, hL⟩ (nI_add i 1) dL_law_381 ?_
  refine lc_6 cx hl.1 c6 (cwV 1 hts gL_law_X6_ask rfl rfl rfl (by decide +kernel) ⟨(Nat.le_of_ble_eq_true rfl), (Nat.le_of_ble_eq_true rfl)⟩) rfl rfl (Nat.le_of_ble_eq_true rfl) dL_law_382 hc hP hD hS (fun H locs hP hD hS => ?_)
  refine lv_icmp_eq (tgt := 799) hx hb dL_law_385 (by decide) (fun _ => ?_) (fun q => absurd rfl q)
  exact kk u Z2 M2 H locs hP hD hS hR2
end LK1
