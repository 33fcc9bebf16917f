/-! the states of both sides; printed by wip/gen/law.py -/
abbrev ls_Z : Type := Int64 × (dk_O × dk_O × dk_O × dk_O) × (dk_O × dk_O × dk_O × dk_O) × (Nat → dk_O) × (Nat → dk_O)
def ls_W (cy : Nat → ClassId) (h : Nat) (u : lw_Ad) (Z : ls_Z) : va_W := lw_C cy h u Z.1 Z.2.1.1 Z.2.1.2.1 Z.2.1.2.2.1 Z.2.1.2.2.2 Z.2.2.1.1 Z.2.2.1.2.1 Z.2.2.1.2.2.1 Z.2.2.1.2.2.2 Z.2.2.2.1 Z.2.2.2.2
def ls_V (cy : Nat → ClassId) (hM : Nat) (aM : Nat → Nat) (M : Int64 × dk_O) : va_W := wMd cy hM aM M.1 M.2
def ls_R (Z : ls_Z) (M : Int64 × dk_O) : Prop := Z.1 = M.1 ∧ rl Z.2.1.1 Z.2.1.2.1 Z.2.1.2.2.2 Z.2.2.1.1 Z.2.2.1.2.2.1 Z.2.2.1.2.2.2 Z.2.2.2.1 Z.2.2.2.2 M.2
theorem pr_write (l : Launch) (D : va_G) (cy : Nat → ClassId) (h hM : Nat) (aM : Nat → Nat) {Z : ls_Z} {M : Int64 × dk_O} (hR : ls_R Z M) (v1 : Int32) : ∃ (A : Int32) (Z' : ls_Z) (M' : Int64 × dk_O), (∀ u sz tF tT, lw_K l yX5_write wsX5_write ({ frames := 2, cells := 0, slots := 0, locals := 41 }) D cy [.ref h, .int v1] (ls_W cy h u Z) (fun (u' : lw_Ad) => ls_W cy h u' Z') sz tF tT A) ∧ (∀ sz, dk_MuI l yX6_write wsX6_write ({ frames := 1, cells := 0, slots := 0, locals := 25 }) D cy [.ref hM, .int v1] (ls_V cy hM aM M) (ls_V cy hM aM M') sz A) ∧ ls_R Z' M' := by
  obtain ⟨sd, ⟨oQ, oX, oN, oG⟩, ⟨oT, oU, oC, oE⟩, CB, SB⟩ := Z
  obtain ⟨sdM, oM⟩ := M
  obtain ⟨e, hr⟩ := hR
  dsimp only at e hr
  subst e
  obtain ⟨A, nX_I, nX_0, mM_I, mM_1, e1, e2, hr2⟩ := cl_write hr v1
  exact ⟨A, (sd, (oQ, (nX_I, dk_upA oX.2 0 nX_0), oN, oG), (oT, oU, oC, oE), CB, SB), (sd, mM_I, dk_upA oM.2 1 mM_1), fun u sz tF tT => qw_write l D cy h u sd oQ oX oN oG oT oU oC oE CB SB sz tF tT v1 A nX_I nX_0 e1, fun sz => kX6_write l D cy hM aM sd sz oM v1 A mM_I mM_1 e2, rfl, hr2⟩
theorem pr_wipe (l : Launch) (D : va_G) (cy : Nat → ClassId) (h hM : Nat) (aM : Nat → Nat) {Z : ls_Z} {M : Int64 × dk_O} (hR : ls_R Z M)  : ∃ (A : Int32) (Z' : ls_Z) (M' : Int64 × dk_O), (∀ u sz tF tT, lw_K l yX5_wipe wsX5_wipe ({ frames := 1, cells := 0, slots := 0, locals := 21 }) D cy [.ref h] (ls_W cy h u Z) (fun (u' : lw_Ad) => ls_W cy h u' Z') sz tF tT A) ∧ (∀ sz, dk_MuI l yX6_wipe wsX6_wipe ({ frames := 0, cells := 0, slots := 0, locals := 0 }) D cy [.ref hM] (ls_V cy hM aM M) (ls_V cy hM aM M') sz A) ∧ ls_R Z' M' := by
  obtain ⟨sd, ⟨oQ, oX, oN, oG⟩, ⟨oT, oU, oC, oE⟩, CB, SB⟩ := Z
  obtain ⟨sdM, oM⟩ := M
  obtain ⟨e, hr⟩ := hR
  dsimp only at e hr
  subst e
  obtain ⟨A, nX_I, mM_I, e1, e2, hr2⟩ := cl_wipe hr 
  exact ⟨A, (sd, (oQ, (nX_I, oX.2), oN, oG), (oT, oU, oC, oE), CB, SB), (sd, mM_I, oM.2), fun u sz tF tT => qw_wipe l D cy h u sd oQ oX oN oG oT oU oC oE CB SB sz tF tT  A nX_I e1, fun sz => kX6_wipe l D cy hM aM sd sz oM  A mM_I e2, rfl, hr2⟩
theorem pr_fault (l : Launch) (D : va_G) (cy : Nat → ClassId) (h hM : Nat) (aM : Nat → Nat) {Z : ls_Z} {M : Int64 × dk_O} (hR : ls_R Z M)  : ∃ (A : Int32) (Z' : ls_Z) (M' : Int64 × dk_O), (∀ u sz tF tT, lw_K l yX5_fault wsX5_fault ({ frames := 5, cells := 0, slots := 0, locals := 111 }) D cy [.ref h] (ls_W cy h u Z) (fun (u' : lw_Ad) => ls_W cy h u' Z') sz tF tT A) ∧ (∀ sz, dk_MuI l yX6_fault wsX6_fault ({ frames := 4, cells := 0, slots := 0, locals := 90 }) D cy [.ref hM] (ls_V cy hM aM M) (ls_V cy hM aM M') sz A) ∧ ls_R Z' M' := by
  obtain ⟨sd, ⟨oQ, oX, oN, oG⟩, ⟨oT, oU, oC, oE⟩, CB, SB⟩ := Z
  obtain ⟨sdM, oM⟩ := M
  obtain ⟨e, hr⟩ := hR
  dsimp only at e hr
  subst e
  obtain ⟨A, nN_I, nN_5, nN_6, nN_8, mM_I, mM_14, mM_15, e1, e2, hr2⟩ := cl_fault (D := oN) hr 
  exact ⟨A, (sd, (oQ, oX, (nN_I, dk_upA (dk_upA (dk_upA oN.2 5 nN_5) 6 nN_6) 8 nN_8), oG), (oT, oU, oC, oE), CB, SB), (sd, mM_I, dk_upA (dk_upA oM.2 14 mM_14) 15 mM_15), fun u sz tF tT => qw_fault l D cy h u sd oQ oX oN oG oT oU oC oE CB SB sz tF tT  A nN_I nN_5 nN_6 nN_8 e1, fun sz => kX6_fault l D cy hM aM sd sz oM  A mM_I mM_14 mM_15 e2, rfl, hr2⟩
theorem pr_net (l : Launch) (D : va_G) (cy : Nat → ClassId) (h hM : Nat) (aM : Nat → Nat) {Z : ls_Z} {M : Int64 × dk_O} (hR : ls_R Z M)  : ∃ (A : Int32) (Z' : ls_Z) (M' : Int64 × dk_O), (∀ u sz tF tT, lw_K l yX5_net wsX5_net ({ frames := 5, cells := 0, slots := 0, locals := 111 }) D cy [.ref h] (ls_W cy h u Z) (fun (u' : lw_Ad) => ls_W cy h u' Z') sz tF tT A) ∧ (∀ sz, dk_MuI l yX6_net wsX6_net ({ frames := 4, cells := 0, slots := 0, locals := 90 }) D cy [.ref hM] (ls_V cy hM aM M) (ls_V cy hM aM M') sz A) ∧ ls_R Z' M' := by
  obtain ⟨sd, ⟨oQ, oX, oN, oG⟩, ⟨oT, oU, oC, oE⟩, CB, SB⟩ := Z
  obtain ⟨sdM, oM⟩ := M
  obtain ⟨e, hr⟩ := hR
  dsimp only at e hr
  subst e
  obtain ⟨A, nQ_7, nN_I, nN_5, nN_6, nN_8, nG_I, nG_5, nG_6, nT_I, nT_1, nT_2, nC_I, mM_I, mM_7, mM_8, mM_16, mM_14, mM_15, mM_21, e1, e2, hr2⟩ := cl_net (D := oN) hr 
  exact ⟨A, (sd, ((oQ.1, dk_upA oQ.2 7 nQ_7), oX, (nN_I, dk_upA (dk_upA (dk_upA oN.2 5 nN_5) 6 nN_6) 8 nN_8), (nG_I, dk_upA (dk_upA oG.2 5 nG_5) 6 nG_6)), ((nT_I, dk_upA (dk_upA oT.2 1 nT_1) 2 nT_2), oU, (nC_I, oC.2), oE), CB, SB), (sd, mM_I, dk_upA (dk_upA (dk_upA (dk_upA (dk_upA (dk_upA oM.2 7 mM_7) 8 mM_8) 16 mM_16) 14 mM_14) 15 mM_15) 21 mM_21), fun u sz tF tT => qw_net l D cy h u sd oQ oX oN oG oT oU oC oE CB SB sz tF tT  A nQ_7 nN_I nN_5 nN_6 nN_8 nG_I nG_5 nG_6 nT_I nT_1 nT_2 nC_I e1, fun sz => kX6_net l D cy hM aM sd sz oM  A mM_I mM_7 mM_8 mM_16 mM_14 mM_15 mM_21 e2, rfl, hr2⟩
theorem pr_edge (l : Launch) (D : va_G) (cy : Nat → ClassId) (h hM : Nat) (aM : Nat → Nat) {Z : ls_Z} {M : Int64 × dk_O} (hR : ls_R Z M) (v1 : Int32) (v2 : Int32) : ∃ (A : Int32) (Z' : ls_Z) (M' : Int64 × dk_O), (∀ u sz tF tT, lw_K l yX5_edge wsX5_edge ({ frames := 3, cells := 0, slots := 0, locals := 64 }) D cy [.ref h, .int v1, .int v2] (ls_W cy h u Z) (fun (u' : lw_Ad) => ls_W cy h u' Z') sz tF tT A) ∧ (∀ sz, dk_MuI l yX6_edge wsX6_edge ({ frames := 2, cells := 0, slots := 0, locals := 46 }) D cy [.ref hM, .int v1, .int v2] (ls_V cy hM aM M) (ls_V cy hM aM M') sz A) ∧ ls_R Z' M' := by
  obtain ⟨sd, ⟨oQ, oX, oN, oG⟩, ⟨oT, oU, oC, oE⟩, CB, SB⟩ := Z
  obtain ⟨sdM, oM⟩ := M
  obtain ⟨e, hr⟩ := hR
  dsimp only at e hr
  subst e
  obtain ⟨A, e1, e2⟩ := cl_edge hr v1 v2
  exact ⟨A, (sd, (oQ, oX, oN, oG), (oT, oU, oC, oE), CB, SB), (sd, upd oM.1 0 0, oM.2), fun u sz tF tT => qw_edge l D cy h u sd oQ oX oN oG oT oU oC oE CB SB sz tF tT v1 v2 A  e1, fun sz => kX6_edge l D cy hM aM sd sz oM v1 v2 A (upd oM.1 0 0) e2, rfl, rl_ask1 hr⟩
theorem pr_searcher (l : Launch) (D : va_G) (cy : Nat → ClassId) (h hM : Nat) (aM : Nat → Nat) {Z : ls_Z} {M : Int64 × dk_O} (hR : ls_R Z M) (v1 : Int32) (v2 : Int32) : ∃ (A : Int32) (Z' : ls_Z) (M' : Int64 × dk_O), (∀ u sz tF tT, lw_K l yX5_searcher wsX5_searcher ({ frames := 3, cells := 0, slots := 0, locals := 72 }) D cy [.ref h, .int v1, .int v2] (ls_W cy h u Z) (fun (u' : lw_Ad) => ls_W cy h u' Z') sz tF tT A) ∧ (∀ sz, dk_MuI l yX6_searcher wsX6_searcher ({ frames := 4, cells := 0, slots := 0, locals := 93 }) D cy [.ref hM, .int v1, .int v2] (ls_V cy hM aM M) (ls_V cy hM aM M') sz A) ∧ ls_R Z' M' := by
  obtain ⟨sd, ⟨oQ, oX, oN, oG⟩, ⟨oT, oU, oC, oE⟩, CB, SB⟩ := Z
  obtain ⟨sdM, oM⟩ := M
  obtain ⟨e, hr⟩ := hR
  dsimp only at e hr
  subst e
  obtain ⟨A, mM_26, e1, e2⟩ := cl_searcher hr v1 v2
  exact ⟨A, (sd, (oQ, oX, oN, oG), (oT, oU, oC, oE), CB, SB), (sd, upd oM.1 0 0, dk_upA oM.2 26 mM_26), fun u sz tF tT => qw_searcher l D cy h u sd oQ oX oN oG oT oU oC oE CB SB sz tF tT v1 v2 A  e1, fun sz => kX6_searcher l D cy hM aM sd sz oM v1 v2 A (upd oM.1 0 0) mM_26 e2, rfl, rl_ask26 hr⟩
theorem pr_step (l : Launch) (D : va_G) (cy : Nat → ClassId) (h hM : Nat) (aM : Nat → Nat) {Z : ls_Z} {M : Int64 × dk_O} (hR : ls_R Z M) (v1 : Int32) (v2 : Int32) : ∃ (A : Int32) (Z' : ls_Z) (M' : Int64 × dk_O), (∀ u sz tF tT, lw_K l yX5_step wsX5_step ({ frames := 4, cells := 0, slots := 0, locals := 86 }) D cy [.ref h, .int v1, .int v2] (ls_W cy h u Z) (fun (u' : lw_Ad) => ls_W cy h u' Z') sz tF tT A) ∧ (∀ sz, dk_MuI l yX6_step wsX6_step ({ frames := 3, cells := 0, slots := 0, locals := 69 }) D cy [.ref hM, .int v1, .int v2] (ls_V cy hM aM M) (ls_V cy hM aM M') sz A) ∧ ls_R Z' M' := by
  obtain ⟨sd, ⟨oQ, oX, oN, oG⟩, ⟨oT, oU, oC, oE⟩, CB, SB⟩ := Z
  obtain ⟨sdM, oM⟩ := M
  obtain ⟨e, hr⟩ := hR
  dsimp only at e hr
  subst e
  obtain ⟨A, nT_I, nT_1, nT_2, nC_I, nC_B, mM_I, mM_16, mM_18, e1, e2, hr2⟩ := cl_step hr v1 v2
  exact ⟨A, (sd, (oQ, oX, oN, oG), ((nT_I, dk_upA (dk_upA oT.2 1 nT_1) 2 nT_2), oU, (nC_I, oC.2), oE), nC_B, SB), (sd, mM_I, dk_upA (dk_upA oM.2 16 mM_16) 18 mM_18), fun u sz tF tT => qw_step l D cy h u sd oQ oX oN oG oT oU oC oE CB SB sz tF tT v1 v2 A nT_I nT_1 nT_2 nC_I nC_B e1, fun sz => kX6_step l D cy hM aM sd sz oM v1 v2 A mM_I mM_16 mM_18 e2, rfl, hr2⟩
theorem pr_round (l : Launch) (D : va_G) (cy : Nat → ClassId) (h hM : Nat) (aM : Nat → Nat) {Z : ls_Z} {M : Int64 × dk_O} (hR : ls_R Z M)  : ∃ (A : Int32) (Z' : ls_Z) (M' : Int64 × dk_O), (∀ u sz tF tT, lw_K l yX5_round wsX5_round ({ frames := 4, cells := 0, slots := 0, locals := 96 }) D cy [.ref h] (ls_W cy h u Z) (fun (u' : lw_Ad) => ls_W cy h u' Z') sz tF tT A) ∧ (∀ sz, dk_MuI l yX6_round wsX6_round ({ frames := 5, cells := 0, slots := 0, locals := 117 }) D cy [.ref hM] (ls_V cy hM aM M) (ls_V cy hM aM M') sz A) ∧ ls_R Z' M' := by
  obtain ⟨sd, ⟨oQ, oX, oN, oG⟩, ⟨oT, oU, oC, oE⟩, CB, SB⟩ := Z
  obtain ⟨sdM, oM⟩ := M
  obtain ⟨e, hr⟩ := hR
  dsimp only at e hr
  subst e
  obtain ⟨A, nT_I, nT_1, nT_2, nC_I, nC_B, mM_I, mM_26, mM_16, mM_18, e1, e2, hr2⟩ := cl_round hr 
  exact ⟨A, (sd, (oQ, oX, oN, oG), ((nT_I, dk_upA (dk_upA oT.2 1 nT_1) 2 nT_2), oU, (nC_I, oC.2), oE), nC_B, SB), (sd, mM_I, dk_upA (dk_upA (dk_upA oM.2 26 mM_26) 16 mM_16) 18 mM_18), fun u sz tF tT => qw_round l D cy h u sd oQ oX oN oG oT oU oC oE CB SB sz tF tT  A nT_I nT_1 nT_2 nC_I nC_B e1, fun sz => kX6_round l D cy hM aM sd sz oM  A mM_I mM_26 mM_16 mM_18 e2, rfl, hr2⟩
theorem pr_join (l : Launch) (D : va_G) (cy : Nat → ClassId) (h hM : Nat) (aM : Nat → Nat) {Z : ls_Z} {M : Int64 × dk_O} (hR : ls_R Z M)  : ∃ (A : Int32) (Z' : ls_Z) (M' : Int64 × dk_O), (∀ u sz tF tT, lw_K l yX5_join wsX5_join ({ frames := 2, cells := 0, slots := 0, locals := 43 }) D cy [.ref h] (ls_W cy h u Z) (fun (u' : lw_Ad) => ls_W cy h u' Z') sz tF tT A) ∧ (∀ sz, dk_MuI l yX6_join wsX6_join ({ frames := 1, cells := 0, slots := 0, locals := 21 }) D cy [.ref hM] (ls_V cy hM aM M) (ls_V cy hM aM M') sz A) ∧ ls_R Z' M' := by
  obtain ⟨sd, ⟨oQ, oX, oN, oG⟩, ⟨oT, oU, oC, oE⟩, CB, SB⟩ := Z
  obtain ⟨sdM, oM⟩ := M
  obtain ⟨e, hr⟩ := hR
  dsimp only at e hr
  subst e
  obtain ⟨A, nT_I, nT_1, nT_2, nC_I, nC_B, mM_I, mM_16, mM_18, e1, e2, hr2⟩ := cl_join hr 
  exact ⟨A, (sd, (oQ, oX, oN, oG), ((nT_I, dk_upA (dk_upA oT.2 1 nT_1) 2 nT_2), oU, (nC_I, oC.2), oE), nC_B, SB), (sd, mM_I, dk_upA (dk_upA oM.2 16 mM_16) 18 mM_18), fun u sz tF tT => qw_join l D cy h u sd oQ oX oN oG oT oU oC oE CB SB sz tF tT  A nT_I nT_1 nT_2 nC_I nC_B e1, fun sz => kX6_join l D cy hM aM sd sz oM  A mM_I mM_16 mM_18 e2, rfl, hr2⟩
theorem pr_hide (l : Launch) (D : va_G) (cy : Nat → ClassId) (h hM : Nat) (aM : Nat → Nat) {Z : ls_Z} {M : Int64 × dk_O} (hR : ls_R Z M) (v1 : Int32) : ∃ (A : Int32) (Z' : ls_Z) (M' : Int64 × dk_O), (∀ u sz tF tT, lw_K l yX5_hide wsX5_hide ({ frames := 2, cells := 0, slots := 0, locals := 43 }) D cy [.ref h, .int v1] (ls_W cy h u Z) (fun (u' : lw_Ad) => ls_W cy h u' Z') sz tF tT A) ∧ (∀ sz, dk_MuI l yX6_hide wsX6_hide ({ frames := 3, cells := 0, slots := 0, locals := 68 }) D cy [.ref hM, .int v1] (ls_V cy hM aM M) (ls_V cy hM aM M') sz A) ∧ ls_R Z' M' := by
  obtain ⟨sd, ⟨oQ, oX, oN, oG⟩, ⟨oT, oU, oC, oE⟩, CB, SB⟩ := Z
  obtain ⟨sdM, oM⟩ := M
  obtain ⟨e, hr⟩ := hR
  dsimp only at e hr
  subst e
  obtain ⟨A, nT_I, nC_I, nC_B, mM_I, mM_16, mM_18, e1, e2, hr2⟩ := cl_hide hr v1
  exact ⟨A, (sd, (oQ, oX, oN, oG), ((nT_I, oT.2), oU, (nC_I, oC.2), oE), nC_B, SB), (sd, mM_I, dk_upA (dk_upA oM.2 16 mM_16) 18 mM_18), fun u sz tF tT => qw_hide l D cy h u sd oQ oX oN oG oT oU oC oE CB SB sz tF tT v1 A nT_I nC_I nC_B e1, fun sz => kX6_hide l D cy hM aM sd sz oM v1 A mM_I mM_16 mM_18 e2, rfl, hr2⟩
theorem pr_undo (l : Launch) (D : va_G) (cy : Nat → ClassId) (h hM : Nat) (aM : Nat → Nat) {Z : ls_Z} {M : Int64 × dk_O} (hR : ls_R Z M)  : ∃ (A : Int32) (Z' : ls_Z) (M' : Int64 × dk_O), (∀ u sz tF tT, lw_K l yX5_undo wsX5_undo ({ frames := 2, cells := 0, slots := 0, locals := 43 }) D cy [.ref h] (ls_W cy h u Z) (fun (u' : lw_Ad) => ls_W cy h u' Z') sz tF tT A) ∧ (∀ sz, dk_MuI l yX6_undo wsX6_undo ({ frames := 0, cells := 0, slots := 0, locals := 0 }) D cy [.ref hM] (ls_V cy hM aM M) (ls_V cy hM aM M') sz A) ∧ ls_R Z' M' := by
  obtain ⟨sd, ⟨oQ, oX, oN, oG⟩, ⟨oT, oU, oC, oE⟩, CB, SB⟩ := Z
  obtain ⟨sdM, oM⟩ := M
  obtain ⟨e, hr⟩ := hR
  dsimp only at e hr
  subst e
  obtain ⟨A, nT_I, nT_1, nT_2, nC_I, mM_I, mM_16, e1, e2, hr2⟩ := cl_undo hr 
  exact ⟨A, (sd, (oQ, oX, oN, oG), ((nT_I, dk_upA (dk_upA oT.2 1 nT_1) 2 nT_2), oU, (nC_I, oC.2), oE), CB, SB), (sd, mM_I, dk_upA oM.2 16 mM_16), fun u sz tF tT => qw_undo l D cy h u sd oQ oX oN oG oT oU oC oE CB SB sz tF tT  A nT_I nT_1 nT_2 nC_I e1, fun sz => kX6_undo l D cy hM aM sd sz oM  A mM_I mM_16 e2, rfl, hr2⟩
theorem pr_ask (l : Launch) (D : va_G) (cy : Nat → ClassId) (h hM : Nat) (aM : Nat → Nat) {Z : ls_Z} {M : Int64 × dk_O} (hR : ls_R Z M) (v1 : Int32) : ∃ (A : Int32) (Z' : ls_Z) (M' : Int64 × dk_O), (∀ u sz tF tT, lw_K l yX5_ask wsX5_ask ({ frames := 6, cells := 0, slots := 0, locals := 143 }) D cy [.ref h, .int v1] (ls_W cy h u Z) (fun (u' : lw_Ad) => ls_W cy h u' Z') sz tF tT A) ∧ (∀ sz, dk_MuI l yX6_ask wsX6_ask ({ frames := 7, cells := 0, slots := 0, locals := 162 }) D cy [.ref hM, .int v1] (ls_V cy hM aM M) (ls_V cy hM aM M') sz A) ∧ ls_R Z' M' := by
  obtain ⟨sd, ⟨oQ, oX, oN, oG⟩, ⟨oT, oU, oC, oE⟩, CB, SB⟩ := Z
  obtain ⟨sdM, oM⟩ := M
  obtain ⟨e, hr⟩ := hR
  dsimp only at e hr
  subst e
  obtain ⟨A, nU_I, nU_1, nU_2, mM_26, mM_17, e1, e2⟩ := cl_ask (U := oU) hr v1
  exact ⟨A, (sd, (oQ, oX, oN, oG), (oT, (nU_I, dk_upA (dk_upA oU.2 1 nU_1) 2 nU_2), oC, oE), CB, SB), (sd, upd oM.1 0 0, dk_upA (dk_upA oM.2 26 mM_26) 17 mM_17), fun u sz tF tT => qw_ask l D cy h u sd oQ oX oN oG oT oU oC oE CB SB sz tF tT v1 A nU_I nU_1 nU_2 e1, fun sz => kX6_ask l D cy hM aM sd sz oM v1 A (upd oM.1 0 0) mM_26 mM_17 e2, rfl, rl_ask hr⟩
theorem pr_fate (l : Launch) (D : va_G) (cy : Nat → ClassId) (h hM : Nat) (aM : Nat → Nat) {Z : ls_Z} {M : Int64 × dk_O} (hR : ls_R Z M) (v1 : Int32) (v2 : Int32) : ∃ (A : Int32) (Z' : ls_Z) (M' : Int64 × dk_O), (∀ u sz tF tT, lw_K l yX5_fate wsX5_fate ({ frames := 5, cells := 0, slots := 0, locals := 117 }) D cy [.ref h, .int v1, .int v2] (ls_W cy h u Z) (fun (u' : lw_Ad) => ls_W cy h u' Z') sz tF tT A) ∧ (∀ sz, dk_MuI l yX6_fate wsX6_fate ({ frames := 6, cells := 0, slots := 0, locals := 138 }) D cy [.ref hM, .int v1, .int v2] (ls_V cy hM aM M) (ls_V cy hM aM M') sz A) ∧ ls_R Z' M' := by
  obtain ⟨sd, ⟨oQ, oX, oN, oG⟩, ⟨oT, oU, oC, oE⟩, CB, SB⟩ := Z
  obtain ⟨sdM, oM⟩ := M
  obtain ⟨e, hr⟩ := hR
  dsimp only at e hr
  subst e
  obtain ⟨A, nU_I, nU_1, nU_2, mM_26, mM_17, e1, e2⟩ := cl_fate (U := oU) hr v1 v2
  exact ⟨A, (sd, (oQ, oX, oN, oG), (oT, (nU_I, dk_upA (dk_upA oU.2 1 nU_1) 2 nU_2), oC, oE), CB, SB), (sd, upd oM.1 0 0, dk_upA (dk_upA oM.2 26 mM_26) 17 mM_17), fun u sz tF tT => qw_fate l D cy h u sd oQ oX oN oG oT oU oC oE CB SB sz tF tT v1 v2 A nU_I nU_1 nU_2 e1, fun sz => kX6_fate l D cy hM aM sd sz oM v1 v2 A (upd oM.1 0 0) mM_26 mM_17 e2, rfl, rl_ask hr⟩
theorem pr_judge (l : Launch) (D : va_G) (cy : Nat → ClassId) (h hM : Nat) (aM : Nat → Nat) {Z : ls_Z} {M : Int64 × dk_O} (hR : ls_R Z M) (v1 : Int32) (v2 : Int64) : ∃ (A : Int32) (Z' : ls_Z) (M' : Int64 × dk_O), (∀ u sz tF tT, lw_K l yX5_judge wsX5_judge ({ frames := 6, cells := 0, slots := 0, locals := 139 }) D cy [.ref h, .int v1, .long v2] (ls_W cy h u Z) (fun (u' : lw_Ad) => ls_W cy h u' Z') sz tF tT A) ∧ (∀ sz, dk_MuI l yX6_judge wsX6_judge ({ frames := 6, cells := 0, slots := 0, locals := 141 }) D cy [.ref hM, .int v1, .long v2] (ls_V cy hM aM M) (ls_V cy hM aM M') sz A) ∧ ls_R Z' M' := by
  obtain ⟨sd, ⟨oQ, oX, oN, oG⟩, ⟨oT, oU, oC, oE⟩, CB, SB⟩ := Z
  obtain ⟨sdM, oM⟩ := M
  obtain ⟨e, hr⟩ := hR
  dsimp only at e hr
  subst e
  obtain ⟨A, nU_I, nU_1, nU_2, mM_26, mM_17, e1, e2⟩ := cl_judge (U := oU) hr v1 v2
  exact ⟨A, (sd, (oQ, oX, oN, oG), (oT, (nU_I, dk_upA (dk_upA oU.2 1 nU_1) 2 nU_2), oC, oE), CB, SB), (sd, upd oM.1 0 0, dk_upA (dk_upA oM.2 26 mM_26) 17 mM_17), fun u sz tF tT => qw_judge l D cy h u sd oQ oX oN oG oT oU oC oE CB SB sz tF tT v1 v2 A nU_I nU_1 nU_2 e1, fun sz => kX6_judge l D cy hM aM sd sz oM v1 v2 A (upd oM.1 0 0) mM_26 mM_17 e2, rfl, rl_ask hr⟩
theorem pr_see (l : Launch) (D : va_G) (cy : Nat → ClassId) (h hM : Nat) (aM : Nat → Nat) {Z : ls_Z} {M : Int64 × dk_O} (hR : ls_R Z M) (v1 : Int32) (v2 : Int32) : ∃ (A : Int32) (Z' : ls_Z) (M' : Int64 × dk_O), (∀ u sz tF tT, lw_K l yX5_see wsX5_see ({ frames := 1, cells := 0, slots := 0, locals := 22 }) D cy [.ref h, .int v1, .int v2] (ls_W cy h u Z) (fun (u' : lw_Ad) => ls_W cy h u' Z') sz tF tT A) ∧ (∀ sz, dk_MuI l yX6_see wsX6_see ({ frames := 1, cells := 0, slots := 0, locals := 25 }) D cy [.ref hM, .int v1, .int v2] (ls_V cy hM aM M) (ls_V cy hM aM M') sz A) ∧ ls_R Z' M' := by
  obtain ⟨sd, ⟨oQ, oX, oN, oG⟩, ⟨oT, oU, oC, oE⟩, CB, SB⟩ := Z
  obtain ⟨sdM, oM⟩ := M
  obtain ⟨e, hr⟩ := hR
  dsimp only at e hr
  subst e
  obtain ⟨A, nE_I, nE_0, nE_1, mM_I, mM_23, mM_24, e1, e2, hr2⟩ := cl_see hr v1 v2
  exact ⟨A, (sd, (oQ, oX, oN, oG), (oT, oU, oC, (nE_I, dk_upA (dk_upA oE.2 0 nE_0) 1 nE_1)), CB, SB), (sd, mM_I, dk_upA (dk_upA oM.2 23 mM_23) 24 mM_24), fun u sz tF tT => qw_see l D cy h u sd oQ oX oN oG oT oU oC oE CB SB sz tF tT v1 v2 A nE_I nE_0 nE_1 e1, fun sz => kX6_see l D cy hM aM sd sz oM v1 v2 A mM_I mM_23 mM_24 e2, rfl, hr2⟩
theorem pr_unsee (l : Launch) (D : va_G) (cy : Nat → ClassId) (h hM : Nat) (aM : Nat → Nat) {Z : ls_Z} {M : Int64 × dk_O} (hR : ls_R Z M)  : ∃ (A : Int32) (Z' : ls_Z) (M' : Int64 × dk_O), (∀ u sz tF tT, lw_K l yX5_unsee wsX5_unsee ({ frames := 1, cells := 0, slots := 0, locals := 21 }) D cy [.ref h] (ls_W cy h u Z) (fun (u' : lw_Ad) => ls_W cy h u' Z') sz tF tT A) ∧ (∀ sz, dk_MuI l yX6_unsee wsX6_unsee ({ frames := 0, cells := 0, slots := 0, locals := 0 }) D cy [.ref hM] (ls_V cy hM aM M) (ls_V cy hM aM M') sz A) ∧ ls_R Z' M' := by
  obtain ⟨sd, ⟨oQ, oX, oN, oG⟩, ⟨oT, oU, oC, oE⟩, CB, SB⟩ := Z
  obtain ⟨sdM, oM⟩ := M
  obtain ⟨e, hr⟩ := hR
  dsimp only at e hr
  subst e
  obtain ⟨A, nE_I, mM_I, e1, e2, hr2⟩ := cl_unsee hr 
  exact ⟨A, (sd, (oQ, oX, oN, oG), (oT, oU, oC, (nE_I, oE.2)), CB, SB), (sd, mM_I, oM.2), fun u sz tF tT => qw_unsee l D cy h u sd oQ oX oN oG oT oU oC oE CB SB sz tF tT  A nE_I e1, fun sz => kX6_unsee l D cy hM aM sd sz oM  A mM_I e2, rfl, hr2⟩
theorem pr_which (l : Launch) (D : va_G) (cy : Nat → ClassId) (h hM : Nat) (aM : Nat → Nat) {Z : ls_Z} {M : Int64 × dk_O} (hR : ls_R Z M)  : ∃ (A : Int32) (Z' : ls_Z) (M' : Int64 × dk_O), (∀ u sz tF tT, lw_K l yX5_which wsX5_which ({ frames := 5, cells := 0, slots := 0, locals := 119 }) D cy [.ref h] (ls_W cy h u Z) (fun (u' : lw_Ad) => ls_W cy h u' Z') sz tF tT A) ∧ (∀ sz, dk_MuI l yX6_which wsX6_which ({ frames := 6, cells := 0, slots := 0, locals := 140 }) D cy [.ref hM] (ls_V cy hM aM M) (ls_V cy hM aM M') sz A) ∧ ls_R Z' M' := by
  obtain ⟨sd, ⟨oQ, oX, oN, oG⟩, ⟨oT, oU, oC, oE⟩, CB, SB⟩ := Z
  obtain ⟨sdM, oM⟩ := M
  obtain ⟨e, hr⟩ := hR
  dsimp only at e hr
  subst e
  obtain ⟨A, nU_I, nU_1, nU_2, mM_26, mM_17, e1, e2⟩ := cl_which (U := oU) hr 
  exact ⟨A, (sd, (oQ, oX, oN, oG), (oT, (nU_I, dk_upA (dk_upA oU.2 1 nU_1) 2 nU_2), oC, oE), CB, SB), (sd, upd oM.1 0 0, dk_upA (dk_upA oM.2 26 mM_26) 17 mM_17), fun u sz tF tT => qw_which l D cy h u sd oQ oX oN oG oT oU oC oE CB SB sz tF tT  A nU_I nU_1 nU_2 e1, fun sz => kX6_which l D cy hM aM sd sz oM  A (upd oM.1 0 0) mM_26 mM_17 e2, rfl, rl_ask hr⟩
theorem pr_share (l : Launch) (D : va_G) (cy : Nat → ClassId) (h hM : Nat) (aM : Nat → Nat) {Z : ls_Z} {M : Int64 × dk_O} (hR : ls_R Z M) (v1 : Int32) (v2 : Int32) (hv : v2 = 0 ∨ v2 = 1) : ∃ (A : Int32) (Z' : ls_Z) (M' : Int64 × dk_O), (∀ u sz tF tT, lw_K l yX5_share wsX5_share ({ frames := 6, cells := 0, slots := 0, locals := 145 }) D cy [.ref h, .int v1, .int v2] (ls_W cy h u Z) (fun (u' : lw_Ad) => ls_W cy h u' Z') sz tF tT A) ∧ (∀ sz, dk_MuI l yX6_share wsX6_share ({ frames := 6, cells := 0, slots := 0, locals := 139 }) D cy [.ref hM, .int v1, .int v2] (ls_V cy hM aM M) (ls_V cy hM aM M') sz A) ∧ ls_R Z' M' := by
  obtain ⟨sd, ⟨oQ, oX, oN, oG⟩, ⟨oT, oU, oC, oE⟩, CB, SB⟩ := Z
  obtain ⟨sdM, oM⟩ := M
  obtain ⟨e, hr⟩ := hR
  dsimp only at e hr
  subst e
  obtain ⟨A, nU_I, nU_1, nU_2, mM_26, mM_17, e1, e2⟩ := cl_share (U := oU) hr v1 v2 hv
  exact ⟨A, (sd, (oQ, oX, oN, oG), (oT, (nU_I, dk_upA (dk_upA oU.2 1 nU_1) 2 nU_2), oC, oE), CB, SB), (sd, upd oM.1 0 0, dk_upA (dk_upA oM.2 26 mM_26) 17 mM_17), fun u sz tF tT => qw_share l D cy h u sd oQ oX oN oG oT oU oC oE CB SB sz tF tT v1 v2 A nU_I nU_1 nU_2 e1, fun sz => kX6_share l D cy hM aM sd sz oM v1 v2 A (upd oM.1 0 0) mM_26 mM_17 e2, rfl, rl_ask hr⟩
theorem pr_luck (l : Launch) (D : va_G) (cy : Nat → ClassId) (h hM : Nat) (aM : Nat → Nat) {Z : ls_Z} {M : Int64 × dk_O} (hR : ls_R Z M) (v1 : Int32) (v2 : Int32) (v3 : Int32) (hv : v3 = 0 ∨ v3 = 1) : ∃ (A : Int32) (Z' : ls_Z) (M' : Int64 × dk_O), (∀ u sz tF tT, lw_K l yX5_luck wsX5_luck ({ frames := 5, cells := 0, slots := 0, locals := 119 }) D cy [.ref h, .int v1, .int v2, .int v3] (ls_W cy h u Z) (fun (u' : lw_Ad) => ls_W cy h u' Z') sz tF tT A) ∧ (∀ sz, dk_MuI l yX6_luck wsX6_luck ({ frames := 6, cells := 0, slots := 0, locals := 140 }) D cy [.ref hM, .int v1, .int v2, .int v3] (ls_V cy hM aM M) (ls_V cy hM aM M') sz A) ∧ ls_R Z' M' := by
  obtain ⟨sd, ⟨oQ, oX, oN, oG⟩, ⟨oT, oU, oC, oE⟩, CB, SB⟩ := Z
  obtain ⟨sdM, oM⟩ := M
  obtain ⟨e, hr⟩ := hR
  dsimp only at e hr
  subst e
  obtain ⟨A, nU_I, nU_1, nU_2, mM_26, mM_17, e1, e2⟩ := cl_luck (U := oU) hr v1 v2 v3 hv
  exact ⟨A, (sd, (oQ, oX, oN, oG), (oT, (nU_I, dk_upA (dk_upA oU.2 1 nU_1) 2 nU_2), oC, oE), CB, SB), (sd, upd oM.1 0 0, dk_upA (dk_upA oM.2 26 mM_26) 17 mM_17), fun u sz tF tT => qw_luck l D cy h u sd oQ oX oN oG oT oU oC oE CB SB sz tF tT v1 v2 v3 A nU_I nU_1 nU_2 e1, fun sz => kX6_luck l D cy hM aM sd sz oM v1 v2 v3 A (upd oM.1 0 0) mM_26 mM_17 e2, rfl, rl_ask hr⟩
theorem pr_seed (l : Launch) (D : va_G) (cy : Nat → ClassId) (h hM : Nat) (aM : Nat → Nat) {Z : ls_Z} {M : Int64 × dk_O} (hR : ls_R Z M) (v1 : Int64) : ∃ (A : Int64) (Z' : ls_Z) (M' : Int64 × dk_O), (∀ u sz tF tT, lw_KL l yX5_seed wsX5_seed ({ frames := 0, cells := 0, slots := 0, locals := 0 }) D cy [.ref h, .long v1] (ls_W cy h u Z) (fun (u' : lw_Ad) => ls_W cy h u' Z') sz tF tT A) ∧ (∀ sz, dk_MuL l yX6_seed wsX6_seed ({ frames := 0, cells := 0, slots := 0, locals := 0 }) D cy [.ref hM, .long v1] (ls_V cy hM aM M) (ls_V cy hM aM M') sz A) ∧ ls_R Z' M' := by
  obtain ⟨sd, ⟨oQ, oX, oN, oG⟩, ⟨oT, oU, oC, oE⟩, CB, SB⟩ := Z
  obtain ⟨sdM, oM⟩ := M
  obtain ⟨e, hr⟩ := hR
  dsimp only at e hr
  subst e
  have e1 := (cl_seed (Q := oQ) (M := oM) sd v1).1
  have e2 := (cl_seed (Q := oQ) (M := oM) sd v1).2
  exact ⟨sd, (v1, (oQ, oX, oN, oG), (oT, oU, oC, oE), CB, SB), (v1, upd oM.1 0 0, oM.2), fun u sz tF tT => qw_seed l D cy h u sd oQ oX oN oG oT oU oC oE CB SB sz tF tT v1 sd v1 e1, fun sz => kX6_seed l D cy hM aM sd sz oM v1 sd (upd oM.1 0 0) v1 e2, rfl, rl_ask1 hr⟩
theorem pr_drawn (l : Launch) (D : va_G) (cy : Nat → ClassId) (h hM : Nat) (aM : Nat → Nat) {Z : ls_Z} {M : Int64 × dk_O} (hR : ls_R Z M) (v1 : Int32) : ∃ (A : Int32) (Z' : ls_Z) (M' : Int64 × dk_O), (∀ u sz tF tT, lw_K l yX5_drawn wsX5_drawn ({ frames := 5, cells := 0, slots := 0, locals := 108 }) D cy [.ref h, .int v1] (ls_W cy h u Z) (fun (u' : lw_Ad) => ls_W cy h u' Z') sz tF tT A) ∧ (∀ sz, dk_MuI l yX6_drawn wsX6_drawn ({ frames := 3, cells := 0, slots := 0, locals := 69 }) D cy [.ref hM, .int v1] (ls_V cy hM aM M) (ls_V cy hM aM M') sz A) ∧ ls_R Z' M' := by
  obtain ⟨sd, ⟨oQ, oX, oN, oG⟩, ⟨oT, oU, oC, oE⟩, CB, SB⟩ := Z
  obtain ⟨sdM, oM⟩ := M
  obtain ⟨e, hr⟩ := hR
  dsimp only at e hr
  subst e
  obtain ⟨A, nQ_sd, nU_I, nU_1, nU_2, mM_17, e1, e2⟩ := cl_drawn (U := oU) hr sd v1
  exact ⟨A, (nQ_sd, (oQ, oX, oN, oG), (oT, (nU_I, dk_upA (dk_upA oU.2 1 nU_1) 2 nU_2), oC, oE), CB, SB), (nQ_sd, upd oM.1 0 0, dk_upA oM.2 17 mM_17), fun u sz tF tT => qw_drawn l D cy h u sd oQ oX oN oG oT oU oC oE CB SB sz tF tT v1 A nQ_sd nU_I nU_1 nU_2 e1, fun sz => kX6_drawn l D cy hM aM sd sz oM v1 A (upd oM.1 0 0) mM_17 nQ_sd e2, rfl, rl_ask17 hr⟩
theorem pr_keep (l : Launch) (D : va_G) (cy : Nat → ClassId) (h hM : Nat) (aM : Nat → Nat) {Z : ls_Z} {M : Int64 × dk_O} (hR : ls_R Z M) (v1 : Int32) : ∃ (A : Int32) (Z' : ls_Z) (M' : Int64 × dk_O), (∀ u sz tF tT, lw_K l yX5_keep wsX5_keep ({ frames := 1, cells := 0, slots := 0, locals := 22 }) D cy [.ref h, .int v1] (ls_W cy h u Z) (fun (u' : lw_Ad) => ls_W cy h u' Z') sz tF tT A) ∧ (∀ sz, dk_MuI l yX6_keep wsX6_keep ({ frames := 1, cells := 0, slots := 0, locals := 25 }) D cy [.ref hM, .int v1] (ls_V cy hM aM M) (ls_V cy hM aM M') sz A) ∧ ls_R Z' M' := by
  obtain ⟨sd, ⟨oQ, oX, oN, oG⟩, ⟨oT, oU, oC, oE⟩, CB, SB⟩ := Z
  obtain ⟨sdM, oM⟩ := M
  obtain ⟨e, hr⟩ := hR
  dsimp only at e hr
  subst e
  obtain ⟨A, nQ_7, nS_B, mM_I, mM_20, mM_21, e1, e2, hr2⟩ := cl_keep hr v1
  exact ⟨A, (sd, ((oQ.1, dk_upA oQ.2 7 nQ_7), oX, oN, oG), (oT, oU, oC, oE), CB, nS_B), (sd, mM_I, dk_upA (dk_upA oM.2 20 mM_20) 21 mM_21), fun u sz tF tT => qw_keep l D cy h u sd oQ oX oN oG oT oU oC oE CB SB sz tF tT v1 A nQ_7 nS_B e1, fun sz => kX6_keep l D cy hM aM sd sz oM v1 A mM_I mM_20 mM_21 e2, rfl, hr2⟩
theorem pr_again (l : Launch) (D : va_G) (cy : Nat → ClassId) (h hM : Nat) (aM : Nat → Nat) {Z : ls_Z} {M : Int64 × dk_O} (hR : ls_R Z M) (v1 : Int32) : ∃ (A : Int32) (Z' : ls_Z) (M' : Int64 × dk_O), (∀ u sz tF tT, lw_K l yX5_again wsX5_again ({ frames := 1, cells := 0, slots := 0, locals := 22 }) D cy [.ref h, .int v1] (ls_W cy h u Z) (fun (u' : lw_Ad) => ls_W cy h u' Z') sz tF tT A) ∧ (∀ sz, dk_MuI l yX6_again wsX6_again ({ frames := 1, cells := 0, slots := 0, locals := 25 }) D cy [.ref hM, .int v1] (ls_V cy hM aM M) (ls_V cy hM aM M') sz A) ∧ ls_R Z' M' := by
  obtain ⟨sd, ⟨oQ, oX, oN, oG⟩, ⟨oT, oU, oC, oE⟩, CB, SB⟩ := Z
  obtain ⟨sdM, oM⟩ := M
  obtain ⟨e, hr⟩ := hR
  dsimp only at e hr
  subst e
  obtain ⟨A, nT_I, nT_1, nT_2, nC_I, mM_I, mM_16, e1, e2, hr2⟩ := cl_again hr v1
  exact ⟨A, (sd, (oQ, oX, oN, oG), ((nT_I, dk_upA (dk_upA oT.2 1 nT_1) 2 nT_2), oU, (nC_I, oC.2), oE), CB, SB), (sd, mM_I, dk_upA oM.2 16 mM_16), fun u sz tF tT => qw_again l D cy h u sd oQ oX oN oG oT oU oC oE CB SB sz tF tT v1 A nT_I nT_1 nT_2 nC_I e1, fun sz => kX6_again l D cy hM aM sd sz oM v1 A mM_I mM_16 e2, rfl, hr2⟩
theorem pr_count (l : Launch) (D : va_G) (cy : Nat → ClassId) (h hM : Nat) (aM : Nat → Nat) {Z : ls_Z} {M : Int64 × dk_O} (hR : ls_R Z M) (v1 : Int32) : ∃ (A : Int32) (Z' : ls_Z) (M' : Int64 × dk_O), (∀ u sz tF tT, lw_K l yX5_count wsX5_count ({ frames := 0, cells := 0, slots := 0, locals := 0 }) D cy [.ref h, .int v1] (ls_W cy h u Z) (fun (u' : lw_Ad) => ls_W cy h u' Z') sz tF tT A) ∧ (∀ sz, dk_MuI l yX6_count wsX6_count ({ frames := 0, cells := 0, slots := 0, locals := 0 }) D cy [.ref hM, .int v1] (ls_V cy hM aM M) (ls_V cy hM aM M') sz A) ∧ ls_R Z' M' := by
  obtain ⟨sd, ⟨oQ, oX, oN, oG⟩, ⟨oT, oU, oC, oE⟩, CB, SB⟩ := Z
  obtain ⟨sdM, oM⟩ := M
  obtain ⟨e, hr⟩ := hR
  dsimp only at e hr
  subst e
  obtain ⟨A, e1, e2⟩ := cl_count hr v1
  exact ⟨A, (sd, (oQ, oX, oN, oG), (oT, oU, oC, oE), CB, SB), (sd, upd oM.1 0 0, oM.2), fun u sz tF tT => qw_count l D cy h u sd oQ oX oN oG oT oU oC oE CB SB sz tF tT v1 A  e1, fun sz => kX6_count l D cy hM aM sd sz oM v1 A (upd oM.1 0 0) e2, rfl, rl_ask1 hr⟩
