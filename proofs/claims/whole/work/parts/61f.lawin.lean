-- printed by wip/gen/lawin.py
set_option maxRecDepth 20000 in
theorem wsL_law_r31_in : ∀ w ∈ wsL_law_r31, w ∈ lw_tbl := fun w h => (goodIn_p (big := lw_tbl) wsL_law_r31 [957, 960, 614, 618, 964, 622] rfl (by decide +kernel) w h).1
set_option maxRecDepth 20000 in
theorem wsL_law_r32_in : ∀ w ∈ wsL_law_r32, w ∈ lw_tbl := fun w h => (goodIn_p (big := lw_tbl) wsL_law_r32 [968, 626, 972, 633] rfl (by decide +kernel) w h).1
set_option maxRecDepth 20000 in
theorem wsL_law_r33_in : ∀ w ∈ wsL_law_r33, w ∈ lw_tbl := fun w h => (goodIn_p (big := lw_tbl) wsL_law_r33 [979, 637, 983, 641, 987] rfl (by decide +kernel) w h).1
