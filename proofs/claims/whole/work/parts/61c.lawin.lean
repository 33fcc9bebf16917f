-- printed by wip/gen/lawin.py
set_option maxRecDepth 20000 in
theorem wsL_law_r13_in : ∀ w ∈ wsL_law_r13, w ∈ lw_tbl := fun w h => (goodIn_p (big := lw_tbl) wsL_law_r13 [780, 784, 355, 359, 363, 368] rfl (by decide +kernel) w h).1
set_option maxRecDepth 20000 in
theorem wsL_law_r14_in : ∀ w ∈ wsL_law_r14, w ∈ lw_tbl := fun w h => (goodIn_p (big := lw_tbl) wsL_law_r14 [372, 376, 380, 384, 390, 394] rfl (by decide +kernel) w h).1
set_option maxRecDepth 20000 in
theorem wsL_law_r15_in : ∀ w ∈ wsL_law_r15, w ∈ lw_tbl := fun w h => (goodIn_p (big := lw_tbl) wsL_law_r15 [398, 402, 406, 410, 414, 788] rfl (by decide +kernel) w h).1
set_option maxRecDepth 20000 in
theorem wsL_law_r16_in : ∀ w ∈ wsL_law_r16, w ∈ lw_tbl := fun w h => (goodIn_p (big := lw_tbl) wsL_law_r16 [792, 795, 799, 803, 807, 811] rfl (by decide +kernel) w h).1
set_option maxRecDepth 20000 in
theorem wsL_law_r17_in : ∀ w ∈ wsL_law_r17, w ∈ lw_tbl := fun w h => (goodIn_p (big := lw_tbl) wsL_law_r17 [815, 818, 822, 826, 830, 834] rfl (by decide +kernel) w h).1
set_option maxRecDepth 20000 in
theorem wsL_law_r18_in : ∀ w ∈ wsL_law_r18, w ∈ lw_tbl := fun w h => (goodIn_p (big := lw_tbl) wsL_law_r18 [838, 842, 418, 422, 428, 432] rfl (by decide +kernel) w h).1
