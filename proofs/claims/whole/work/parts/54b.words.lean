/-! ===== the words of the tables ===== -/
set_option maxRecDepth 20000 in
theorem wi_8 : ∀ w ∈ wsL_law_r8, w ∈ lw_tbl := fun w h => (goodIn_p wsL_law_r8 [273, 276, 282, 285, 292, 296, 300] rfl (by decide +kernel) w h).1
set_option maxRecDepth 20000 in
theorem wi_9 : ∀ w ∈ wsL_law_r9, w ∈ lw_tbl := fun w h => (goodIn_p wsL_law_r9 [586, 589, 594, 598, 602, 606] rfl (by decide +kernel) w h).1
set_option maxRecDepth 20000 in
theorem wi_10 : ∀ w ∈ wsL_law_r10, w ∈ lw_tbl := fun w h => (goodIn_p wsL_law_r10 [610, 614, 618, 621, 624, 628, 631] rfl (by decide +kernel) w h).1
set_option maxRecDepth 20000 in
theorem wi_11 : ∀ w ∈ wsL_law_r11, w ∈ lw_tbl := fun w h => (goodIn_p wsL_law_r11 [635, 304, 307, 312, 316, 320] rfl (by decide +kernel) w h).1
set_option maxRecDepth 20000 in
theorem wi_12 : ∀ w ∈ wsL_law_r12, w ∈ lw_tbl := fun w h => (goodIn_p wsL_law_r12 [324, 328, 639, 644, 648] rfl (by decide +kernel) w h).1
set_option maxRecDepth 20000 in
theorem wi_13 : ∀ w ∈ wsL_law_r13, w ∈ lw_tbl := fun w h => (goodIn_p wsL_law_r13 [332, 336, 341, 652, 656] rfl (by decide +kernel) w h).1
set_option maxRecDepth 20000 in
theorem wi_14 : ∀ w ∈ wsL_law_r14, w ∈ lw_tbl := fun w h => (goodIn_p wsL_law_r14 [345, 349, 353, 660, 664, 358] rfl (by decide +kernel) w h).1
