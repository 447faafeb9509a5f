/-! ===== the words of the tables ===== -/
set_option maxRecDepth 20000 in
theorem wi_15 : ∀ w ∈ wsL_law_r15, w ∈ lw_tbl := fun w h => (goodIn_p wsL_law_r15 [362, 366, 668, 671, 370, 675] rfl (by decide +kernel) w h).1
set_option maxRecDepth 20000 in
theorem wi_16 : ∀ w ∈ wsL_law_r16, w ∈ lw_tbl := fun w h => (goodIn_p wsL_law_r16 [374, 377, 679, 683, 382] rfl (by decide +kernel) w h).1
set_option maxRecDepth 20000 in
theorem wi_17 : ∀ w ∈ wsL_law_r17, w ∈ lw_tbl := fun w h => (goodIn_p wsL_law_r17 [385, 687, 389, 691, 394, 581] rfl (by decide +kernel) w h).1
set_option maxRecDepth 20000 in
theorem wi_18 : ∀ w ∈ wsL_law_r18, w ∈ lw_tbl := fun w h => (goodIn_p wsL_law_r18 [398, 402, 406, 410, 695] rfl (by decide +kernel) w h).1
set_option maxRecDepth 20000 in
theorem wi_19 : ∀ w ∈ wsL_law_r19, w ∈ lw_tbl := fun w h => (goodIn_p wsL_law_r19 [699, 703, 707, 414, 418] rfl (by decide +kernel) w h).1
set_option maxRecDepth 20000 in
theorem wi_20 : ∀ w ∈ wsL_law_r20, w ∈ lw_tbl := fun w h => (goodIn_p wsL_law_r20 [711, 423, 715, 427, 431] rfl (by decide +kernel) w h).1
set_option maxRecDepth 20000 in
theorem wi_21 : ∀ w ∈ wsL_law_r21, w ∈ lw_tbl := fun w h => (goodIn_p wsL_law_r21 [719, 723, 435, 727, 439, 731] rfl (by decide +kernel) w h).1
