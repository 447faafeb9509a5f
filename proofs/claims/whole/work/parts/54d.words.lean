/-! ===== the words of the tables ===== -/
set_option maxRecDepth 20000 in
theorem wi_22 : ∀ w ∈ wsL_law_r22, w ∈ lw_tbl := fun w h => (goodIn_p wsL_law_r22 [735, 739, 444, 447, 450, 743] rfl (by decide +kernel) w h).1
set_option maxRecDepth 20000 in
theorem wi_23 : ∀ w ∈ wsL_law_r23, w ∈ lw_tbl := fun w h => (goodIn_p wsL_law_r23 [747, 751, 454, 457, 460, 464] rfl (by decide +kernel) w h).1
set_option maxRecDepth 20000 in
theorem wi_24 : ∀ w ∈ wsL_law_r24, w ∈ lw_tbl := fun w h => (goodIn_p wsL_law_r24 [755, 759, 763, 767, 771, 775] rfl (by decide +kernel) w h).1
set_option maxRecDepth 20000 in
theorem wi_25 : ∀ w ∈ wsL_law_r25, w ∈ lw_tbl := fun w h => (goodIn_p wsL_law_r25 [468, 472, 779, 476, 783, 480] rfl (by decide +kernel) w h).1
set_option maxRecDepth 20000 in
theorem wi_26 : ∀ w ∈ wsL_law_r26, w ∈ lw_tbl := fun w h => (goodIn_p wsL_law_r26 [484, 489, 787, 791, 795] rfl (by decide +kernel) w h).1
set_option maxRecDepth 20000 in
theorem wi_27 : ∀ w ∈ wsL_law_r27, w ∈ lw_tbl := fun w h => (goodIn_p wsL_law_r27 [799, 494, 803, 498, 807] rfl (by decide +kernel) w h).1
set_option maxRecDepth 20000 in
theorem wi_28 : ∀ w ∈ wsL_law_r28, w ∈ lw_tbl := fun w h => (goodIn_p wsL_law_r28 [810, 502, 814] rfl (by decide +kernel) w h).1
theorem wi_X40 : ∀ w ∈ wsX40, w ∈ lw_tbl := by decide +kernel
theorem wi_X50 : ∀ w ∈ wsX50, w ∈ lw_tbl := by decide +kernel
theorem wi_X20 : ∀ w ∈ wsX20, w ∈ lw_tbl := by decide +kernel
theorem wi_X30 : ∀ w ∈ wsX30, w ∈ lw_tbl := by decide +kernel
theorem wi_X10 : ∀ w ∈ wsX10, w ∈ lw_tbl := by decide +kernel
theorem wi_X00 : ∀ w ∈ wsX00, w ∈ lw_tbl := by decide +kernel
theorem mem_app {α : Type} {p : α → Prop} {a b : List α} (h1 : ∀ w ∈ a, p w) (h2 : ∀ w ∈ b, p w) : ∀ w ∈ a ++ b, p w := fun w h => (List.mem_append.mp h).elim (h1 w) (h2 w)
theorem wsL_law_in : ∀ w ∈ wsL_law, w ∈ lw_tbl := mem_app (mem_app (mem_app (mem_app (mem_app (mem_app (mem_app (mem_app wi_1 (mem_app wi_2 (mem_app wi_3 (mem_app wi_4 (mem_app wi_5 (mem_app wi_6 (mem_app wi_7 (mem_app wi_8 (mem_app wi_9 (mem_app wi_10 (mem_app wi_11 (mem_app wi_12 (mem_app wi_13 (mem_app wi_14 (mem_app wi_15 (mem_app wi_16 (mem_app wi_17 (mem_app wi_18 (mem_app wi_19 (mem_app wi_20 (mem_app wi_21 (mem_app wi_22 (mem_app wi_23 (mem_app wi_24 (mem_app wi_25 (mem_app wi_26 (mem_app wi_27 wi_28))))))))))))))))))))))))))) wi_X40) wi_X50) wi_X20) wi_X30) wi_X10) wi_X00) (fun w h => absurd h List.not_mem_nil)
