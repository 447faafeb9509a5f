/-! ===== the law, call by call ===== -/
theorem ll_13 : LnkV RL 13 yX4_begin cX4_begin 3 (some .int) 1 := lnkV_of (by decide +kernel) (by decide +kernel)
theorem ll_17 : LnkV RL 17 yX5_begin cX5_begin 4 (some .int) 1 := lnkV_of (by decide +kernel) (by decide +kernel)
theorem ll_18 : LnkV RL 18 yX4_insert cX4_insert 5 (some .int) 2 := lnkV_of (by decide +kernel) (by decide +kernel)
theorem ll_22 : LnkV RL 22 yX5_insert cX5_insert 5 (some .int) 2 := lnkV_of (by decide +kernel) (by decide +kernel)
theorem ll_23 : LnkV RL 23 yX4_remove cX4_remove 5 (some .int) 1 := lnkV_of (by decide +kernel) (by decide +kernel)
theorem ll_26 : LnkV RL 26 yX5_remove cX5_remove 5 (some .int) 1 := lnkV_of (by decide +kernel) (by decide +kernel)
theorem ll_27 : LnkV RL 27 yX4_shed cX4_shed 5 (some .int) 0 := lnkV_of (by decide +kernel) (by decide +kernel)
theorem ll_31 : LnkV RL 31 yX5_shed cX5_shed 5 (some .int) 0 := lnkV_of (by decide +kernel) (by decide +kernel)
theorem ll_32 : LnkV RL 32 yX4_reverse cX4_reverse 5 (some .int) 0 := lnkV_of (by decide +kernel) (by decide +kernel)
theorem ll_35 : LnkV RL 35 yX5_reverse cX5_reverse 7 (some .int) 0 := lnkV_of (by decide +kernel) (by decide +kernel)
theorem ll_36 : LnkV RL 36 yX4_hold cX4_hold 5 (some .int) 2 := lnkV_of (by decide +kernel) (by decide +kernel)
theorem ll_39 : LnkV RL 39 yX5_hold cX5_hold 5 (some .int) 2 := lnkV_of (by decide +kernel) (by decide +kernel)
theorem ll_40 : LnkV RL 40 yX4_push cX4_push 4 (some .int) 2 := lnkV_of (by decide +kernel) (by decide +kernel)
theorem ll_43 : LnkV RL 43 yX5_push cX5_push 4 (some .int) 2 := lnkV_of (by decide +kernel) (by decide +kernel)
theorem ll_44 : LnkV RL 44 yX4_set cX4_set 5 (some .int) 2 := lnkV_of (by decide +kernel) (by decide +kernel)
theorem ll_47 : LnkV RL 47 yX5_set cX5_set 4 (some .int) 2 := lnkV_of (by decide +kernel) (by decide +kernel)
theorem ll_48 : LnkV RL 48 yX4_goal cX4_goal 5 (some .int) 2 := lnkV_of (by decide +kernel) (by decide +kernel)
theorem ll_51 : LnkV RL 51 yX5_goal cX5_goal 5 (some .int) 2 := lnkV_of (by decide +kernel) (by decide +kernel)
theorem ll_52 : LnkV RL 52 yX4_undo cX4_undo 1 (some .int) 0 := lnkV_of (by decide +kernel) (by decide +kernel)
theorem ll_55 : LnkV RL 55 yX5_undo cX5_undo 2 (some .int) 0 := lnkV_of (by decide +kernel) (by decide +kernel)
theorem ll_56 : LnkV RL 56 yX4_told cX4_told 4 (some .int) 1 := lnkV_of (by decide +kernel) (by decide +kernel)
theorem ll_59 : LnkV RL 59 yX5_told cX5_told 2 (some .int) 1 := lnkV_of (by decide +kernel) (by decide +kernel)
theorem ll_60 : LnkV RL 60 yX4_magnet cX4_magnet 4 (some .int) 2 := lnkV_of (by decide +kernel) (by decide +kernel)
theorem ll_63 : LnkV RL 63 yX5_magnet cX5_magnet 3 (some .int) 2 := lnkV_of (by decide +kernel) (by decide +kernel)
theorem ll_64 : LnkV RL 64 yX4_log cX4_log 5 (some .int) 2 := lnkV_of (by decide +kernel) (by decide +kernel)
theorem ll_67 : LnkV RL 67 yX5_log cX5_log 3 (some .int) 2 := lnkV_of (by decide +kernel) (by decide +kernel)
theorem ll_68 : LnkV RL 68 yX4_points cX4_points 2 (some .int) 1 := lnkV_of (by decide +kernel) (by decide +kernel)
theorem ll_71 : LnkV RL 71 yX5_points cX5_points 2 (some .int) 1 := lnkV_of (by decide +kernel) (by decide +kernel)
theorem ll_77 : LnkV RL 77 yX4_moved cX4_moved 4 (some .int) 2 := lnkV_of (by decide +kernel) (by decide +kernel)
theorem ll_80 : LnkV RL 80 yX5_moved cX5_moved 4 (some .int) 2 := lnkV_of (by decide +kernel) (by decide +kernel)
theorem ll_81 : LnkV RL 81 yX4_loop cX4_loop 15 (some .int) 3 := lnkV_of (by decide +kernel) (by decide +kernel)
theorem ll_85 : LnkV RL 85 yX5_loop cX5_loop 5 (some .int) 3 := lnkV_of (by decide +kernel) (by decide +kernel)
theorem ll_86 : LnkV RL 86 yX4_solve cX4_solve 5 (some .int) 2 := lnkV_of (by decide +kernel) (by decide +kernel)
theorem ll_89 : LnkV RL 89 yX5_solve cX5_solve 5 (some .int) 2 := lnkV_of (by decide +kernel) (by decide +kernel)
theorem ll_90 : LnkV RL 90 yX4_write cX4_write 2 (some .int) 1 := lnkV_of (by decide +kernel) (by decide +kernel)
theorem ll_93 : LnkV RL 93 yX5_write cX5_write 2 (some .int) 1 := lnkV_of (by decide +kernel) (by decide +kernel)
theorem ll_94 : LnkV RL 94 yX4_wipe cX4_wipe 2 (some .int) 0 := lnkV_of (by decide +kernel) (by decide +kernel)
theorem ll_97 : LnkV RL 97 yX5_wipe cX5_wipe 2 (some .int) 0 := lnkV_of (by decide +kernel) (by decide +kernel)
theorem ll_98 : LnkV RL 98 yX4_load cX4_load 3 (some .int) 0 := lnkV_of (by decide +kernel) (by decide +kernel)
theorem ll_101 : LnkV RL 101 yX5_load cX5_load 3 (some .int) 0 := lnkV_of (by decide +kernel) (by decide +kernel)
theorem ll_102 : LnkV RL 102 yX4_fault cX4_fault 2 (some .int) 1 := lnkV_of (by decide +kernel) (by decide +kernel)
theorem ll_105 : LnkV RL 105 yX5_fault cX5_fault 2 (some .int) 1 := lnkV_of (by decide +kernel) (by decide +kernel)
theorem ll_106 : LnkV RL 106 yX4_keep cX4_keep 2 (some .int) 1 := lnkV_of (by decide +kernel) (by decide +kernel)
theorem ll_109 : LnkV RL 109 yX5_keep cX5_keep 3 (some .int) 1 := lnkV_of (by decide +kernel) (by decide +kernel)
theorem ll_110 : LnkV RL 110 yX4_back cX4_back 2 (some .int) 1 := lnkV_of (by decide +kernel) (by decide +kernel)
theorem ll_113 : LnkV RL 113 yX5_back cX5_back 3 (some .int) 1 := lnkV_of (by decide +kernel) (by decide +kernel)
theorem ll_72 : LnkV RL 72 yX4_mean cX4_mean 2 (some .float) 0 := lnkV_of (by decide +kernel) (by decide +kernel)
theorem ll_76 : LnkV RL 76 yX5_mean cX5_mean 1 (some .float) 0 := lnkV_of (by decide +kernel) (by decide +kernel)
set_option maxRecDepth 100000 in
set_option maxHeartbeats 4000000 in
theorem law_0 {Γ : GT} {K : KT} {b N i : Nat} {xs : Nat → Int32} {M : Mem} (hg : GL Γ K b N xs) (hi : i + 4 ≤ N) (hR : RI M (M.1 5 0)) (hback : ∀ M2, RI M2 (M2.1 5 0) → WL Γ K M2 [(0, .ref b), (1, .ref (ad Γ 4 0 0)), (2, .ref (ad Γ 5 0 0)), (3, .int (nI i))] 776 []) : WL Γ K M [(0, .ref b), (1, .ref (ad Γ 4 0 0)), (2, .ref (ad Γ 5 0 0)), (3, .int (nI i))] 144 [] := by
  refine wl_aload_n (q := 145) (i := 1) hg dL_law_144 rfl rfl rfl ?_
  refine wl_arg (q := 150) (i := i) (k := 1) hg dL_law_145 dL_law_146 dL_law_147 dL_law_148 dL_law_149 rfl (by decide) rfl rfl (by omega) ?_
  refine wl_callV (q := 153) hg dL_law_150 rfl ll_13 (by decide) (c_X4_begin hR.1) (by decide) ⟨rfl, by decide⟩ rfl rfl (Nat.le_of_ble_eq_true rfl) ?_
  refine wl_mem (M' := sR (fBegin M (xs (i + 1))).2 (M.1 5 0)) (sR_k5 (k5_begin M (xs (i + 1)))) ?_
  refine wl_aload_n (q := 154) (i := 2) hg dL_law_153 rfl rfl rfl ?_
  refine wl_arg (q := 159) (i := i) (k := 1) hg dL_law_154 dL_law_155 dL_law_156 dL_law_157 dL_law_158 rfl (by decide) rfl rfl (by omega) ?_
  refine wl_callR (q := 162) hg dL_law_159 rfl ll_17 (by decide) (c_X5_begin hR) (by decide) ⟨rfl, by decide⟩ rfl rfl (Nat.le_of_ble_eq_true rfl) (fun R2 hR2 => ?_)
  exact wl_icmp_eq (q := 776) hg dL_law_162 (by decide) rfl (hback _ (RI_end hR2))
set_option maxRecDepth 100000 in
set_option maxHeartbeats 4000000 in
theorem law_1 {Γ : GT} {K : KT} {b N i : Nat} {xs : Nat → Int32} {M : Mem} (hg : GL Γ K b N xs) (hi : i + 4 ≤ N) (hR : RI M (M.1 5 0)) (hback : ∀ M2, RI M2 (M2.1 5 0) → WL Γ K M2 [(0, .ref b), (1, .ref (ad Γ 4 0 0)), (2, .ref (ad Γ 5 0 0)), (3, .int (nI i))] 776 []) : WL Γ K M [(0, .ref b), (1, .ref (ad Γ 4 0 0)), (2, .ref (ad Γ 5 0 0)), (3, .int (nI i))] 167 [] := by
  refine wl_aload_n (q := 168) (i := 1) hg dL_law_167 rfl rfl rfl ?_
  refine wl_arg (q := 173) (i := i) (k := 1) hg dL_law_168 dL_law_169 dL_law_170 dL_law_171 dL_law_172 rfl (by decide) rfl rfl (by omega) ?_
  refine wl_arg (q := 178) (i := i) (k := 2) hg dL_law_173 dL_law_174 dL_law_175 dL_law_176 dL_law_177 rfl (by decide) rfl rfl (by omega) ?_
  refine wl_callV (q := 181) hg dL_law_178 rfl ll_18 (by decide) (c_X4_insert hR.1) (by decide) ⟨rfl, by decide⟩ rfl rfl (Nat.le_of_ble_eq_true rfl) ?_
  refine wl_mem (M' := sR (fIns M (xs (i + 1)) (xs (i + 2))).2 (M.1 5 0)) (sR_k5 (k5_ins M (xs (i + 1)) (xs (i + 2)))) ?_
  refine wl_aload_n (q := 182) (i := 2) hg dL_law_181 rfl rfl rfl ?_
  refine wl_arg (q := 187) (i := i) (k := 1) hg dL_law_182 dL_law_183 dL_law_184 dL_law_185 dL_law_186 rfl (by decide) rfl rfl (by omega) ?_
  refine wl_arg (q := 192) (i := i) (k := 2) hg dL_law_187 dL_law_188 dL_law_189 dL_law_190 dL_law_191 rfl (by decide) rfl rfl (by omega) ?_
  refine wl_callR (q := 195) hg dL_law_192 rfl ll_22 (by decide) (c_X5_insert hR) (by decide) ⟨rfl, by decide⟩ rfl rfl (Nat.le_of_ble_eq_true rfl) (fun R2 hR2 => ?_)
  exact wl_icmp_eq (q := 776) hg dL_law_195 (by decide) rfl (hback _ (RI_end hR2))
set_option maxRecDepth 100000 in
set_option maxHeartbeats 4000000 in
theorem law_2 {Γ : GT} {K : KT} {b N i : Nat} {xs : Nat → Int32} {M : Mem} (hg : GL Γ K b N xs) (hi : i + 4 ≤ N) (hR : RI M (M.1 5 0)) (hback : ∀ M2, RI M2 (M2.1 5 0) → WL Γ K M2 [(0, .ref b), (1, .ref (ad Γ 4 0 0)), (2, .ref (ad Γ 5 0 0)), (3, .int (nI i))] 776 []) : WL Γ K M [(0, .ref b), (1, .ref (ad Γ 4 0 0)), (2, .ref (ad Γ 5 0 0)), (3, .int (nI i))] 200 [] := by
  refine wl_aload_n (q := 201) (i := 1) hg dL_law_200 rfl rfl rfl ?_
  refine wl_arg (q := 206) (i := i) (k := 1) hg dL_law_201 dL_law_202 dL_law_203 dL_law_204 dL_law_205 rfl (by decide) rfl rfl (by omega) ?_
  refine wl_callV (q := 209) hg dL_law_206 rfl ll_23 (by decide) (c_X4_remove hR.1) (by decide) ⟨rfl, by decide⟩ rfl rfl (Nat.le_of_ble_eq_true rfl) ?_
  refine wl_mem (M' := sR (fRem M (xs (i + 1))).2 (M.1 5 0)) (sR_k5 (k5_rem M (xs (i + 1)))) ?_
  refine wl_aload_n (q := 210) (i := 2) hg dL_law_209 rfl rfl rfl ?_
  refine wl_arg (q := 215) (i := i) (k := 1) hg dL_law_210 dL_law_211 dL_law_212 dL_law_213 dL_law_214 rfl (by decide) rfl rfl (by omega) ?_
  refine wl_callR (q := 218) hg dL_law_215 rfl ll_26 (by decide) (c_X5_remove hR) (by decide) ⟨rfl, by decide⟩ rfl rfl (Nat.le_of_ble_eq_true rfl) (fun R2 hR2 => ?_)
  exact wl_icmp_eq (q := 776) hg dL_law_218 (by decide) rfl (hback _ (RI_end hR2))
set_option maxRecDepth 100000 in
set_option maxHeartbeats 4000000 in
theorem law_3 {Γ : GT} {K : KT} {b N i : Nat} {xs : Nat → Int32} {M : Mem} (hg : GL Γ K b N xs) (hi : i + 4 ≤ N) (hR : RI M (M.1 5 0)) (hback : ∀ M2, RI M2 (M2.1 5 0) → WL Γ K M2 [(0, .ref b), (1, .ref (ad Γ 4 0 0)), (2, .ref (ad Γ 5 0 0)), (3, .int (nI i))] 776 []) : WL Γ K M [(0, .ref b), (1, .ref (ad Γ 4 0 0)), (2, .ref (ad Γ 5 0 0)), (3, .int (nI i))] 223 [] := by
  refine wl_aload_n (q := 224) (i := 1) hg dL_law_223 rfl rfl rfl ?_
  refine wl_callV (q := 227) hg dL_law_224 rfl ll_27 (by decide) (c_X4_shed hR.1) (by decide) ⟨rfl, by decide⟩ rfl rfl (Nat.le_of_ble_eq_true rfl) ?_
  refine wl_mem (M' := sR (fShed M).2 (M.1 5 0)) (sR_k5 (k5_shed M)) ?_
  refine wl_aload_n (q := 228) (i := 2) hg dL_law_227 rfl rfl rfl ?_
  refine wl_callR (q := 231) hg dL_law_228 rfl ll_31 (by decide) (c_X5_shed hR) (by decide) ⟨rfl, by decide⟩ rfl rfl (Nat.le_of_ble_eq_true rfl) (fun R2 hR2 => ?_)
  exact wl_icmp_eq (q := 776) hg dL_law_231 (by decide) rfl (hback _ (RI_end hR2))
set_option maxRecDepth 100000 in
set_option maxHeartbeats 4000000 in
theorem law_4 {Γ : GT} {K : KT} {b N i : Nat} {xs : Nat → Int32} {M : Mem} (hg : GL Γ K b N xs) (hi : i + 4 ≤ N) (hR : RI M (M.1 5 0)) (hback : ∀ M2, RI M2 (M2.1 5 0) → WL Γ K M2 [(0, .ref b), (1, .ref (ad Γ 4 0 0)), (2, .ref (ad Γ 5 0 0)), (3, .int (nI i))] 776 []) : WL Γ K M [(0, .ref b), (1, .ref (ad Γ 4 0 0)), (2, .ref (ad Γ 5 0 0)), (3, .int (nI i))] 236 [] := by
  refine wl_aload_n (q := 237) (i := 1) hg dL_law_236 rfl rfl rfl ?_
  refine wl_callV (q := 240) hg dL_law_237 rfl ll_32 (by decide) (c_X4_reverse hR.1) (by decide) ⟨rfl, by decide⟩ rfl rfl (Nat.le_of_ble_eq_true rfl) ?_
  refine wl_mem (M' := sR (fRev M).2 (M.1 5 0)) (sR_k5 (k5_rev M)) ?_
  refine wl_aload_n (q := 241) (i := 2) hg dL_law_240 rfl rfl rfl ?_
  refine wl_callR (q := 244) hg dL_law_241 rfl ll_35 (by decide) (c_X5_reverse hR) (by decide) ⟨rfl, by decide⟩ rfl rfl (Nat.le_of_ble_eq_true rfl) (fun R2 hR2 => ?_)
  exact wl_icmp_eq (q := 776) hg dL_law_244 (by decide) rfl (hback _ (RI_end hR2))
set_option maxRecDepth 100000 in
set_option maxHeartbeats 4000000 in
theorem law_5 {Γ : GT} {K : KT} {b N i : Nat} {xs : Nat → Int32} {M : Mem} (hg : GL Γ K b N xs) (hi : i + 4 ≤ N) (hR : RI M (M.1 5 0)) (hback : ∀ M2, RI M2 (M2.1 5 0) → WL Γ K M2 [(0, .ref b), (1, .ref (ad Γ 4 0 0)), (2, .ref (ad Γ 5 0 0)), (3, .int (nI i))] 776 []) : WL Γ K M [(0, .ref b), (1, .ref (ad Γ 4 0 0)), (2, .ref (ad Γ 5 0 0)), (3, .int (nI i))] 249 [] := by
  refine wl_aload_n (q := 250) (i := 1) hg dL_law_249 rfl rfl rfl ?_
  refine wl_arg (q := 255) (i := i) (k := 1) hg dL_law_250 dL_law_251 dL_law_252 dL_law_253 dL_law_254 rfl (by decide) rfl rfl (by omega) ?_
  refine wl_arg (q := 260) (i := i) (k := 2) hg dL_law_255 dL_law_256 dL_law_257 dL_law_258 dL_law_259 rfl (by decide) rfl rfl (by omega) ?_
  refine wl_callV (q := 263) hg dL_law_260 rfl ll_36 (by decide) (c_X4_hold hR.1) (by decide) ⟨rfl, by decide⟩ rfl rfl (Nat.le_of_ble_eq_true rfl) ?_
  refine wl_mem (M' := sR (fHold M (xs (i + 1)) (xs (i + 2))).2 (M.1 5 0)) (sR_k5 (k5_hold M (xs (i + 1)) (xs (i + 2)))) ?_
  refine wl_aload_n (q := 264) (i := 2) hg dL_law_263 rfl rfl rfl ?_
  refine wl_arg (q := 269) (i := i) (k := 1) hg dL_law_264 dL_law_265 dL_law_266 dL_law_267 dL_law_268 rfl (by decide) rfl rfl (by omega) ?_
  refine wl_arg (q := 274) (i := i) (k := 2) hg dL_law_269 dL_law_270 dL_law_271 dL_law_272 dL_law_273 rfl (by decide) rfl rfl (by omega) ?_
  refine wl_callR (q := 277) hg dL_law_274 rfl ll_39 (by decide) (c_X5_hold hR) (by decide) ⟨rfl, by decide⟩ rfl rfl (Nat.le_of_ble_eq_true rfl) (fun R2 hR2 => ?_)
  exact wl_icmp_eq (q := 776) hg dL_law_277 (by decide) rfl (hback _ (RI_end hR2))
set_option maxRecDepth 100000 in
set_option maxHeartbeats 4000000 in
theorem law_6 {Γ : GT} {K : KT} {b N i : Nat} {xs : Nat → Int32} {M : Mem} (hg : GL Γ K b N xs) (hi : i + 4 ≤ N) (hR : RI M (M.1 5 0)) (hback : ∀ M2, RI M2 (M2.1 5 0) → WL Γ K M2 [(0, .ref b), (1, .ref (ad Γ 4 0 0)), (2, .ref (ad Γ 5 0 0)), (3, .int (nI i))] 776 []) : WL Γ K M [(0, .ref b), (1, .ref (ad Γ 4 0 0)), (2, .ref (ad Γ 5 0 0)), (3, .int (nI i))] 282 [] := by
  refine wl_aload_n (q := 283) (i := 1) hg dL_law_282 rfl rfl rfl ?_
  refine wl_arg (q := 288) (i := i) (k := 1) hg dL_law_283 dL_law_284 dL_law_285 dL_law_286 dL_law_287 rfl (by decide) rfl rfl (by omega) ?_
  refine wl_arg (q := 293) (i := i) (k := 2) hg dL_law_288 dL_law_289 dL_law_290 dL_law_291 dL_law_292 rfl (by decide) rfl rfl (by omega) ?_
  refine wl_callV (q := 296) hg dL_law_293 rfl ll_40 (by decide) (c_X4_push hR.1) (by decide) ⟨rfl, by decide⟩ rfl rfl (Nat.le_of_ble_eq_true rfl) ?_
  refine wl_mem (M' := sR (fPush M (xs (i + 1)) (xs (i + 2))).2 (M.1 5 0)) (sR_k5 (k5_push M (xs (i + 1)) (xs (i + 2)))) ?_
  refine wl_aload_n (q := 297) (i := 2) hg dL_law_296 rfl rfl rfl ?_
  refine wl_arg (q := 302) (i := i) (k := 1) hg dL_law_297 dL_law_298 dL_law_299 dL_law_300 dL_law_301 rfl (by decide) rfl rfl (by omega) ?_
  refine wl_arg (q := 307) (i := i) (k := 2) hg dL_law_302 dL_law_303 dL_law_304 dL_law_305 dL_law_306 rfl (by decide) rfl rfl (by omega) ?_
  refine wl_callR (q := 310) hg dL_law_307 rfl ll_43 (by decide) (c_X5_push hR) (by decide) ⟨rfl, by decide⟩ rfl rfl (Nat.le_of_ble_eq_true rfl) (fun R2 hR2 => ?_)
  exact wl_icmp_eq (q := 776) hg dL_law_310 (by decide) rfl (hback _ (RI_end hR2))
set_option maxRecDepth 100000 in
set_option maxHeartbeats 4000000 in
theorem law_7 {Γ : GT} {K : KT} {b N i : Nat} {xs : Nat → Int32} {M : Mem} (hg : GL Γ K b N xs) (hi : i + 4 ≤ N) (hR : RI M (M.1 5 0)) (hback : ∀ M2, RI M2 (M2.1 5 0) → WL Γ K M2 [(0, .ref b), (1, .ref (ad Γ 4 0 0)), (2, .ref (ad Γ 5 0 0)), (3, .int (nI i))] 776 []) : WL Γ K M [(0, .ref b), (1, .ref (ad Γ 4 0 0)), (2, .ref (ad Γ 5 0 0)), (3, .int (nI i))] 315 [] := by
  refine wl_aload_n (q := 316) (i := 1) hg dL_law_315 rfl rfl rfl ?_
  refine wl_arg (q := 321) (i := i) (k := 1) hg dL_law_316 dL_law_317 dL_law_318 dL_law_319 dL_law_320 rfl (by decide) rfl rfl (by omega) ?_
  refine wl_arg (q := 326) (i := i) (k := 2) hg dL_law_321 dL_law_322 dL_law_323 dL_law_324 dL_law_325 rfl (by decide) rfl rfl (by omega) ?_
  refine wl_callV (q := 329) hg dL_law_326 rfl ll_44 (by decide) (c_X4_set hR.1) (by decide) ⟨rfl, by decide⟩ rfl rfl (Nat.le_of_ble_eq_true rfl) ?_
  refine wl_mem (M' := sR (fSet M (xs (i + 1)) (xs (i + 2))).2 (M.1 5 0)) (sR_k5 (k5_set M (xs (i + 1)) (xs (i + 2)))) ?_
  refine wl_aload_n (q := 330) (i := 2) hg dL_law_329 rfl rfl rfl ?_
  refine wl_arg (q := 335) (i := i) (k := 1) hg dL_law_330 dL_law_331 dL_law_332 dL_law_333 dL_law_334 rfl (by decide) rfl rfl (by omega) ?_
  refine wl_arg (q := 340) (i := i) (k := 2) hg dL_law_335 dL_law_336 dL_law_337 dL_law_338 dL_law_339 rfl (by decide) rfl rfl (by omega) ?_
  refine wl_callR (q := 343) hg dL_law_340 rfl ll_47 (by decide) (c_X5_set hR) (by decide) ⟨rfl, by decide⟩ rfl rfl (Nat.le_of_ble_eq_true rfl) (fun R2 hR2 => ?_)
  exact wl_icmp_eq (q := 776) hg dL_law_343 (by decide) rfl (hback _ (RI_end hR2))
set_option maxRecDepth 100000 in
set_option maxHeartbeats 4000000 in
theorem law_8 {Γ : GT} {K : KT} {b N i : Nat} {xs : Nat → Int32} {M : Mem} (hg : GL Γ K b N xs) (hi : i + 4 ≤ N) (hR : RI M (M.1 5 0)) (hback : ∀ M2, RI M2 (M2.1 5 0) → WL Γ K M2 [(0, .ref b), (1, .ref (ad Γ 4 0 0)), (2, .ref (ad Γ 5 0 0)), (3, .int (nI i))] 776 []) : WL Γ K M [(0, .ref b), (1, .ref (ad Γ 4 0 0)), (2, .ref (ad Γ 5 0 0)), (3, .int (nI i))] 348 [] := by
  refine wl_aload_n (q := 349) (i := 1) hg dL_law_348 rfl rfl rfl ?_
  refine wl_arg (q := 354) (i := i) (k := 1) hg dL_law_349 dL_law_350 dL_law_351 dL_law_352 dL_law_353 rfl (by decide) rfl rfl (by omega) ?_
  refine wl_arg (q := 359) (i := i) (k := 2) hg dL_law_354 dL_law_355 dL_law_356 dL_law_357 dL_law_358 rfl (by decide) rfl rfl (by omega) ?_
  refine wl_callV (q := 362) hg dL_law_359 rfl ll_48 (by decide) (c_X4_goal hR.1) (by decide) ⟨rfl, by decide⟩ rfl rfl (Nat.le_of_ble_eq_true rfl) ?_
  refine wl_mem (M' := sR (fGoal M (xs (i + 1)) (xs (i + 2))).2 (M.1 5 0)) (sR_k5 (k5_goal M (xs (i + 1)) (xs (i + 2)))) ?_
  refine wl_aload_n (q := 363) (i := 2) hg dL_law_362 rfl rfl rfl ?_
  refine wl_arg (q := 368) (i := i) (k := 1) hg dL_law_363 dL_law_364 dL_law_365 dL_law_366 dL_law_367 rfl (by decide) rfl rfl (by omega) ?_
  refine wl_arg (q := 373) (i := i) (k := 2) hg dL_law_368 dL_law_369 dL_law_370 dL_law_371 dL_law_372 rfl (by decide) rfl rfl (by omega) ?_
  refine wl_callR (q := 376) hg dL_law_373 rfl ll_51 (by decide) (c_X5_goal hR) (by decide) ⟨rfl, by decide⟩ rfl rfl (Nat.le_of_ble_eq_true rfl) (fun R2 hR2 => ?_)
  exact wl_icmp_eq (q := 776) hg dL_law_376 (by decide) rfl (hback _ (RI_end hR2))
set_option maxRecDepth 100000 in
set_option maxHeartbeats 4000000 in
theorem law_9 {Γ : GT} {K : KT} {b N i : Nat} {xs : Nat → Int32} {M : Mem} (hg : GL Γ K b N xs) (hi : i + 4 ≤ N) (hR : RI M (M.1 5 0)) (hback : ∀ M2, RI M2 (M2.1 5 0) → WL Γ K M2 [(0, .ref b), (1, .ref (ad Γ 4 0 0)), (2, .ref (ad Γ 5 0 0)), (3, .int (nI i))] 776 []) : WL Γ K M [(0, .ref b), (1, .ref (ad Γ 4 0 0)), (2, .ref (ad Γ 5 0 0)), (3, .int (nI i))] 381 [] := by
  refine wl_aload_n (q := 382) (i := 1) hg dL_law_381 rfl rfl rfl ?_
  refine wl_callV (q := 385) hg dL_law_382 rfl ll_52 (by decide) (c_X4_undo hR.1) (by decide) ⟨rfl, by decide⟩ rfl rfl (Nat.le_of_ble_eq_true rfl) ?_
  refine wl_mem (M' := sR (fUndo M).2 (M.1 5 0)) (sR_k5 (k5_undo M)) ?_
  refine wl_aload_n (q := 386) (i := 2) hg dL_law_385 rfl rfl rfl ?_
  refine wl_callR (q := 389) hg dL_law_386 rfl ll_55 (by decide) (c_X5_undo hR) (by decide) ⟨rfl, by decide⟩ rfl rfl (Nat.le_of_ble_eq_true rfl) (fun R2 hR2 => ?_)
  exact wl_icmp_eq (q := 776) hg dL_law_389 (by decide) rfl (hback _ (RI_end hR2))
set_option maxRecDepth 100000 in
set_option maxHeartbeats 4000000 in
theorem law_10 {Γ : GT} {K : KT} {b N i : Nat} {xs : Nat → Int32} {M : Mem} (hg : GL Γ K b N xs) (hi : i + 4 ≤ N) (hR : RI M (M.1 5 0)) (hback : ∀ M2, RI M2 (M2.1 5 0) → WL Γ K M2 [(0, .ref b), (1, .ref (ad Γ 4 0 0)), (2, .ref (ad Γ 5 0 0)), (3, .int (nI i))] 776 []) : WL Γ K M [(0, .ref b), (1, .ref (ad Γ 4 0 0)), (2, .ref (ad Γ 5 0 0)), (3, .int (nI i))] 394 [] := by
  refine wl_aload_n (q := 395) (i := 1) hg dL_law_394 rfl rfl rfl ?_
  refine wl_arg (q := 400) (i := i) (k := 1) hg dL_law_395 dL_law_396 dL_law_397 dL_law_398 dL_law_399 rfl (by decide) rfl rfl (by omega) ?_
  refine wl_callV (q := 403) hg dL_law_400 rfl ll_56 (by decide) (c_X4_told hR.1) (by decide) ⟨rfl, by decide⟩ rfl rfl (Nat.le_of_ble_eq_true rfl) ?_
  refine wl_mem (sR_k5 (K5.rf M)) ?_
  refine wl_aload_n (q := 404) (i := 2) hg dL_law_403 rfl rfl rfl ?_
  refine wl_arg (q := 409) (i := i) (k := 1) hg dL_law_404 dL_law_405 dL_law_406 dL_law_407 dL_law_408 rfl (by decide) rfl rfl (by omega) ?_
  refine wl_callV (q := 412) hg dL_law_409 rfl ll_59 (by decide) (c_X5_told hR) (by decide) ⟨rfl, by decide⟩ rfl rfl (Nat.le_of_ble_eq_true rfl) ?_
  exact wl_icmp_eq (q := 776) hg dL_law_412 (by decide) rfl (hback _ (RI_end hR))
set_option maxRecDepth 100000 in
set_option maxHeartbeats 4000000 in
theorem law_11 {Γ : GT} {K : KT} {b N i : Nat} {xs : Nat → Int32} {M : Mem} (hg : GL Γ K b N xs) (hi : i + 4 ≤ N) (hR : RI M (M.1 5 0)) (hback : ∀ M2, RI M2 (M2.1 5 0) → WL Γ K M2 [(0, .ref b), (1, .ref (ad Γ 4 0 0)), (2, .ref (ad Γ 5 0 0)), (3, .int (nI i))] 776 []) : WL Γ K M [(0, .ref b), (1, .ref (ad Γ 4 0 0)), (2, .ref (ad Γ 5 0 0)), (3, .int (nI i))] 417 [] := by
  refine wl_aload_n (q := 418) (i := 1) hg dL_law_417 rfl rfl rfl ?_
  refine wl_arg (q := 423) (i := i) (k := 1) hg dL_law_418 dL_law_419 dL_law_420 dL_law_421 dL_law_422 rfl (by decide) rfl rfl (by omega) ?_
  refine wl_arg (q := 428) (i := i) (k := 2) hg dL_law_423 dL_law_424 dL_law_425 dL_law_426 dL_law_427 rfl (by decide) rfl rfl (by omega) ?_
  refine wl_callV (q := 431) hg dL_law_428 rfl ll_60 (by decide) (c_X4_magnet hR.1) (by decide) ⟨rfl, by decide⟩ rfl rfl (Nat.le_of_ble_eq_true rfl) ?_
  refine wl_mem (sR_k5 (K5.rf M)) ?_
  refine wl_aload_n (q := 432) (i := 2) hg dL_law_431 rfl rfl rfl ?_
  refine wl_arg (q := 437) (i := i) (k := 1) hg dL_law_432 dL_law_433 dL_law_434 dL_law_435 dL_law_436 rfl (by decide) rfl rfl (by omega) ?_
  refine wl_arg (q := 442) (i := i) (k := 2) hg dL_law_437 dL_law_438 dL_law_439 dL_law_440 dL_law_441 rfl (by decide) rfl rfl (by omega) ?_
  refine wl_callV (q := 445) hg dL_law_442 rfl ll_63 (by decide) (c_X5_magnet hR) (by decide) ⟨rfl, by decide⟩ rfl rfl (Nat.le_of_ble_eq_true rfl) ?_
  exact wl_icmp_eq (q := 776) hg dL_law_445 (by decide) rfl (hback _ (RI_end hR))
set_option maxRecDepth 100000 in
set_option maxHeartbeats 4000000 in
theorem law_12 {Γ : GT} {K : KT} {b N i : Nat} {xs : Nat → Int32} {M : Mem} (hg : GL Γ K b N xs) (hi : i + 4 ≤ N) (hR : RI M (M.1 5 0)) (hback : ∀ M2, RI M2 (M2.1 5 0) → WL Γ K M2 [(0, .ref b), (1, .ref (ad Γ 4 0 0)), (2, .ref (ad Γ 5 0 0)), (3, .int (nI i))] 776 []) : WL Γ K M [(0, .ref b), (1, .ref (ad Γ 4 0 0)), (2, .ref (ad Γ 5 0 0)), (3, .int (nI i))] 450 [] := by
  refine wl_aload_n (q := 451) (i := 1) hg dL_law_450 rfl rfl rfl ?_
  refine wl_arg (q := 456) (i := i) (k := 1) hg dL_law_451 dL_law_452 dL_law_453 dL_law_454 dL_law_455 rfl (by decide) rfl rfl (by omega) ?_
  refine wl_arg (q := 461) (i := i) (k := 2) hg dL_law_456 dL_law_457 dL_law_458 dL_law_459 dL_law_460 rfl (by decide) rfl rfl (by omega) ?_
  refine wl_callV (q := 464) hg dL_law_461 rfl ll_64 (by decide) (c_X4_log hR.1) (by decide) ⟨rfl, by decide⟩ rfl rfl (Nat.le_of_ble_eq_true rfl) ?_
  refine wl_mem (sR_k5 (K5.rf M)) ?_
  refine wl_aload_n (q := 465) (i := 2) hg dL_law_464 rfl rfl rfl ?_
  refine wl_arg (q := 470) (i := i) (k := 1) hg dL_law_465 dL_law_466 dL_law_467 dL_law_468 dL_law_469 rfl (by decide) rfl rfl (by omega) ?_
  refine wl_arg (q := 475) (i := i) (k := 2) hg dL_law_470 dL_law_471 dL_law_472 dL_law_473 dL_law_474 rfl (by decide) rfl rfl (by omega) ?_
  refine wl_callV (q := 478) hg dL_law_475 rfl ll_67 (by decide) (c_X5_log hR) (by decide) ⟨rfl, by decide⟩ rfl rfl (Nat.le_of_ble_eq_true rfl) ?_
  exact wl_icmp_eq (q := 776) hg dL_law_478 (by decide) rfl (hback _ (RI_end hR))
set_option maxRecDepth 100000 in
set_option maxHeartbeats 4000000 in
theorem law_13 {Γ : GT} {K : KT} {b N i : Nat} {xs : Nat → Int32} {M : Mem} (hg : GL Γ K b N xs) (hi : i + 4 ≤ N) (hR : RI M (M.1 5 0)) (hback : ∀ M2, RI M2 (M2.1 5 0) → WL Γ K M2 [(0, .ref b), (1, .ref (ad Γ 4 0 0)), (2, .ref (ad Γ 5 0 0)), (3, .int (nI i))] 776 []) : WL Γ K M [(0, .ref b), (1, .ref (ad Γ 4 0 0)), (2, .ref (ad Γ 5 0 0)), (3, .int (nI i))] 483 [] := by
  refine wl_aload_n (q := 484) (i := 1) hg dL_law_483 rfl rfl rfl ?_
  refine wl_arg (q := 489) (i := i) (k := 1) hg dL_law_484 dL_law_485 dL_law_486 dL_law_487 dL_law_488 rfl (by decide) rfl rfl (by omega) ?_
  refine wl_callV (q := 492) hg dL_law_489 rfl ll_68 (by decide) (c_X4_points hR.1) (by decide) ⟨rfl, by decide⟩ rfl rfl (Nat.le_of_ble_eq_true rfl) ?_
  refine wl_mem (sR_k5 (K5.rf M)) ?_
  refine wl_aload_n (q := 493) (i := 2) hg dL_law_492 rfl rfl rfl ?_
  refine wl_arg (q := 498) (i := i) (k := 1) hg dL_law_493 dL_law_494 dL_law_495 dL_law_496 dL_law_497 rfl (by decide) rfl rfl (by omega) ?_
  refine wl_callV (q := 501) hg dL_law_498 rfl ll_71 (by decide) (c_X5_points hR) (by decide) ⟨rfl, by decide⟩ rfl rfl (Nat.le_of_ble_eq_true rfl) ?_
  exact wl_icmp_eq (q := 776) hg dL_law_501 (by decide) rfl (hback _ (RI_end hR))
set_option maxRecDepth 100000 in
set_option maxHeartbeats 4000000 in
theorem law_15 {Γ : GT} {K : KT} {b N i : Nat} {xs : Nat → Int32} {M : Mem} (hg : GL Γ K b N xs) (hi : i + 4 ≤ N) (hR : RI M (M.1 5 0)) (hback : ∀ M2, RI M2 (M2.1 5 0) → WL Γ K M2 [(0, .ref b), (1, .ref (ad Γ 4 0 0)), (2, .ref (ad Γ 5 0 0)), (3, .int (nI i))] 776 []) : WL Γ K M [(0, .ref b), (1, .ref (ad Γ 4 0 0)), (2, .ref (ad Γ 5 0 0)), (3, .int (nI i))] 549 [] := by
  refine wl_aload_n (q := 550) (i := 1) hg dL_law_549 rfl rfl rfl ?_
  refine wl_arg (q := 555) (i := i) (k := 1) hg dL_law_550 dL_law_551 dL_law_552 dL_law_553 dL_law_554 rfl (by decide) rfl rfl (by omega) ?_
  refine wl_arg (q := 560) (i := i) (k := 2) hg dL_law_555 dL_law_556 dL_law_557 dL_law_558 dL_law_559 rfl (by decide) rfl rfl (by omega) ?_
  refine wl_callV (q := 563) hg dL_law_560 rfl ll_77 (by decide) (c_X4_moved hR.1) (by decide) ⟨rfl, by decide⟩ rfl rfl (Nat.le_of_ble_eq_true rfl) ?_
  refine wl_mem (M' := sR (fMov M (xs (i + 1)) (xs (i + 2))).2 (M.1 5 0)) (sR_k5 (k5_mov M (xs (i + 1)) (xs (i + 2)))) ?_
  refine wl_aload_n (q := 564) (i := 2) hg dL_law_563 rfl rfl rfl ?_
  refine wl_arg (q := 569) (i := i) (k := 1) hg dL_law_564 dL_law_565 dL_law_566 dL_law_567 dL_law_568 rfl (by decide) rfl rfl (by omega) ?_
  refine wl_arg (q := 574) (i := i) (k := 2) hg dL_law_569 dL_law_570 dL_law_571 dL_law_572 dL_law_573 rfl (by decide) rfl rfl (by omega) ?_
  refine wl_callR (q := 577) hg dL_law_574 rfl ll_80 (by decide) (c_X5_moved hR) (by decide) ⟨rfl, by decide⟩ rfl rfl (Nat.le_of_ble_eq_true rfl) (fun R2 hR2 => ?_)
  exact wl_icmp_eq (q := 776) hg dL_law_577 (by decide) rfl (hback _ (RI_end hR2))
set_option maxRecDepth 100000 in
set_option maxHeartbeats 4000000 in
theorem law_16 {Γ : GT} {K : KT} {b N i : Nat} {xs : Nat → Int32} {M : Mem} (hg : GL Γ K b N xs) (hi : i + 4 ≤ N) (hR : RI M (M.1 5 0)) (hback : ∀ M2, RI M2 (M2.1 5 0) → WL Γ K M2 [(0, .ref b), (1, .ref (ad Γ 4 0 0)), (2, .ref (ad Γ 5 0 0)), (3, .int (nI i))] 776 []) : WL Γ K M [(0, .ref b), (1, .ref (ad Γ 4 0 0)), (2, .ref (ad Γ 5 0 0)), (3, .int (nI i))] 582 [] := by
  refine wl_aload_n (q := 583) (i := 1) hg dL_law_582 rfl rfl rfl ?_
  refine wl_arg (q := 588) (i := i) (k := 1) hg dL_law_583 dL_law_584 dL_law_585 dL_law_586 dL_law_587 rfl (by decide) rfl rfl (by omega) ?_
  refine wl_arg (q := 593) (i := i) (k := 2) hg dL_law_588 dL_law_589 dL_law_590 dL_law_591 dL_law_592 rfl (by decide) rfl rfl (by omega) ?_
  refine wl_arg (q := 598) (i := i) (k := 3) hg dL_law_593 dL_law_594 dL_law_595 dL_law_596 dL_law_597 rfl (by decide) rfl rfl (by omega) ?_
  refine wl_callV (q := 601) hg dL_law_598 rfl ll_81 (by decide) (c_X4_loop hR.1) (by decide) ⟨rfl, by decide⟩ rfl rfl (Nat.le_of_ble_eq_true rfl) ?_
  refine wl_mem (M' := sR (fLoop M (xs (i + 1)) (xs (i + 2)) (xs (i + 3))).2 (M.1 5 0)) (sR_k5 (k5_loop M (xs (i + 1)) (xs (i + 2)) (xs (i + 3)))) ?_
  refine wl_aload_n (q := 602) (i := 2) hg dL_law_601 rfl rfl rfl ?_
  refine wl_arg (q := 607) (i := i) (k := 1) hg dL_law_602 dL_law_603 dL_law_604 dL_law_605 dL_law_606 rfl (by decide) rfl rfl (by omega) ?_
  refine wl_arg (q := 612) (i := i) (k := 2) hg dL_law_607 dL_law_608 dL_law_609 dL_law_610 dL_law_611 rfl (by decide) rfl rfl (by omega) ?_
  refine wl_arg (q := 617) (i := i) (k := 3) hg dL_law_612 dL_law_613 dL_law_614 dL_law_615 dL_law_616 rfl (by decide) rfl rfl (by omega) ?_
  refine wl_callR (q := 620) hg dL_law_617 rfl ll_85 (by decide) (c_X5_loop hR) (by decide) ⟨rfl, by decide⟩ rfl rfl (Nat.le_of_ble_eq_true rfl) (fun R2 hR2 => ?_)
  exact wl_icmp_eq (q := 776) hg dL_law_620 (by decide) rfl (hback _ (RI_end hR2))
set_option maxRecDepth 100000 in
set_option maxHeartbeats 4000000 in
theorem law_17 {Γ : GT} {K : KT} {b N i : Nat} {xs : Nat → Int32} {M : Mem} (hg : GL Γ K b N xs) (hi : i + 4 ≤ N) (hR : RI M (M.1 5 0)) (hback : ∀ M2, RI M2 (M2.1 5 0) → WL Γ K M2 [(0, .ref b), (1, .ref (ad Γ 4 0 0)), (2, .ref (ad Γ 5 0 0)), (3, .int (nI i))] 776 []) : WL Γ K M [(0, .ref b), (1, .ref (ad Γ 4 0 0)), (2, .ref (ad Γ 5 0 0)), (3, .int (nI i))] 625 [] := by
  refine wl_aload_n (q := 626) (i := 1) hg dL_law_625 rfl rfl rfl ?_
  refine wl_arg (q := 631) (i := i) (k := 1) hg dL_law_626 dL_law_627 dL_law_628 dL_law_629 dL_law_630 rfl (by decide) rfl rfl (by omega) ?_
  refine wl_arg (q := 636) (i := i) (k := 2) hg dL_law_631 dL_law_632 dL_law_633 dL_law_634 dL_law_635 rfl (by decide) rfl rfl (by omega) ?_
  refine wl_callV (q := 639) hg dL_law_636 rfl ll_86 (by decide) (c_X4_solve hR.1) (by decide) ⟨rfl, by decide⟩ rfl rfl (Nat.le_of_ble_eq_true rfl) ?_
  refine wl_mem (M' := sR (fSolve M (xs (i + 1)) (xs (i + 2))).2 (M.1 5 0)) (sR_k5 (k5_solve M (xs (i + 1)) (xs (i + 2)))) ?_
  refine wl_aload_n (q := 640) (i := 2) hg dL_law_639 rfl rfl rfl ?_
  refine wl_arg (q := 645) (i := i) (k := 1) hg dL_law_640 dL_law_641 dL_law_642 dL_law_643 dL_law_644 rfl (by decide) rfl rfl (by omega) ?_
  refine wl_arg (q := 650) (i := i) (k := 2) hg dL_law_645 dL_law_646 dL_law_647 dL_law_648 dL_law_649 rfl (by decide) rfl rfl (by omega) ?_
  refine wl_callR (q := 653) hg dL_law_650 rfl ll_89 (by decide) (c_X5_solve hR) (by decide) ⟨rfl, by decide⟩ rfl rfl (Nat.le_of_ble_eq_true rfl) (fun R2 hR2 => ?_)
  exact wl_icmp_eq (q := 776) hg dL_law_653 (by decide) rfl (hback _ (RI_end hR2))
set_option maxRecDepth 100000 in
set_option maxHeartbeats 4000000 in
theorem law_18 {Γ : GT} {K : KT} {b N i : Nat} {xs : Nat → Int32} {M : Mem} (hg : GL Γ K b N xs) (hi : i + 4 ≤ N) (hR : RI M (M.1 5 0)) (hback : ∀ M2, RI M2 (M2.1 5 0) → WL Γ K M2 [(0, .ref b), (1, .ref (ad Γ 4 0 0)), (2, .ref (ad Γ 5 0 0)), (3, .int (nI i))] 776 []) : WL Γ K M [(0, .ref b), (1, .ref (ad Γ 4 0 0)), (2, .ref (ad Γ 5 0 0)), (3, .int (nI i))] 658 [] := by
  refine wl_aload_n (q := 659) (i := 1) hg dL_law_658 rfl rfl rfl ?_
  refine wl_arg (q := 664) (i := i) (k := 1) hg dL_law_659 dL_law_660 dL_law_661 dL_law_662 dL_law_663 rfl (by decide) rfl rfl (by omega) ?_
  refine wl_callV (q := 667) hg dL_law_664 rfl ll_90 (by decide) (c_X4_write hR.1) (by decide) ⟨rfl, by decide⟩ rfl rfl (Nat.le_of_ble_eq_true rfl) ?_
  refine wl_mem (M' := sR (fWrite M (xs (i + 1))).2 (M.1 5 0)) (sR_k5 (k5_write M (xs (i + 1)))) ?_
  refine wl_aload_n (q := 668) (i := 2) hg dL_law_667 rfl rfl rfl ?_
  refine wl_arg (q := 673) (i := i) (k := 1) hg dL_law_668 dL_law_669 dL_law_670 dL_law_671 dL_law_672 rfl (by decide) rfl rfl (by omega) ?_
  refine wl_callR (q := 676) hg dL_law_673 rfl ll_93 (by decide) (c_X5_write hR) (by decide) ⟨rfl, by decide⟩ rfl rfl (Nat.le_of_ble_eq_true rfl) (fun R2 hR2 => ?_)
  exact wl_icmp_eq (q := 776) hg dL_law_676 (by decide) rfl (hback _ (RI_end hR2))
set_option maxRecDepth 100000 in
set_option maxHeartbeats 4000000 in
theorem law_19 {Γ : GT} {K : KT} {b N i : Nat} {xs : Nat → Int32} {M : Mem} (hg : GL Γ K b N xs) (hi : i + 4 ≤ N) (hR : RI M (M.1 5 0)) (hback : ∀ M2, RI M2 (M2.1 5 0) → WL Γ K M2 [(0, .ref b), (1, .ref (ad Γ 4 0 0)), (2, .ref (ad Γ 5 0 0)), (3, .int (nI i))] 776 []) : WL Γ K M [(0, .ref b), (1, .ref (ad Γ 4 0 0)), (2, .ref (ad Γ 5 0 0)), (3, .int (nI i))] 681 [] := by
  refine wl_aload_n (q := 682) (i := 1) hg dL_law_681 rfl rfl rfl ?_
  refine wl_callV (q := 685) hg dL_law_682 rfl ll_94 (by decide) (c_X4_wipe hR.1) (by decide) ⟨rfl, by decide⟩ rfl rfl (Nat.le_of_ble_eq_true rfl) ?_
  refine wl_mem (M' := sR (sI M 3 0 1 0) (M.1 5 0)) (sR_k5 (k5_wipe M)) ?_
  refine wl_aload_n (q := 686) (i := 2) hg dL_law_685 rfl rfl rfl ?_
  refine wl_callR (q := 689) hg dL_law_686 rfl ll_97 (by decide) (c_X5_wipe hR) (by decide) ⟨rfl, by decide⟩ rfl rfl (Nat.le_of_ble_eq_true rfl) (fun R2 hR2 => ?_)
  exact wl_icmp_eq (q := 776) hg dL_law_689 (by decide) rfl (hback _ (RI_end hR2))
set_option maxRecDepth 100000 in
set_option maxHeartbeats 4000000 in
theorem law_20 {Γ : GT} {K : KT} {b N i : Nat} {xs : Nat → Int32} {M : Mem} (hg : GL Γ K b N xs) (hi : i + 4 ≤ N) (hR : RI M (M.1 5 0)) (hback : ∀ M2, RI M2 (M2.1 5 0) → WL Γ K M2 [(0, .ref b), (1, .ref (ad Γ 4 0 0)), (2, .ref (ad Γ 5 0 0)), (3, .int (nI i))] 776 []) : WL Γ K M [(0, .ref b), (1, .ref (ad Γ 4 0 0)), (2, .ref (ad Γ 5 0 0)), (3, .int (nI i))] 694 [] := by
  refine wl_aload_n (q := 695) (i := 1) hg dL_law_694 rfl rfl rfl ?_
  refine wl_callV (q := 698) hg dL_law_695 rfl ll_98 (by decide) (c_X4_load hR.1) (by decide) ⟨rfl, by decide⟩ rfl rfl (Nat.le_of_ble_eq_true rfl) ?_
  refine wl_mem (M' := sR (fLoad M).2 (M.1 5 0)) (sR_k5 (k5_load M)) ?_
  refine wl_aload_n (q := 699) (i := 2) hg dL_law_698 rfl rfl rfl ?_
  refine wl_callR (q := 702) hg dL_law_699 rfl ll_101 (by decide) (c_X5_load hR) (by decide) ⟨rfl, by decide⟩ rfl rfl (Nat.le_of_ble_eq_true rfl) (fun R2 hR2 => ?_)
  exact wl_icmp_eq (q := 776) hg dL_law_702 (by decide) rfl (hback _ (RI_end hR2))
set_option maxRecDepth 100000 in
set_option maxHeartbeats 4000000 in
theorem law_21 {Γ : GT} {K : KT} {b N i : Nat} {xs : Nat → Int32} {M : Mem} (hg : GL Γ K b N xs) (hi : i + 4 ≤ N) (hR : RI M (M.1 5 0)) (hback : ∀ M2, RI M2 (M2.1 5 0) → WL Γ K M2 [(0, .ref b), (1, .ref (ad Γ 4 0 0)), (2, .ref (ad Γ 5 0 0)), (3, .int (nI i))] 776 []) : WL Γ K M [(0, .ref b), (1, .ref (ad Γ 4 0 0)), (2, .ref (ad Γ 5 0 0)), (3, .int (nI i))] 707 [] := by
  refine wl_aload_n (q := 708) (i := 1) hg dL_law_707 rfl rfl rfl ?_
  refine wl_arg (q := 713) (i := i) (k := 1) hg dL_law_708 dL_law_709 dL_law_710 dL_law_711 dL_law_712 rfl (by decide) rfl rfl (by omega) ?_
  refine wl_callV (q := 716) hg dL_law_713 rfl ll_102 (by decide) (c_X4_fault hR.1) (by decide) ⟨rfl, by decide⟩ rfl rfl (Nat.le_of_ble_eq_true rfl) ?_
  refine wl_mem (sR_k5 (K5.rf M)) ?_
  refine wl_aload_n (q := 717) (i := 2) hg dL_law_716 rfl rfl rfl ?_
  refine wl_arg (q := 722) (i := i) (k := 1) hg dL_law_717 dL_law_718 dL_law_719 dL_law_720 dL_law_721 rfl (by decide) rfl rfl (by omega) ?_
  refine wl_callV (q := 725) hg dL_law_722 rfl ll_105 (by decide) (c_X5_fault hR) (by decide) ⟨rfl, by decide⟩ rfl rfl (Nat.le_of_ble_eq_true rfl) ?_
  exact wl_icmp_eq (q := 776) hg dL_law_725 (by decide) rfl (hback _ (RI_end hR))
set_option maxRecDepth 100000 in
set_option maxHeartbeats 4000000 in
theorem law_22 {Γ : GT} {K : KT} {b N i : Nat} {xs : Nat → Int32} {M : Mem} (hg : GL Γ K b N xs) (hi : i + 4 ≤ N) (hR : RI M (M.1 5 0)) (hback : ∀ M2, RI M2 (M2.1 5 0) → WL Γ K M2 [(0, .ref b), (1, .ref (ad Γ 4 0 0)), (2, .ref (ad Γ 5 0 0)), (3, .int (nI i))] 776 []) : WL Γ K M [(0, .ref b), (1, .ref (ad Γ 4 0 0)), (2, .ref (ad Γ 5 0 0)), (3, .int (nI i))] 730 [] := by
  refine wl_aload_n (q := 731) (i := 1) hg dL_law_730 rfl rfl rfl ?_
  refine wl_arg (q := 736) (i := i) (k := 1) hg dL_law_731 dL_law_732 dL_law_733 dL_law_734 dL_law_735 rfl (by decide) rfl rfl (by omega) ?_
  refine wl_callV (q := 739) hg dL_law_736 rfl ll_106 (by decide) (c_X4_keep hR.1) (by decide) ⟨rfl, by decide⟩ rfl rfl (Nat.le_of_ble_eq_true rfl) ?_
  refine wl_mem (M' := sR (fKeep M (xs (i + 1))).2 (M.1 5 0)) (sR_k5 (k5_keep M (xs (i + 1)))) ?_
  refine wl_aload_n (q := 740) (i := 2) hg dL_law_739 rfl rfl rfl ?_
  refine wl_arg (q := 745) (i := i) (k := 1) hg dL_law_740 dL_law_741 dL_law_742 dL_law_743 dL_law_744 rfl (by decide) rfl rfl (by omega) ?_
  refine wl_callR (q := 748) hg dL_law_745 rfl ll_109 (by decide) (c_X5_keep hR) (by decide) ⟨rfl, by decide⟩ rfl rfl (Nat.le_of_ble_eq_true rfl) (fun R2 hR2 => ?_)
  exact wl_icmp_eq (q := 776) hg dL_law_748 (by decide) rfl (hback _ (RI_end hR2))
set_option maxRecDepth 100000 in
set_option maxHeartbeats 4000000 in
theorem law_23 {Γ : GT} {K : KT} {b N i : Nat} {xs : Nat → Int32} {M : Mem} (hg : GL Γ K b N xs) (hi : i + 4 ≤ N) (hR : RI M (M.1 5 0)) (hback : ∀ M2, RI M2 (M2.1 5 0) → WL Γ K M2 [(0, .ref b), (1, .ref (ad Γ 4 0 0)), (2, .ref (ad Γ 5 0 0)), (3, .int (nI i))] 776 []) : WL Γ K M [(0, .ref b), (1, .ref (ad Γ 4 0 0)), (2, .ref (ad Γ 5 0 0)), (3, .int (nI i))] 753 [] := by
  refine wl_aload_n (q := 754) (i := 1) hg dL_law_753 rfl rfl rfl ?_
  refine wl_arg (q := 759) (i := i) (k := 1) hg dL_law_754 dL_law_755 dL_law_756 dL_law_757 dL_law_758 rfl (by decide) rfl rfl (by omega) ?_
  refine wl_callV (q := 762) hg dL_law_759 rfl ll_110 (by decide) (c_X4_back hR.1) (by decide) ⟨rfl, by decide⟩ rfl rfl (Nat.le_of_ble_eq_true rfl) ?_
  refine wl_mem (M' := sR (fBack M (xs (i + 1))).2 (M.1 5 0)) (sR_k5 (k5_back M (xs (i + 1)))) ?_
  refine wl_aload_n (q := 763) (i := 2) hg dL_law_762 rfl rfl rfl ?_
  refine wl_arg (q := 768) (i := i) (k := 1) hg dL_law_763 dL_law_764 dL_law_765 dL_law_766 dL_law_767 rfl (by decide) rfl rfl (by omega) ?_
  refine wl_callR (q := 771) hg dL_law_768 rfl ll_113 (by decide) (c_X5_back hR) (by decide) ⟨rfl, by decide⟩ rfl rfl (Nat.le_of_ble_eq_true rfl) (fun R2 hR2 => ?_)
  exact wl_icmp_eq (q := 776) hg dL_law_771 (by decide) rfl (hback _ (RI_end hR2))
set_option maxRecDepth 100000 in
set_option maxHeartbeats 4000000 in
theorem law_14 {Γ : GT} {K : KT} {b N i : Nat} {xs : Nat → Int32} {M : Mem} (hg : GL Γ K b N xs) (hi : i + 4 ≤ N) (hR : RI M (M.1 5 0)) (hback : ∀ M2, RI M2 (M2.1 5 0) → WL Γ K M2 [(0, .ref b), (1, .ref (ad Γ 4 0 0)), (2, .ref (ad Γ 5 0 0)), (3, .int (nI i))] 776 []) : WL Γ K M [(0, .ref b), (1, .ref (ad Γ 4 0 0)), (2, .ref (ad Γ 5 0 0)), (3, .int (nI i))] 506 [] := by
  have hm := mean_num hR
  have hm2 := f2d_num hm
  refine wl_aload_n (q := 507) (i := 1) hg dL_law_506 rfl rfl rfl ?_
  refine wl_callV (q := 510) hg dL_law_507 rfl ll_72 (by decide) (c_X4_mean hR.1 hR.2.1.1.1.2.1 (vfn32 hm)) (by decide) ⟨rfl, by decide⟩ rfl rfl (Nat.le_of_ble_eq_true rfl) ?_
  refine wl_f2d (q := 511) hg dL_law_510 rfl (vfn64 hm2) ?_
  refine wl_dstore (q := 513) (L' := [(4, .double (FP.f2d (fMean M))), (0, .ref b), (1, .ref (ad Γ 4 0 0)), (2, .ref (ad Γ 5 0 0)), (3, .int (nI i))]) hg dL_law_511 rfl (by decide) rfl ?_
  refine wl_mem (sR_k5 (K5.rf M)) ?_
  refine wl_aload_n (q := 514) (i := 2) hg dL_law_513 rfl rfl rfl ?_
  refine wl_callV (q := 517) hg dL_law_514 rfl ll_76 (by decide) (c_X5_mean hR (vfn32 hm)) (by decide) ⟨rfl, by decide⟩ rfl rfl (Nat.le_of_ble_eq_true rfl) ?_
  refine wl_f2d (q := 518) hg dL_law_517 rfl (vfn64 hm2) ?_
  refine wl_dstore (q := 520) (L' := [(6, .double (FP.f2d (fMean M))), (4, .double (FP.f2d (fMean M))), (0, .ref b), (1, .ref (ad Γ 4 0 0)), (2, .ref (ad Γ 5 0 0)), (3, .int (nI i))]) hg dL_law_518 rfl (by decide) rfl ?_
  refine wl_dload (q := 522) 1 hg dL_law_520 rfl rfl ?_
  refine wl_dload (q := 524) 0 hg dL_law_522 rfl rfl ?_
  refine wl_dcmp (q := 525) hg dL_law_524 rfl ?_
  refine wl_st (st' := [.int 0]) (by rw [dcmp_eq hm2]; rfl) ?_
  refine wl_if_eq (q := 546) hg dL_law_525 (by decide) ?_
  refine wl_goto (q := 776) hg dL_law_546 (by decide) ?_
  exact wl_L (L' := [(0, .ref b), (1, .ref (ad Γ 4 0 0)), (2, .ref (ad Γ 5 0 0)), (3, .int (nI i))]) [2, 3, 4, 5] rfl (hback _ (RI_end hR))
