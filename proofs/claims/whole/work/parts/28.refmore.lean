/-! ===== the reference: reads, text, images ===== -/
theorem RI_T {N : Mem} {R R' T' : OV} (h : RI N R) (hT : okT T') (h0 : R'.2 0 = R.2 0) (h1 : R'.2 1 = R.2 1) (h3 : R'.2 3 = R.2 3) (h4 : R'.2 4 = R.2 4) (hc : R'.1 2 = R.1 2) (hr : relT T' R') : RI (sO N 3 0 T') R' := by
  obtain ⟨⟨q1, q2, q3, q4⟩, r2, r3, r4, r5⟩ := h
  have e : ∀ ci i, ci ≠ 3 → (sO N 3 0 T').1 ci i = N.1 ci i := fun ci i hc => sO_kind _ _ _ _ hc
  have e5 : unN (sO N 3 0 T') = unN N := by
    show (((sO N 3 0 T').1 4 0).1 2).toNatClampNeg = _
    rw [e 4 0 (by decide)]
    rfl
  refine ⟨⟨HU_sO q1 0 T' (by decide), fun g hg => by rw [e 1 g (by decide)]; exact q2 g hg, fun g hg => by rw [e 0 g (by decide)]; exact q3 g hg, by rw [sO_same]; exact hT⟩, by rw [e 1 0 (by decide), e 0 0 (by decide), h0]; exact r2, ⟨by rw [e5, hc]; exact r3.1, fun j hj => ?_⟩, fun i hi => ?_, by rw [sO_same]; exact hr⟩
  · rw [e5] at hj
    rw [e 1 _ (by decide), e 0 _ (by decide), h1]
    exact r3.2 j hj
  · rw [e 4 0 (by decide), e 1 _ (by decide), e 0 _ (by decide), h3, h4]
    exact r4 i hi
theorem keM_c (N : Mem) (k g : Nat) : (keM N k).1 1 g = if g = 9 + k then N.1 1 0 else N.1 1 g := by
  unfold keM
  rw [sA, sO_kind _ _ _ _ (by decide), sO_kind _ _ _ _ (by decide)]
  by_cases h : g = 9 + k
  · subst h; rw [sO_same, if_pos rfl]
  · rw [sO_idx _ _ _ _ h, if_neg h]
theorem keM_b (N : Mem) (k g : Nat) : (keM N k).1 0 g = if g = 9 + k then N.1 0 0 else N.1 0 g := by
  unfold keM
  rw [sA, sO_kind _ _ _ _ (by decide)]
  by_cases h : g = 9 + k
  · subst h; rw [sO_same, if_pos rfl]
  · rw [sO_idx _ _ _ _ h, if_neg h, sO_kind _ _ _ _ (by decide)]
theorem keM_4 (N : Mem) (k : Nat) : (keM N k).1 4 0 = oA (N.1 4 0) 4 (upd ((N.1 4 0).2 4) k 1) := by
  unfold keM
  rw [sA, sO_same]
  rw [show (sO (sO N 1 (9 + k) (N.1 1 0)) 0 (9 + k) (N.1 0 0)).1 4 0 = N.1 4 0 from by rw [sO_kind _ _ _ _ (by decide), sO_kind _ _ _ _ (by decide)]]
theorem keM_3 (N : Mem) (k : Nat) : (keM N k).1 3 0 = N.1 3 0 := by
  unfold keM
  rw [sA, sO_kind _ _ _ _ (by decide), sO_kind _ _ _ _ (by decide), sO_kind _ _ _ _ (by decide)]
theorem RI_keep {N : Mem} {R R' : OV} (h : RI N R) {k : Nat} (hk : k < 2) (h0 : R'.2 0 = R.2 0) (h1 : R'.2 1 = R.2 1) (h3 : R'.2 3 = cpyF (R.2 3) (130 * k) (R.2 0) 130) (h4 : R'.2 4 = upd (R.2 4) k 1) (hc : R'.1 = R.1) (h5 : R'.2 5 = R.2 5) : RI (keM N k) R' := by
  obtain ⟨⟨q1, q2, q3, q4⟩, r2, r3, r4, r5⟩ := h
  have e4 := keM_4 N k
  have e5 : unN (keM N k) = unN N := by
    show (((keM N k).1 4 0).1 2).toNatClampNeg = _
    rw [e4]
    rfl
  have e6 : (keM N k).2 = N.2 := rfl
  refine ⟨⟨⟨by rw [e4, e5]; exact q1.1, by rw [e5]; exact q1.2.1, by rw [e6]; exact q1.2.2⟩, fun g hg => ?_, fun g hg => ?_, by rw [keM_3]; exact q4⟩, ?_, ⟨by rw [e5, hc]; exact r3.1, fun j hj => ?_⟩, fun i hi => ?_, ?_⟩
  · rw [keM_c]
    split
    · exact q2 0 (by decide)
    · exact q2 g hg
  · rw [keM_b]
    split
    · exact q3 0 (by decide)
    · exact q3 g hg
  · rw [keM_c, keM_b, if_neg (by omega), if_neg (by omega), h0]
    exact r2
  · rw [e5] at hj
    have hu := q1.2.1
    have := q1.2.2.1 j (by omega)
    rw [e6, keM_c, keM_b, if_neg (by omega), if_neg (by omega), h1]
    exact r3.2 j hj
  · rw [e4, keM_c, keM_b, h3, h4, oA_w]
    by_cases hik : i = k
    · subst hik
      rw [upd_same, upd_same, if_pos rfl, if_pos rfl]
      exact ⟨rfl, fun _ => RW_congr r2 (fun m hm => cpyF_in _ _ _ hm)⟩
    · rw [upd_ne _ _ hik, upd_ne _ _ hik, if_neg (by omega), if_neg (by omega)]
      refine ⟨(r4 i hi).1, fun z => RW_congr ((r4 i hi).2 z) (fun m hm => ?_)⟩
      show cpyF (R.2 3) (130 * k) (R.2 0) 130 (130 * i + m) = _
      unfold cpyF
      rw [if_neg (by omega)]
      rfl
  · rw [keM_3]
    exact ⟨by rw [hc]; exact r5.1, fun j hj => by rw [h5]; exact r5.2.1 j hj, by rw [hc]; exact r5.2.2.1, by rw [hc]; exact r5.2.2.2⟩
theorem wthn_2 {v : Int32} (h : ¬ wthn v 0 1 = 0) : v = nI v.toNatClampNeg ∧ v.toNatClampNeg < 2 := by
  obtain ⟨n, -, h2, h3⟩ := wthn_n (lo := 0) (hi := 1) h (by decide) (by decide)
  have e : v.toNatClampNeg = n := by rw [h3, nI_clamp (by omega)]
  exact ⟨by rw [e]; exact h3, by omega⟩
set_option maxRecDepth 100000 in
set_option maxHeartbeats 4000000 in
theorem c_X5_told {Γ : GT} {M N : Mem} {R : OV} {v : Int32} (hR : RI N R) : Ct Γ yX5_told cX5_told 2 (some .int) 4 [.ref (ad Γ 5 0 0), .int v] (sR M R) (some (.int (fTold N v))) (sR M R) := by
  refine ct_of (by decide) (Nat.le_of_ble_eq_true rfl) (fun K hg hr => ?_)
  show WM Γ K _ [(0, _), (1, _)] 0 []
  have hz : ok10 (N.1 1 0) := hR.1.2.1 0 (by decide)
  have hz1 := hz.1
  have hz2 := hz.2
  have hC := hR.2.1.1.2.1
  have hBB := hR.2.1.1.2.2
  have hG := hR.2.1.2
  have hT := hR.2.2.2.2
  have hX0 : R.2 0 0 = (N.1 1 0).1 0 := hC.1
  have hun := hR.2.2.1.1.trans hR.1.1.1.symm
  refine wm_iload_n (q := 1) (i := 1) hg dX5_told_0 rfl rfl rfl ?_
  by_cases hk0 : v = 0
  · subst hk0
    refine wm_tableIn (q := 80) hg dX5_told_1 (by decide) (by decide) rfl (by decide) ?_
    refine wm_aload_n (q := 81) (i := 0) hg dX5_told_80 rfl rfl rfl ?_
    refine wm_get (q := 84) hg dX5_told_81 rfl fl_X5_7 (by first | assumption | decide | omega | (simp only [nO]; omega)) rfl ?_
    refine wm_iconst (q := 85) 0 hg dX5_told_84 rfl (by decide) ?_
    refine wm_rload (q := 86) 0 hg dX5_told_85 rfl rfl (rfl : (0 : Int32) = nI 0) (by simp only [alen]; omega) ?_
    exact wm_iret hg hr dX5_told_86 (hX0) (rfl)
  · by_cases hk1 : v = 1
    · subst hk1
      refine wm_tableIn (q := 87) hg dX5_told_1 (by decide) (by decide) rfl (by decide) ?_
      refine wm_aload_n (q := 88) (i := 0) hg dX5_told_87 rfl rfl rfl ?_
      refine wm_callV1 (q := 91) hg dX5_told_88 rfl lk_X5_95 (by first | decide | omega) (c_X5_energy (X := N.1 1 0) hz hC) (by first | assumption | decide | omega | (simp only [nO]; omega)) ⟨rfl, by decide⟩ rfl rfl (Nat.le_of_ble_eq_true rfl) ?_
      exact wm_iret hg hr dX5_told_91 (rfl) (rfl)
    · by_cases hk2 : v = 2
      · subst hk2
        refine wm_tableIn (q := 92) hg dX5_told_1 (by decide) (by decide) rfl (by decide) ?_
        refine wm_aload_n (q := 93) (i := 0) hg dX5_told_92 rfl rfl rfl ?_
        refine wm_get (q := 96) hg dX5_told_93 rfl fl_X5_7 (by first | assumption | decide | omega | (simp only [nO]; omega)) rfl ?_
        refine wm_bipush (q := 98) 35 hg dX5_told_96 rfl (by decide) ?_
        refine wm_rload (q := 99) 35 hg dX5_told_98 rfl rfl (rfl : (35 : Int32) = nI 35) (by simp only [alen]; omega) ?_
        exact wm_iret hg hr dX5_told_99 (hBB.2.1) (rfl)
      · by_cases hk3 : v = 3
        · subst hk3
          refine wm_tableIn (q := 100) hg dX5_told_1 (by decide) (by decide) rfl (by decide) ?_
          refine wm_aload_n (q := 101) (i := 0) hg dX5_told_100 rfl rfl rfl ?_
          refine wm_get (q := 104) hg dX5_told_101 rfl fl_X5_7 (by first | assumption | decide | omega | (simp only [nO]; omega)) rfl ?_
          refine wm_bipush (q := 106) 36 hg dX5_told_104 rfl (by decide) ?_
          refine wm_rload (q := 107) 36 hg dX5_told_106 rfl rfl (rfl : (36 : Int32) = nI 36) (by simp only [alen]; omega) ?_
          exact wm_iret hg hr dX5_told_107 (hBB.2.2.1) (rfl)
        · by_cases hk4 : v = 4
          · subst hk4
            refine wm_tableIn (q := 108) hg dX5_told_1 (by decide) (by decide) rfl (by decide) ?_
            refine wm_aload_n (q := 109) (i := 0) hg dX5_told_108 rfl rfl rfl ?_
            refine wm_get (q := 112) hg dX5_told_109 rfl fl_X5_7 (by first | assumption | decide | omega | (simp only [nO]; omega)) rfl ?_
            refine wm_bipush (q := 114) 31 hg dX5_told_112 rfl (by decide) ?_
            refine wm_rload (q := 115) 31 hg dX5_told_114 rfl rfl (rfl : (31 : Int32) = nI 31) (by simp only [alen]; omega) ?_
            exact wm_iret hg hr dX5_told_115 (hC.2.2.1) (rfl)
          · by_cases hk5 : v = 5
            · subst hk5
              refine wm_tableIn (q := 116) hg dX5_told_1 (by decide) (by decide) rfl (by decide) ?_
              refine wm_aload_n (q := 117) (i := 0) hg dX5_told_116 rfl rfl rfl ?_
              refine wm_get (q := 120) hg dX5_told_117 rfl fl_X5_7 (by first | assumption | decide | omega | (simp only [nO]; omega)) rfl ?_
              refine wm_bipush (q := 122) 32 hg dX5_told_120 rfl (by decide) ?_
              refine wm_rload (q := 123) 32 hg dX5_told_122 rfl rfl (rfl : (32 : Int32) = nI 32) (by simp only [alen]; omega) ?_
              exact wm_iret hg hr dX5_told_123 (hC.2.2.2.1) (rfl)
            · by_cases hk6 : v = 6
              · subst hk6
                refine wm_tableIn (q := 124) hg dX5_told_1 (by decide) (by decide) rfl (by decide) ?_
                refine wm_aload_n (q := 125) (i := 0) hg dX5_told_124 rfl rfl rfl ?_
                refine wm_get (q := 128) hg dX5_told_125 rfl fl_X5_7 (by first | assumption | decide | omega | (simp only [nO]; omega)) rfl ?_
                refine wm_bipush (q := 130) 33 hg dX5_told_128 rfl (by decide) ?_
                refine wm_rload (q := 131) 33 hg dX5_told_130 rfl rfl (rfl : (33 : Int32) = nI 33) (by simp only [alen]; omega) ?_
                exact wm_iret hg hr dX5_told_131 (hG.1) (rfl)
              · by_cases hk7 : v = 7
                · subst hk7
                  refine wm_tableIn (q := 132) hg dX5_told_1 (by decide) (by decide) rfl (by decide) ?_
                  refine wm_aload_n (q := 133) (i := 0) hg dX5_told_132 rfl rfl rfl ?_
                  refine wm_get (q := 136) hg dX5_told_133 rfl fl_X5_7 (by first | assumption | decide | omega | (simp only [nO]; omega)) rfl ?_
                  refine wm_bipush (q := 138) 34 hg dX5_told_136 rfl (by decide) ?_
                  refine wm_rload (q := 139) 34 hg dX5_told_138 rfl rfl (rfl : (34 : Int32) = nI 34) (by simp only [alen]; omega) ?_
                  exact wm_iret hg hr dX5_told_139 (hG.2) (rfl)
                · by_cases hk8 : v = 8
                  · subst hk8
                    refine wm_tableIn (q := 140) hg dX5_told_1 (by decide) (by decide) rfl (by decide) ?_
                    refine wm_aload_n (q := 141) (i := 0) hg dX5_told_140 rfl rfl rfl ?_
                    refine wm_get (q := 144) hg dX5_told_141 rfl fl_X5_7 (by first | assumption | decide | omega | (simp only [nO]; omega)) rfl ?_
                    refine wm_bipush (q := 146) 37 hg dX5_told_144 rfl (by decide) ?_
                    refine wm_rload (q := 147) 37 hg dX5_told_146 rfl rfl (rfl : (37 : Int32) = nI 37) (by simp only [alen]; omega) ?_
                    exact wm_iret hg hr dX5_told_147 (hBB.2.2.2.1) (rfl)
                  · by_cases hk9 : v = 9
                    · subst hk9
                      refine wm_tableIn (q := 148) hg dX5_told_1 (by decide) (by decide) rfl (by decide) ?_
                      refine wm_aload_n (q := 149) (i := 0) hg dX5_told_148 rfl rfl rfl ?_
                      refine wm_get (q := 152) hg dX5_told_149 rfl fl_X5_7 (by first | assumption | decide | omega | (simp only [nO]; omega)) rfl ?_
                      refine wm_bipush (q := 154) 38 hg dX5_told_152 rfl (by decide) ?_
                      refine wm_rload (q := 155) 38 hg dX5_told_154 rfl rfl (rfl : (38 : Int32) = nI 38) (by simp only [alen]; omega) ?_
                      exact wm_iret hg hr dX5_told_155 (hBB.2.2.2.2.1) (rfl)
                    · by_cases hk10 : v = 10
                      · subst hk10
                        refine wm_tableIn (q := 156) hg dX5_told_1 (by decide) (by decide) rfl (by decide) ?_
                        refine wm_aload_n (q := 157) (i := 0) hg dX5_told_156 rfl rfl rfl ?_
                        refine wm_get (q := 160) hg dX5_told_157 rfl fl_X5_7 (by first | assumption | decide | omega | (simp only [nO]; omega)) rfl ?_
                        refine wm_bipush (q := 162) 39 hg dX5_told_160 rfl (by decide) ?_
                        refine wm_rload (q := 163) 39 hg dX5_told_162 rfl rfl (rfl : (39 : Int32) = nI 39) (by simp only [alen]; omega) ?_
                        exact wm_iret hg hr dX5_told_163 (hBB.2.2.2.2.2.1) (rfl)
                      · by_cases hk11 : v = 11
                        · subst hk11
                          refine wm_tableIn (q := 164) hg dX5_told_1 (by decide) (by decide) rfl (by decide) ?_
                          refine wm_aload_n (q := 165) (i := 0) hg dX5_told_164 rfl rfl rfl ?_
                          refine wm_callV1 (q := 168) hg dX5_told_165 rfl lk_X5_123 (by first | decide | omega) (c_X5_walls (X := N.1 1 0) hz hC) (by first | assumption | decide | omega | (simp only [nO]; omega)) ⟨rfl, by decide⟩ rfl rfl (Nat.le_of_ble_eq_true rfl) ?_
                          exact wm_iret hg hr dX5_told_168 (rfl) (rfl)
                        · by_cases hk12 : v = 12
                          · subst hk12
                            refine wm_tableIn (q := 169) hg dX5_told_1 (by decide) (by decide) rfl (by decide) ?_
                            refine wm_aload_n (q := 170) (i := 0) hg dX5_told_169 rfl rfl rfl ?_
                            refine wm_callV1 (q := 173) hg dX5_told_170 rfl lk_X5_126 (by first | decide | omega) (c_X5_unsolved (X := N.1 1 0) hz hC) (by first | assumption | decide | omega | (simp only [nO]; omega)) ⟨rfl, by decide⟩ rfl rfl (Nat.le_of_ble_eq_true rfl) ?_
                            exact wm_iret hg hr dX5_told_173 (rfl) (rfl)
                          · by_cases hk13 : v = 13
                            · subst hk13
                              refine wm_tableIn (q := 174) hg dX5_told_1 (by decide) (by decide) rfl (by decide) ?_
                              refine wm_aload_n (q := 175) (i := 0) hg dX5_told_174 rfl rfl rfl ?_
                              refine wm_callV1 (q := 178) hg dX5_told_175 rfl lk_X5_129 (by first | decide | omega) (c_X5_held (X := N.1 1 0) hz hC) (by first | assumption | decide | omega | (simp only [nO]; omega)) ⟨rfl, by decide⟩ rfl rfl (Nat.le_of_ble_eq_true rfl) ?_
                              exact wm_iret hg hr dX5_told_178 (rfl) (rfl)
                            · by_cases hk14 : v = 14
                              · subst hk14
                                refine wm_tableIn (q := 179) hg dX5_told_1 (by decide) (by decide) rfl (by decide) ?_
                                refine wm_aload_n (q := 180) (i := 0) hg dX5_told_179 rfl rfl rfl ?_
                                refine wm_rget (q := 183) hg dX5_told_180 rfl fl_X5_132 rfl ?_
                                exact wm_iret hg hr dX5_told_183 (hT.1) (rfl)
                              · by_cases hk15 : v = 15
                                · subst hk15
                                  refine wm_tableIn (q := 184) hg dX5_told_1 (by decide) (by decide) rfl (by decide) ?_
                                  refine wm_aload_n (q := 185) (i := 0) hg dX5_told_184 rfl rfl rfl ?_
                                  refine wm_rget (q := 188) hg dX5_told_185 rfl fl_X5_56 rfl ?_
                                  exact wm_iret hg hr dX5_told_188 (hun) (rfl)
                                · have hj0 : v.toInt ≠ 0 := fun z => hk0 (Int32.toInt_inj.mp (z.trans (by decide)))
                                  have hj1 : v.toInt ≠ 1 := fun z => hk1 (Int32.toInt_inj.mp (z.trans (by decide)))
                                  have hj2 : v.toInt ≠ 2 := fun z => hk2 (Int32.toInt_inj.mp (z.trans (by decide)))
                                  have hj3 : v.toInt ≠ 3 := fun z => hk3 (Int32.toInt_inj.mp (z.trans (by decide)))
                                  have hj4 : v.toInt ≠ 4 := fun z => hk4 (Int32.toInt_inj.mp (z.trans (by decide)))
                                  have hj5 : v.toInt ≠ 5 := fun z => hk5 (Int32.toInt_inj.mp (z.trans (by decide)))
                                  have hj6 : v.toInt ≠ 6 := fun z => hk6 (Int32.toInt_inj.mp (z.trans (by decide)))
                                  have hj7 : v.toInt ≠ 7 := fun z => hk7 (Int32.toInt_inj.mp (z.trans (by decide)))
                                  have hj8 : v.toInt ≠ 8 := fun z => hk8 (Int32.toInt_inj.mp (z.trans (by decide)))
                                  have hj9 : v.toInt ≠ 9 := fun z => hk9 (Int32.toInt_inj.mp (z.trans (by decide)))
                                  have hj10 : v.toInt ≠ 10 := fun z => hk10 (Int32.toInt_inj.mp (z.trans (by decide)))
                                  have hj11 : v.toInt ≠ 11 := fun z => hk11 (Int32.toInt_inj.mp (z.trans (by decide)))
                                  have hj12 : v.toInt ≠ 12 := fun z => hk12 (Int32.toInt_inj.mp (z.trans (by decide)))
                                  have hj13 : v.toInt ≠ 13 := fun z => hk13 (Int32.toInt_inj.mp (z.trans (by decide)))
                                  have hj14 : v.toInt ≠ 14 := fun z => hk14 (Int32.toInt_inj.mp (z.trans (by decide)))
                                  have hj15 : v.toInt ≠ 15 := fun z => hk15 (Int32.toInt_inj.mp (z.trans (by decide)))
                                  refine wm_tableOut (q := 189) hg dX5_told_1 (by omega) (by decide) ?_
                                  refine wm_ldc (q := 191) (-1000000001) hg dX5_told_189 rfl ld_X5_102 ?_
                                  exact wm_iret hg hr dX5_told_191 (by simp only [fTold, if_neg hk0, if_neg hk1, if_neg hk2, if_neg hk3, if_neg hk4, if_neg hk5, if_neg hk6, if_neg hk7, if_neg hk8, if_neg hk9, if_neg hk10, if_neg hk11, if_neg hk12, if_neg hk13, if_neg hk14, if_neg hk15]) (rfl)
set_option maxRecDepth 100000 in
set_option maxHeartbeats 4000000 in
theorem c_X5_magnet {Γ : GT} {M N : Mem} {R : OV} {i v : Int32} (hR : RI N R) : Ct Γ yX5_magnet cX5_magnet 3 (some .int) 5 [.ref (ad Γ 5 0 0), .int i, .int v] (sR M R) (some (.int (fMag N i v))) (sR M R) := by
  refine ct_of (by decide) (Nat.le_of_ble_eq_true rfl) (fun K hg hr => ?_)
  show WM Γ K _ [(0, _), (1, _), (2, _)] 0 []
  have hz : ok10 (N.1 1 0) := hR.1.2.1 0 (by decide)
  have hz1 := hz.1
  have hz2 := hz.2
  have hC := hR.2.1.1.2.1
  have hBB := hR.2.1.1.2.2
  have hG := hR.2.1.2
  have hT := hR.2.2.2.2
  have hX0 : R.2 0 0 = (N.1 1 0).1 0 := hC.1
  have hun := hR.2.2.1.1.trans hR.1.1.1.symm
  refine wm_aload_n (q := 1) (i := 0) hg dX5_magnet_0 rfl rfl rfl ?_
  refine wm_iload_n (q := 2) (i := 1) hg dX5_magnet_1 rfl rfl rfl ?_
  refine wm_callV1 (q := 5) hg dX5_magnet_2 rfl lk_X5_64 (by first | decide | omega) c_X5_isMagnet (by first | assumption | decide | omega | (simp only [nO]; omega)) ⟨rfl, by decide⟩ rfl rfl (Nat.le_of_ble_eq_true rfl) ?_
  refine wm_if_eq (q := 17) (q2 := 8) hg dX5_magnet_5 (by decide) rfl (fun h1 => ?_) (fun h1 => ?_)
  · rw [hX0] at h1
    refine wm_ldc (q := 19) (-1000000001) hg dX5_magnet_17 rfl ld_X5_102 ?_
    exact wm_iret hg hr dX5_magnet_19 (by unfold fMag; rw [if_pos h1]) (rfl)
  · rw [hX0] at h1
    obtain ⟨e1, e2, e3⟩ := wthn_sz hz h1
    refine wm_iload_n (q := 9) (i := 2) hg dX5_magnet_8 rfl rfl rfl ?_
    refine wm_iconst (q := 10) 0 hg dX5_magnet_9 rfl (by decide) ?_
    refine wm_iconst (q := 11) 5 hg dX5_magnet_10 rfl (by decide) ?_
    refine wm_callS1 (q := 14) hg dX5_magnet_11 rfl lk_X5_52 (by first | decide | omega) c_X5_isIn rfl rfl (Nat.le_of_ble_eq_true rfl) ?_
    refine wm_if_ne (q := 20) (q2 := 17) hg dX5_magnet_14 (by decide) rfl (fun h2 => ?_) (fun h2 => ?_)
    · have hh := hC.2.1 _ e2
      refine wm_iload_n (q := 21) (i := 2) hg dX5_magnet_20 rfl rfl rfl ?_
      obtain ⟨c, -, hc, rfl⟩ := wthn_n (lo := 0) (hi := 5) h2 (by decide) (by decide)
      rcases (show c = 0 ∨ c = 1 ∨ c = 2 ∨ c = 3 ∨ c = 4 ∨ c = 5 by omega) with rfl | rfl | rfl | rfl | rfl | rfl
      · refine wm_tableIn (q := 56) hg dX5_magnet_21 (by decide) (by decide) rfl (by decide) ?_
        refine wm_aload_n (q := 57) (i := 0) hg dX5_magnet_56 rfl rfl rfl ?_
        refine wm_iload_n (q := 58) (i := 1) hg dX5_magnet_57 rfl rfl rfl ?_
        refine wm_callV1 (q := 61) hg dX5_magnet_58 rfl lk_X5_68 (by first | decide | omega) (c_X5_angle e1 (by omega)) (by first | assumption | decide | omega | (simp only [nO]; omega)) ⟨rfl, by decide⟩ rfl rfl (Nat.le_of_ble_eq_true rfl) ?_
        exact wm_iret hg hr dX5_magnet_61 (by unfold fMag; rw [if_neg h1]; exact (hh.1)) (rfl)
      · refine wm_tableIn (q := 62) hg dX5_magnet_21 (by decide) (by decide) rfl (by decide) ?_
        refine wm_aload_n (q := 63) (i := 0) hg dX5_magnet_62 rfl rfl rfl ?_
        refine wm_get (q := 66) hg dX5_magnet_63 rfl fl_X5_7 (by first | assumption | decide | omega | (simp only [nO]; omega)) rfl ?_
        refine wm_bipush (q := 68) 11 hg dX5_magnet_66 rfl (by decide) ?_
        refine wm_iload_n (q := 69) (i := 1) hg dX5_magnet_68 rfl rfl rfl ?_
        refine wm_iadd (q := 70) hg dX5_magnet_69 rfl ?_
        refine wm_rload (q := 71) (11 + i.toNatClampNeg) hg dX5_magnet_70 rfl rfl (nadd (a := 11) (b := i.toNatClampNeg) (rfl : (11 : Int32) = nI 11) e1) (by simp only [alen]; omega) ?_
        exact wm_iret hg hr dX5_magnet_71 (by unfold fMag; rw [if_neg h1]; exact (hh.2.1)) (rfl)
      · refine wm_tableIn (q := 72) hg dX5_magnet_21 (by decide) (by decide) rfl (by decide) ?_
        refine wm_aload_n (q := 73) (i := 0) hg dX5_magnet_72 rfl rfl rfl ?_
        refine wm_get (q := 76) hg dX5_magnet_73 rfl fl_X5_7 (by first | assumption | decide | omega | (simp only [nO]; omega)) rfl ?_
        refine wm_bipush (q := 78) 21 hg dX5_magnet_76 rfl (by decide) ?_
        refine wm_iload_n (q := 79) (i := 1) hg dX5_magnet_78 rfl rfl rfl ?_
        refine wm_iadd (q := 80) hg dX5_magnet_79 rfl ?_
        refine wm_rload (q := 81) (21 + i.toNatClampNeg) hg dX5_magnet_80 rfl rfl (nadd (a := 21) (b := i.toNatClampNeg) (rfl : (21 : Int32) = nI 21) e1) (by simp only [alen]; omega) ?_
        exact wm_iret hg hr dX5_magnet_81 (by unfold fMag; rw [if_neg h1]; exact (hh.2.2)) (rfl)
      · refine wm_tableIn (q := 82) hg dX5_magnet_21 (by decide) (by decide) rfl (by decide) ?_
        refine wm_aload_n (q := 83) (i := 0) hg dX5_magnet_82 rfl rfl rfl ?_
        refine wm_iload_n (q := 84) (i := 1) hg dX5_magnet_83 rfl rfl rfl ?_
        refine wm_iconst (q := 85) 1 hg dX5_magnet_84 rfl (by decide) ?_
        refine wm_callV1 (q := 88) hg dX5_magnet_85 rfl lk_X5_88 (by first | decide | omega) (c_X5_free (X := N.1 1 0) hR.2.1.1.1 hC e1 e2 (by decide)) (by first | assumption | decide | omega | (simp only [nO]; omega)) ⟨rfl, by decide⟩ rfl rfl (Nat.le_of_ble_eq_true rfl) ?_
        exact wm_iret hg hr dX5_magnet_88 (by unfold fMag; rw [if_neg h1]; exact (rfl)) (rfl)
      · refine wm_tableIn (q := 89) hg dX5_magnet_21 (by decide) (by decide) rfl (by decide) ?_
        refine wm_aload_n (q := 90) (i := 0) hg dX5_magnet_89 rfl rfl rfl ?_
        refine wm_iload_n (q := 91) (i := 1) hg dX5_magnet_90 rfl rfl rfl ?_
        refine wm_iconst (q := 92) (-1) hg dX5_magnet_91 rfl (by decide) ?_
        refine wm_callV1 (q := 95) hg dX5_magnet_92 rfl lk_X5_88 (by first | decide | omega) (c_X5_free (X := N.1 1 0) hR.2.1.1.1 hC e1 e2 (by decide)) (by first | assumption | decide | omega | (simp only [nO]; omega)) ⟨rfl, by decide⟩ rfl rfl (Nat.le_of_ble_eq_true rfl) ?_
        exact wm_iret hg hr dX5_magnet_95 (by unfold fMag; rw [if_neg h1]; exact (rfl)) (rfl)
      · refine wm_tableOut (q := 96) hg dX5_magnet_21 (by decide) (by decide) ?_
        refine wm_aload_n (q := 97) (i := 0) hg dX5_magnet_96 rfl rfl rfl ?_
        refine wm_iload_n (q := 98) (i := 1) hg dX5_magnet_97 rfl rfl rfl ?_
        refine wm_aload_n (q := 99) (i := 0) hg dX5_magnet_98 rfl rfl rfl ?_
        refine wm_iload_n (q := 100) (i := 1) hg dX5_magnet_99 rfl rfl rfl ?_
        refine wm_callV1 (q := 103) hg dX5_magnet_100 rfl lk_X5_68 (by first | decide | omega) (c_X5_angle e1 (by omega)) (by first | assumption | decide | omega | (simp only [nO]; omega)) ⟨rfl, by decide⟩ rfl rfl (Nat.le_of_ble_eq_true rfl) ?_
        refine wm_callV1 (q := 106) hg dX5_magnet_103 rfl lk_X5_82 (by first | decide | omega) (c_X5_part (X := N.1 1 0) hz hC e1 (by omega)) (by first | assumption | decide | omega | (simp only [nO]; omega)) ⟨rfl, by decide⟩ rfl rfl (Nat.le_of_ble_eq_true rfl) ?_
        exact wm_iret hg hr dX5_magnet_106 (by unfold fMag; rw [if_neg h1, hh.1, ← e1]; rfl) (rfl)
    · refine wm_ldc (q := 19) (-1000000001) hg dX5_magnet_17 rfl ld_X5_102 ?_
      exact wm_iret hg hr dX5_magnet_19 (by unfold fMag; rw [if_neg h1, if_neg (wthn_out h2 (by decide)), if_neg (wthn_out h2 (by decide)), if_neg (wthn_out h2 (by decide)), if_neg (wthn_out h2 (by decide)), if_neg (wthn_out h2 (by decide)), if_neg (wthn_out h2 (by decide))]) (rfl)
set_option maxRecDepth 100000 in
set_option maxHeartbeats 4000000 in
theorem c_X5_log {Γ : GT} {M N : Mem} {R : OV} {k v : Int32} (hR : RI N R) : Ct Γ yX5_log cX5_log 3 (some .int) 2 [.ref (ad Γ 5 0 0), .int k, .int v] (sR M R) (some (.int (fLog N k v))) (sR M R) := by
  refine ct_of (by decide) (Nat.le_of_ble_eq_true rfl) (fun K hg hr => ?_)
  show WM Γ K _ [(0, _), (1, _), (2, _)] 0 []
  have hz : ok10 (N.1 1 0) := hR.1.2.1 0 (by decide)
  have hz1 := hz.1
  have hz2 := hz.2
  have hC := hR.2.1.1.2.1
  have hBB := hR.2.1.1.2.2
  have hG := hR.2.1.2
  have hT := hR.2.2.2.2
  have hX0 : R.2 0 0 = (N.1 1 0).1 0 := hC.1
  have hun := hR.2.2.1.1.trans hR.1.1.1.symm
  refine wm_iload_n (q := 1) (i := 1) hg dX5_log_0 rfl rfl rfl ?_
  refine wm_if_lt (q := 13) (q2 := 4) hg dX5_log_1 (by decide) rfl (fun h1 => ?_) (fun h1 => ?_)
  · refine wm_ldc (q := 15) (-1000000001) hg dX5_log_13 rfl ld_X5_102 ?_
    exact wm_iret hg hr dX5_log_15 (by unfold fLog; rw [if_pos h1]) (rfl)
  · refine wm_iload_n (q := 5) (i := 2) hg dX5_log_4 rfl rfl rfl ?_
    refine wm_iconst (q := 6) 0 hg dX5_log_5 rfl (by decide) ?_
    refine wm_iconst (q := 7) 2 hg dX5_log_6 rfl (by decide) ?_
    refine wm_callS1 (q := 10) hg dX5_log_7 rfl lk_X5_52 (by first | decide | omega) c_X5_isIn rfl rfl (Nat.le_of_ble_eq_true rfl) ?_
    refine wm_if_ne (q := 16) (q2 := 13) hg dX5_log_10 (by decide) rfl (fun h2 => ?_) (fun h2 => ?_)
    · refine wm_iload_n (q := 17) (i := 1) hg dX5_log_16 rfl rfl rfl ?_
      refine wm_aload_n (q := 18) (i := 0) hg dX5_log_17 rfl rfl rfl ?_
      refine wm_get (q := 21) hg dX5_log_18 rfl fl_X5_7 (by first | assumption | decide | omega | (simp only [nO]; omega)) rfl ?_
      refine wm_bipush (q := 23) 39 hg dX5_log_21 rfl (by decide) ?_
      refine wm_rload (q := 24) 39 hg dX5_log_23 rfl rfl (rfl : (39 : Int32) = nI 39) (by simp only [alen]; omega) ?_
      refine wm_icmp_ge (q := 53) (q2 := 27) hg dX5_log_24 (by decide) rfl (fun h3 => ?_) (fun h3 => ?_)
      · rw [hBB.2.2.2.2.2.1] at h3
        refine wm_ldc (q := 55) (-1000000009) hg dX5_log_53 rfl ld_X5_25 ?_
        exact wm_iret hg hr dX5_log_55 (by unfold fLog; rw [if_neg h1, if_neg h2, if_neg (Int32.not_lt.mpr h3)]) (rfl)
      · rw [hBB.2.2.2.2.2.1] at h3
        have hB := hBB.1
        have hB2 := hB.2
        have hk := nI_self h1
        have hkl : k.toNatClampNeg < lgN (N.1 0 0) := clampLt hB.1 (by omega) h1 h3
        have hlg : R.2 0 39 = nI (lgN (N.1 0 0)) := hBB.2.2.2.2.2.1.trans hB.1
        have hq := hBB.2.2.2.2.2.2 (lgN (N.1 0 0) - 1 - k.toNatClampNeg) (by omega)
        have hlt := Int32.not_le.mp h3
        obtain ⟨c, -, hc, rfl⟩ := wthn_n (lo := 0) (hi := 2) h2 (by decide) (by decide)
        rcases (show c = 0 ∨ c = 1 ∨ c = 2 by omega) with rfl | rfl | rfl
        · refine wm_aload_n (q := 28) (i := 0) hg dX5_log_27 rfl rfl rfl ?_
          refine wm_get (q := 31) hg dX5_log_28 rfl fl_X5_7 (by first | assumption | decide | omega | (simp only [nO]; omega)) rfl ?_
          refine wm_bipush (q := 33) 40 hg dX5_log_31 rfl (by decide) ?_
          refine wm_iconst (q := 34) 3 hg dX5_log_33 rfl (by decide) ?_
          refine wm_aload_n (q := 35) (i := 0) hg dX5_log_34 rfl rfl rfl ?_
          refine wm_get (q := 38) hg dX5_log_35 rfl fl_X5_7 (by first | assumption | decide | omega | (simp only [nO]; omega)) rfl ?_
          refine wm_bipush (q := 40) 39 hg dX5_log_38 rfl (by decide) ?_
          refine wm_rload (q := 41) 39 hg dX5_log_40 rfl rfl (rfl : (39 : Int32) = nI 39) (by simp only [alen]; omega) ?_
          refine wm_iconst (q := 42) 1 hg dX5_log_41 rfl (by decide) ?_
          refine wm_isub (q := 43) hg dX5_log_42 rfl ?_
          refine wm_iload_n (q := 44) (i := 1) hg dX5_log_43 rfl rfl rfl ?_
          refine wm_isub (q := 45) hg dX5_log_44 rfl ?_
          refine wm_imul (q := 46) hg dX5_log_45 rfl ?_
          refine wm_iadd (q := 47) hg dX5_log_46 rfl ?_
          refine wm_iload_n (q := 48) (i := 2) hg dX5_log_47 rfl rfl rfl ?_
          refine wm_iadd (q := 49) hg dX5_log_48 rfl ?_
          refine wm_rload (q := 50) ((40 + (3 * (((lgN (N.1 0 0)) - 1) - k.toNatClampNeg))) + 0) hg dX5_log_49 rfl rfl (nadd (a := (40 + (3 * (((lgN (N.1 0 0)) - 1) - k.toNatClampNeg)))) (b := 0) (nadd (a := 40) (b := (3 * (((lgN (N.1 0 0)) - 1) - k.toNatClampNeg))) (rfl : (40 : Int32) = nI 40) (nmul (a := 3) (b := (((lgN (N.1 0 0)) - 1) - k.toNatClampNeg)) (rfl : (3 : Int32) = nI 3) (nsub (a := ((lgN (N.1 0 0)) - 1)) (b := k.toNatClampNeg) (nsub (a := (lgN (N.1 0 0))) (b := 1) hlg (rfl : (1 : Int32) = nI 1) (by omega)) hk (by omega)))) rfl) (by simp only [alen]; omega) ?_
          refine wm_goto (q := 55) hg dX5_log_50 (by decide) ?_
          exact wm_iret hg hr dX5_log_55 (by unfold fLog; rw [if_neg h1, if_neg h2, if_pos hlt]; exact hq.1) (rfl)
        · refine wm_aload_n (q := 28) (i := 0) hg dX5_log_27 rfl rfl rfl ?_
          refine wm_get (q := 31) hg dX5_log_28 rfl fl_X5_7 (by first | assumption | decide | omega | (simp only [nO]; omega)) rfl ?_
          refine wm_bipush (q := 33) 40 hg dX5_log_31 rfl (by decide) ?_
          refine wm_iconst (q := 34) 3 hg dX5_log_33 rfl (by decide) ?_
          refine wm_aload_n (q := 35) (i := 0) hg dX5_log_34 rfl rfl rfl ?_
          refine wm_get (q := 38) hg dX5_log_35 rfl fl_X5_7 (by first | assumption | decide | omega | (simp only [nO]; omega)) rfl ?_
          refine wm_bipush (q := 40) 39 hg dX5_log_38 rfl (by decide) ?_
          refine wm_rload (q := 41) 39 hg dX5_log_40 rfl rfl (rfl : (39 : Int32) = nI 39) (by simp only [alen]; omega) ?_
          refine wm_iconst (q := 42) 1 hg dX5_log_41 rfl (by decide) ?_
          refine wm_isub (q := 43) hg dX5_log_42 rfl ?_
          refine wm_iload_n (q := 44) (i := 1) hg dX5_log_43 rfl rfl rfl ?_
          refine wm_isub (q := 45) hg dX5_log_44 rfl ?_
          refine wm_imul (q := 46) hg dX5_log_45 rfl ?_
          refine wm_iadd (q := 47) hg dX5_log_46 rfl ?_
          refine wm_iload_n (q := 48) (i := 2) hg dX5_log_47 rfl rfl rfl ?_
          refine wm_iadd (q := 49) hg dX5_log_48 rfl ?_
          refine wm_rload (q := 50) ((40 + (3 * (((lgN (N.1 0 0)) - 1) - k.toNatClampNeg))) + 1) hg dX5_log_49 rfl rfl (nadd (a := (40 + (3 * (((lgN (N.1 0 0)) - 1) - k.toNatClampNeg)))) (b := 1) (nadd (a := 40) (b := (3 * (((lgN (N.1 0 0)) - 1) - k.toNatClampNeg))) (rfl : (40 : Int32) = nI 40) (nmul (a := 3) (b := (((lgN (N.1 0 0)) - 1) - k.toNatClampNeg)) (rfl : (3 : Int32) = nI 3) (nsub (a := ((lgN (N.1 0 0)) - 1)) (b := k.toNatClampNeg) (nsub (a := (lgN (N.1 0 0))) (b := 1) hlg (rfl : (1 : Int32) = nI 1) (by omega)) hk (by omega)))) rfl) (by simp only [alen]; omega) ?_
          refine wm_goto (q := 55) hg dX5_log_50 (by decide) ?_
          exact wm_iret hg hr dX5_log_55 (by unfold fLog; rw [if_neg h1, if_neg h2, if_pos hlt]; exact hq.2.1) (rfl)
        · refine wm_aload_n (q := 28) (i := 0) hg dX5_log_27 rfl rfl rfl ?_
          refine wm_get (q := 31) hg dX5_log_28 rfl fl_X5_7 (by first | assumption | decide | omega | (simp only [nO]; omega)) rfl ?_
          refine wm_bipush (q := 33) 40 hg dX5_log_31 rfl (by decide) ?_
          refine wm_iconst (q := 34) 3 hg dX5_log_33 rfl (by decide) ?_
          refine wm_aload_n (q := 35) (i := 0) hg dX5_log_34 rfl rfl rfl ?_
          refine wm_get (q := 38) hg dX5_log_35 rfl fl_X5_7 (by first | assumption | decide | omega | (simp only [nO]; omega)) rfl ?_
          refine wm_bipush (q := 40) 39 hg dX5_log_38 rfl (by decide) ?_
          refine wm_rload (q := 41) 39 hg dX5_log_40 rfl rfl (rfl : (39 : Int32) = nI 39) (by simp only [alen]; omega) ?_
          refine wm_iconst (q := 42) 1 hg dX5_log_41 rfl (by decide) ?_
          refine wm_isub (q := 43) hg dX5_log_42 rfl ?_
          refine wm_iload_n (q := 44) (i := 1) hg dX5_log_43 rfl rfl rfl ?_
          refine wm_isub (q := 45) hg dX5_log_44 rfl ?_
          refine wm_imul (q := 46) hg dX5_log_45 rfl ?_
          refine wm_iadd (q := 47) hg dX5_log_46 rfl ?_
          refine wm_iload_n (q := 48) (i := 2) hg dX5_log_47 rfl rfl rfl ?_
          refine wm_iadd (q := 49) hg dX5_log_48 rfl ?_
          refine wm_rload (q := 50) ((40 + (3 * (((lgN (N.1 0 0)) - 1) - k.toNatClampNeg))) + 2) hg dX5_log_49 rfl rfl (nadd (a := (40 + (3 * (((lgN (N.1 0 0)) - 1) - k.toNatClampNeg)))) (b := 2) (nadd (a := 40) (b := (3 * (((lgN (N.1 0 0)) - 1) - k.toNatClampNeg))) (rfl : (40 : Int32) = nI 40) (nmul (a := 3) (b := (((lgN (N.1 0 0)) - 1) - k.toNatClampNeg)) (rfl : (3 : Int32) = nI 3) (nsub (a := ((lgN (N.1 0 0)) - 1)) (b := k.toNatClampNeg) (nsub (a := (lgN (N.1 0 0))) (b := 1) hlg (rfl : (1 : Int32) = nI 1) (by omega)) hk (by omega)))) rfl) (by simp only [alen]; omega) ?_
          refine wm_goto (q := 55) hg dX5_log_50 (by decide) ?_
          exact wm_iret hg hr dX5_log_55 (by unfold fLog; rw [if_neg h1, if_neg h2, if_pos hlt]; exact hq.2.2) (rfl)
    · refine wm_ldc (q := 15) (-1000000001) hg dX5_log_13 rfl ld_X5_102 ?_
      exact wm_iret hg hr dX5_log_15 (by unfold fLog; rw [if_neg h1, if_pos h2]) (rfl)
set_option maxRecDepth 100000 in
set_option maxHeartbeats 4000000 in
theorem c_X5_points {Γ : GT} {M N : Mem} {R : OV} {v : Int32} (hR : RI N R) : Ct Γ yX5_points cX5_points 2 (some .int) 2 [.ref (ad Γ 5 0 0), .int v] (sR M R) (some (.int (fPts N v))) (sR M R) := by
  refine ct_of (by decide) (Nat.le_of_ble_eq_true rfl) (fun K hg hr => ?_)
  show WM Γ K _ [(0, _), (1, _)] 0 []
  have hz : ok10 (N.1 1 0) := hR.1.2.1 0 (by decide)
  have hz1 := hz.1
  have hz2 := hz.2
  have hC := hR.2.1.1.2.1
  have hBB := hR.2.1.1.2.2
  have hG := hR.2.1.2
  have hT := hR.2.2.2.2
  have hX0 : R.2 0 0 = (N.1 1 0).1 0 := hC.1
  have hun := hR.2.2.1.1.trans hR.1.1.1.symm
  refine wm_iload_n (q := 1) (i := 1) hg dX5_points_0 rfl rfl rfl ?_
  refine wm_iconst (q := 2) 0 hg dX5_points_1 rfl (by decide) ?_
  refine wm_bipush (q := 4) 7 hg dX5_points_2 rfl (by decide) ?_
  refine wm_callS1 (q := 7) hg dX5_points_4 rfl lk_X5_52 (by first | decide | omega) c_X5_isIn rfl rfl (Nat.le_of_ble_eq_true rfl) ?_
  refine wm_if_eq (q := 18) (q2 := 10) hg dX5_points_7 (by decide) rfl (fun h1 => ?_) (fun h1 => ?_)
  · refine wm_ldc (q := 20) (-1000000001) hg dX5_points_18 rfl ld_X5_102 ?_
    exact wm_iret hg hr dX5_points_20 (by unfold fPts; exact (if_pos h1).symm) (rfl)
  · refine wm_aload_n (q := 11) (i := 0) hg dX5_points_10 rfl rfl rfl ?_
    refine wm_iload_n (q := 12) (i := 1) hg dX5_points_11 rfl rfl rfl ?_
    refine wm_callV1 (q := 15) hg dX5_points_12 rfl lk_X5_135 (by first | decide | omega) (c_X5_pointsTo (X := N.1 1 0) hz hC) (by first | assumption | decide | omega | (simp only [nO]; omega)) ⟨rfl, by decide⟩ rfl rfl (Nat.le_of_ble_eq_true rfl) ?_
    refine wm_goto (q := 20) hg dX5_points_15 (by decide) ?_
    exact wm_iret hg hr dX5_points_20 (by unfold fPts; exact (if_neg h1).symm) (rfl)
set_option maxRecDepth 100000 in
set_option maxHeartbeats 4000000 in
theorem c_X5_mean {Γ : GT} {M N : Mem} {R : OV} (hR : RI N R) (hn : vf_n32 (fMean N)) : Ct Γ yX5_mean cX5_mean 1 (some .float) 4 [.ref (ad Γ 5 0 0)] (sR M R) (some (.float (fMean N))) (sR M R) := by
  refine ct_of (by decide) (Nat.le_of_ble_eq_true rfl) (fun K hg hr => ?_)
  show WM Γ K _ [(0, _)] 0 []
  have hz : ok10 (N.1 1 0) := hR.1.2.1 0 (by decide)
  have hz1 := hz.1
  have hz2 := hz.2
  have hC := hR.2.1.1.2.1
  have hBB := hR.2.1.1.2.2
  have hG := hR.2.1.2
  have hT := hR.2.2.2.2
  have hX0 : R.2 0 0 = (N.1 1 0).1 0 := hC.1
  have hun := hR.2.2.1.1.trans hR.1.1.1.symm
  refine wm_aload_n (q := 1) (i := 0) hg dX5_mean_0 rfl rfl rfl ?_
  refine wm_callV1 (q := 4) hg dX5_mean_1 rfl lk_X5_95 (by first | decide | omega) (c_X5_energy (X := N.1 1 0) hz hC) (by first | assumption | decide | omega | (simp only [nO]; omega)) ⟨rfl, by decide⟩ rfl rfl (Nat.le_of_ble_eq_true rfl) ?_
  refine wm_i2f (q := 5) hg dX5_mean_4 rfl ?_
  refine wm_aload_n (q := 6) (i := 0) hg dX5_mean_5 rfl rfl rfl ?_
  refine wm_get (q := 9) hg dX5_mean_6 rfl fl_X5_7 (by first | assumption | decide | omega | (simp only [nO]; omega)) rfl ?_
  refine wm_iconst (q := 10) 0 hg dX5_mean_9 rfl (by decide) ?_
  refine wm_rload (q := 11) 0 hg dX5_mean_10 rfl rfl (rfl : (0 : Int32) = nI 0) (by simp only [alen]; omega) ?_
  refine wm_i2f (q := 12) hg dX5_mean_11 rfl ?_
  refine wm_fdiv (q := 13) hg dX5_mean_12 rfl (by rw [hX0]; exact hn) ?_
  exact wm_fret hg hr dX5_mean_13 (by unfold fMean; rw [hX0]) (rfl)
set_option maxRecDepth 100000 in
set_option maxHeartbeats 4000000 in
theorem c_X5_fault {Γ : GT} {M N : Mem} {R : OV} {v : Int32} (hR : RI N R) : Ct Γ yX5_fault cX5_fault 2 (some .int) 1 [.ref (ad Γ 5 0 0), .int v] (sR M R) (some (.int (fFault N v))) (sR M R) := by
  refine ct_of (by decide) (Nat.le_of_ble_eq_true rfl) (fun K hg hr => ?_)
  show WM Γ K _ [(0, _), (1, _)] 0 []
  have hz : ok10 (N.1 1 0) := hR.1.2.1 0 (by decide)
  have hz1 := hz.1
  have hz2 := hz.2
  have hC := hR.2.1.1.2.1
  have hBB := hR.2.1.1.2.2
  have hG := hR.2.1.2
  have hT := hR.2.2.2.2
  have hX0 : R.2 0 0 = (N.1 1 0).1 0 := hC.1
  have hun := hR.2.2.1.1.trans hR.1.1.1.symm
  refine wm_iload_n (q := 1) (i := 1) hg dX5_fault_0 rfl rfl rfl ?_
  refine wm_iconst (q := 2) 0 hg dX5_fault_1 rfl (by decide) ?_
  refine wm_iconst (q := 3) 1 hg dX5_fault_2 rfl (by decide) ?_
  refine wm_callS1 (q := 6) hg dX5_fault_3 rfl lk_X5_52 (by first | decide | omega) c_X5_isIn rfl rfl (Nat.le_of_ble_eq_true rfl) ?_
  refine wm_if_ne (q := 14) (q2 := 9) hg dX5_fault_6 (by decide) rfl (fun h1 => ?_) (fun h1 => ?_)
  · obtain ⟨c, -, hc, rfl⟩ := wthn_n (lo := 0) (hi := 1) h1 (by decide) (by decide)
    rcases (show c = 0 ∨ c = 1 by omega) with rfl | rfl
    · refine wm_iload_n (q := 15) (i := 1) hg dX5_fault_14 rfl rfl rfl ?_
      refine wm_if_ne (q := 25) (q2 := 18) hg dX5_fault_15 (by decide) rfl (fun h2 => ?_) (fun h2 => ?_)
      · exact absurd rfl h2
      · refine wm_aload_n (q := 19) (i := 0) hg dX5_fault_18 rfl rfl rfl ?_
        refine wm_rget (q := 22) hg dX5_fault_19 rfl fl_X5_26 rfl ?_
        refine wm_goto (q := 29) hg dX5_fault_22 (by decide) ?_
        exact wm_iret hg hr dX5_fault_29 (hT.2.2.1) (rfl)
    · refine wm_iload_n (q := 15) (i := 1) hg dX5_fault_14 rfl rfl rfl ?_
      refine wm_if_ne (q := 25) (q2 := 18) hg dX5_fault_15 (by decide) rfl (fun h2 => ?_) (fun h2 => ?_)
      · refine wm_aload_n (q := 26) (i := 0) hg dX5_fault_25 rfl rfl rfl ?_
        refine wm_rget (q := 29) hg dX5_fault_26 rfl fl_X5_30 rfl ?_
        exact wm_iret hg hr dX5_fault_29 (hT.2.2.2) (rfl)
      · exact absurd h2 (by decide)
  · refine wm_ldc (q := 11) (-1000000001) hg dX5_fault_9 rfl ld_X5_102 ?_
    refine wm_goto (q := 29) hg dX5_fault_11 (by decide) ?_
    exact wm_iret hg hr dX5_fault_29 (by unfold fFault; rw [if_neg (wthn_out h1 (by decide)), if_neg (wthn_out h1 (by decide))]) (rfl)
set_option maxRecDepth 100000 in
set_option maxHeartbeats 4000000 in
theorem c_X5_wipe {Γ : GT} {M N : Mem} {R : OV} (hR : RI N R) : CtR Γ yX5_wipe cX5_wipe 2 (some .int) 0 [.ref (ad Γ 5 0 0)] M R (some (.int ((N.1 3 0).1 1))) (fun R' => RI (sI N 3 0 1 0) R') := by
  refine ctr_of (by decide) (Nat.le_of_ble_eq_true rfl) (fun K hg hr => ?_)
  show WM Γ K _ [(0, _)] 0 []
  have hT := hR.2.2.2.2
  refine wm_aload_n (q := 1) (i := 0) hg dX5_wipe_0 rfl rfl rfl ?_
  refine wm_rget (q := 4) hg dX5_wipe_1 rfl fl_X5_132 rfl ?_
  refine wm_istore_n (q := 5) (i := 1) (L' := [(0, _), (1, _)]) hg dX5_wipe_4 rfl rfl rfl rfl ?_
  refine wm_aload_n (q := 6) (i := 0) hg dX5_wipe_5 rfl rfl rfl ?_
  refine wm_iconst (q := 7) 0 hg dX5_wipe_6 rfl (by decide) ?_
  refine wm_rput (q := 10) hg dX5_wipe_7 rfl fl_X5_132 rfl ?_
  refine wm_iload_n (q := 11) (i := 1) hg dX5_wipe_10 rfl rfl rfl ?_
  exact wm_irret hg hr dX5_wipe_11 (hT.1) (RI_T hR ⟨by unfold txN; rw [oI_w]; rfl, by unfold txN; rw [oI_w]; decide⟩ rfl rfl rfl rfl rfl ⟨by rw [oI_w, oI_w], fun k hk => absurd hk (by unfold txN; rw [oI_w]; exact Nat.not_lt_zero k), by rw [oI_x _ _ (by decide), oI_x _ _ (by decide)]; exact hT.2.2.1, by rw [oI_x _ _ (by decide), oI_x _ _ (by decide)]; exact hT.2.2.2⟩)
set_option maxRecDepth 100000 in
set_option maxHeartbeats 4000000 in
theorem c_X5_write {Γ : GT} {M N : Mem} {R : OV} {v : Int32} (hR : RI N R) : CtR Γ yX5_write cX5_write 2 (some .int) 1 [.ref (ad Γ 5 0 0), .int v] M R (some (.int (fWrite N v).1)) (fun R' => RI (fWrite N v).2 R') := by
  refine ctr_of (by decide) (Nat.le_of_ble_eq_true rfl) (fun K hg hr => ?_)
  show WM Γ K _ [(0, _), (1, _)] 0 []
  have hz : ok10 (N.1 1 0) := hR.1.2.1 0 (by decide)
  have hz1 := hz.1
  have hz2 := hz.2
  have hX0 : R.2 0 0 = (N.1 1 0).1 0 := hR.2.1.1.2.1.1
  have hT := hR.2.2.2.2
  have hk := hR.1.2.2.2
  have hk1 := hk.1
  have hk2 := hk.2
  have hl : R.1 6 = nI (txN (N.1 3 0)) := hT.1.trans hk1
  refine wm_iload_n (q := 1) (i := 1) hg dX5_write_0 rfl rfl rfl ?_
  refine wm_bipush (q := 3) 32 hg dX5_write_1 rfl (by decide) ?_
  refine wm_bipush (q := 5) 126 hg dX5_write_3 rfl (by decide) ?_
  refine wm_callS1 (q := 8) hg dX5_write_5 rfl lk_X5_52 (by first | decide | omega) c_X5_isIn rfl rfl (Nat.le_of_ble_eq_true rfl) ?_
  refine wm_if_ne (q := 14) (q2 := 11) hg dX5_write_8 (by decide) rfl (fun h1 => ?_) (fun h1 => ?_)
  · refine wm_aload_n (q := 15) (i := 0) hg dX5_write_14 rfl rfl rfl ?_
    refine wm_rget (q := 18) hg dX5_write_15 rfl fl_X5_132 rfl ?_
    refine wm_bipush (q := 20) 40 hg dX5_write_18 rfl (by decide) ?_
    refine wm_icmp_ne (q := 26) (q2 := 23) hg dX5_write_20 (by decide) rfl (fun h2 => ?_) (fun h2 => ?_)
    · have hlt : txN (N.1 3 0) < 40 := by
        rcases Nat.lt_or_ge (txN (N.1 3 0)) 40 with z | z
        · exact z
        · exact absurd (by rw [hl, show txN (N.1 3 0) = 40 by omega]; rfl) h2
      have h3 : (N.1 3 0).1 1 < 40 := by rw [hk1]; exact nI_lt hlt (by decide)
      have et : (taX (N.1 3 0) v).1 1 = nI (txN (N.1 3 0) + 1) := by show upd (N.1 3 0).1 1 ((N.1 3 0).1 1 + 1) 1 = _; rw [upd_same, hk1]; exact nI_1 _
      have en : txN (taX (N.1 3 0) v) = txN (N.1 3 0) + 1 := by show ((taX (N.1 3 0) v).1 1).toNatClampNeg = _; rw [et, nI_clamp (by omega)]
      refine wm_aload_n (q := 27) (i := 0) hg dX5_write_26 rfl rfl rfl ?_
      refine wm_get (q := 30) hg dX5_write_27 rfl fl_X5_22 (by first | assumption | decide | omega | (simp only [nO]; omega)) rfl ?_
      refine wm_aload_n (q := 31) (i := 0) hg dX5_write_30 rfl rfl rfl ?_
      refine wm_rget (q := 34) hg dX5_write_31 rfl fl_X5_132 rfl ?_
      refine wm_iload_n (q := 35) (i := 1) hg dX5_write_34 rfl rfl rfl ?_
      refine wm_rstore (q := 36) (txN (N.1 3 0)) hg dX5_write_35 rfl rfl hl (by simp only [alen]; omega) ?_
      refine wm_aload_n (q := 37) (i := 0) hg dX5_write_36 rfl rfl rfl ?_
      refine wm_dup (q := 38) hg dX5_write_37 rfl rfl ?_
      refine wm_rget (q := 41) hg dX5_write_38 rfl fl_X5_132 rfl ?_
      refine wm_iconst (q := 42) 1 hg dX5_write_41 rfl (by decide) ?_
      refine wm_iadd (q := 43) hg dX5_write_42 rfl ?_
      refine wm_rput (q := 46) hg dX5_write_43 rfl fl_X5_132 rfl ?_
      refine wm_aload_n (q := 47) (i := 0) hg dX5_write_46 rfl rfl rfl ?_
      refine wm_rget (q := 50) hg dX5_write_47 rfl fl_X5_132 rfl ?_
      exact wm_irret hg hr dX5_write_50 (by unfold fWrite; rw [if_neg h1, if_pos h3]; show upd R.1 6 (R.1 6 + 1) 6 = _; rw [upd_same, hT.1]) (by
            unfold fWrite; rw [if_neg h1, if_pos h3]
            refine RI_T hR ⟨by rw [et, en], by omega⟩ rfl rfl rfl rfl rfl ⟨?_, fun k hk => ?_, ?_, ?_⟩
            · show upd R.1 6 (R.1 6 + 1) 6 = _; rw [upd_same, et, hl]; exact nI_1 _
            · rw [en] at hk
              show updA R.2 5 (upd (R.2 5) (txN (N.1 3 0)) v) 5 k = updA (N.1 3 0).2 0 (upd ((N.1 3 0).2 0) (txN (N.1 3 0)) v) 0 k
              rw [updA_same, updA_same]
              by_cases hkk : k = txN (N.1 3 0)
              · rw [hkk, upd_same, upd_same]
              · rw [upd_ne _ _ hkk, upd_ne _ _ hkk]; exact hT.2.1 k (by omega)
            · show upd R.1 6 (R.1 6 + 1) 7 = upd (N.1 3 0).1 1 ((N.1 3 0).1 1 + 1) 2; rw [upd_ne _ _ (by decide), upd_ne _ _ (by decide)]; exact hT.2.2.1
            · show upd R.1 6 (R.1 6 + 1) 8 = upd (N.1 3 0).1 1 ((N.1 3 0).1 1 + 1) 3; rw [upd_ne _ _ (by decide), upd_ne _ _ (by decide)]; exact hT.2.2.2)
    · have h3 : ¬ (N.1 3 0).1 1 < 40 := by rw [← hT.1, h2]; decide
      refine wm_ldc (q := 25) (-1000000003) hg dX5_write_23 rfl ld_X5_106 ?_
      exact wm_irret hg hr dX5_write_25 (by unfold fWrite; rw [if_neg h1, if_neg h3]) (by unfold fWrite; rw [if_neg h1, if_neg h3]; exact hR)
  · refine wm_ldc (q := 13) (-1000000001) hg dX5_write_11 rfl ld_X5_102 ?_
    exact wm_irret hg hr dX5_write_13 (by unfold fWrite; rw [if_pos h1]) (by unfold fWrite; rw [if_pos h1]; exact hR)
set_option maxRecDepth 100000 in
set_option maxHeartbeats 4000000 in
theorem c_X5_keep {Γ : GT} {M N : Mem} {R : OV} {v : Int32} (hR : RI N R) : CtR Γ yX5_keep cX5_keep 3 (some .int) 3 [.ref (ad Γ 5 0 0), .int v] M R (some (.int (fKeep N v).1)) (fun R' => RI (fKeep N v).2 R') := by
  refine ctr_of (by decide) (Nat.le_of_ble_eq_true rfl) (fun K hg hr => ?_)
  show WM Γ K _ [(0, _), (1, _)] 0 []
  have hz : ok10 (N.1 1 0) := hR.1.2.1 0 (by decide)
  have hz1 := hz.1
  have hz2 := hz.2
  have hX0 : R.2 0 0 = (N.1 1 0).1 0 := hR.2.1.1.2.1.1
  refine wm_iload_n (q := 1) (i := 1) hg dX5_keep_0 rfl rfl rfl ?_
  refine wm_callS1 (q := 4) hg dX5_keep_1 rfl lk_X5_196 (by first | decide | omega) c_X5_isImage rfl rfl (Nat.le_of_ble_eq_true rfl) ?_
  refine wm_if_ne (q := 10) (q2 := 7) hg dX5_keep_4 (by decide) rfl (fun h1 => ?_) (fun h1 => ?_)
  · obtain ⟨e1, e2⟩ := wthn_2 h1
    refine wm_iconst (q := 11) 0 hg dX5_keep_10 rfl (by decide) ?_
    refine wm_istore_n (q := 12) (i := 2) (L' := [(0, _), (1, _), (2, _)]) hg dX5_keep_11 rfl rfl rfl rfl ?_
    suffices hloop : ∀ (n i : Nat), i + n = 130 → WM Γ K (sR M (oA R 3 (cpyF (R.2 3) (130 * v.toNatClampNeg) (R.2 0) i))) [(0, .ref (ad Γ 5 0 0)), (1, .int v), (2, .int (nI i))] 12 [] from wm_R (by rw [cpyF_0]; exact (oA_self R 3).symm) (hloop 130 0 (by omega))
    intro n
    induction n with
    | zero =>
      intro i hi 
      refine wm_iload_n (q := 13) (i := 2) hg dX5_keep_12 rfl rfl rfl ?_
      refine wm_sipush (q := 16) 130 hg dX5_keep_13 rfl (by decide) ?_
      refine wm_icmp_ge (q := 43) (q2 := 19) hg dX5_keep_16 (by decide) rfl (fun hb => ?_) (fun hb => ?_)
      · have he : i = 130 := by omega
        subst he
        refine wm_aload_n (q := 44) (i := 0) hg dX5_keep_43 rfl rfl rfl ?_
        refine wm_get (q := 47) hg dX5_keep_44 rfl fl_X5_19 (by first | assumption | decide | omega | (simp only [nO]; omega)) rfl ?_
        refine wm_iload_n (q := 48) (i := 1) hg dX5_keep_47 rfl rfl rfl ?_
        refine wm_iconst (q := 49) 1 hg dX5_keep_48 rfl (by decide) ?_
        refine wm_rstore (q := 50) v.toNatClampNeg hg dX5_keep_49 rfl rfl e1 (by simp only [alen]; omega) ?_
        refine wm_aload_n (q := 51) (i := 0) hg dX5_keep_50 rfl rfl rfl ?_
        refine wm_get (q := 54) hg dX5_keep_51 rfl fl_X5_7 (by first | assumption | decide | omega | (simp only [nO]; omega)) rfl ?_
        refine wm_iconst (q := 55) 0 hg dX5_keep_54 rfl (by decide) ?_
        refine wm_rload (q := 56) 0 hg dX5_keep_55 rfl rfl (rfl : (0 : Int32) = nI 0) (by simp only [alen]; omega) ?_
        exact wm_irret hg hr dX5_keep_56 (by unfold fKeep; rw [if_neg h1]; exact hX0) (by unfold fKeep; rw [if_neg h1]; exact RI_keep hR e2 rfl rfl (by rw [oA_x _ _ (by decide), oA_w]) (by rw [oA_w]; rfl) rfl rfl)
      · exact absurd (nI_le (a := 130) (b := i) (by omega) (by omega)) hb
    | succ n ih =>
      intro i hi 
      refine wm_iload_n (q := 13) (i := 2) hg dX5_keep_12 rfl rfl rfl ?_
      refine wm_sipush (q := 16) 130 hg dX5_keep_13 rfl (by decide) ?_
      refine wm_icmp_ge (q := 43) (q2 := 19) hg dX5_keep_16 (by decide) rfl (fun hb => ?_) (fun hb => ?_)
      · exact absurd hb (nI_ge (a := i) (b := 130) (by omega) (by omega))
      · refine wm_aload_n (q := 20) (i := 0) hg dX5_keep_19 rfl rfl rfl ?_
        refine wm_get (q := 23) hg dX5_keep_20 rfl fl_X5_16 (by first | assumption | decide | omega | (simp only [nO]; omega)) rfl ?_
        refine wm_sipush (q := 26) 130 hg dX5_keep_23 rfl (by decide) ?_
        refine wm_iload_n (q := 27) (i := 1) hg dX5_keep_26 rfl rfl rfl ?_
        refine wm_imul (q := 28) hg dX5_keep_27 rfl ?_
        refine wm_iload_n (q := 29) (i := 2) hg dX5_keep_28 rfl rfl rfl ?_
        refine wm_iadd (q := 30) hg dX5_keep_29 rfl ?_
        refine wm_aload_n (q := 31) (i := 0) hg dX5_keep_30 rfl rfl rfl ?_
        refine wm_get (q := 34) hg dX5_keep_31 rfl fl_X5_7 (by first | assumption | decide | omega | (simp only [nO]; omega)) rfl ?_
        refine wm_iload_n (q := 35) (i := 2) hg dX5_keep_34 rfl rfl rfl ?_
        refine wm_rload (q := 36) i hg dX5_keep_35 rfl rfl rfl (by simp only [alen]; omega) ?_
        refine wm_rstore (q := 37) ((130 * v.toNatClampNeg) + i) hg dX5_keep_36 rfl rfl (nadd (a := (130 * v.toNatClampNeg)) (b := i) (nmul (a := 130) (b := v.toNatClampNeg) (rfl : (130 : Int32) = nI 130) e1) rfl) (by simp only [alen]; omega) ?_
        refine wm_iinc (q := 40) (L' := [(0, _), (1, _), (2, _)]) (nI (i + 1)) hg dX5_keep_37 rfl rfl (nadd rfl rfl) rfl rfl ?_
        refine wm_goto (q := 12) hg dX5_keep_40 (by decide) ?_
        exact wm_R (oA_st (cpyF_s (R.2 3) (130 * v.toNatClampNeg) (R.2 0) i)) (ih (i + 1) (by omega))
  · refine wm_ldc (q := 9) (-1000000001) hg dX5_keep_7 rfl ld_X5_102 ?_
    exact wm_irret hg hr dX5_keep_9 (by unfold fKeep; rw [if_pos h1]) (by unfold fKeep; rw [if_pos h1]; exact hR)
set_option maxRecDepth 100000 in
set_option maxHeartbeats 4000000 in
theorem c_X5_back {Γ : GT} {M N : Mem} {R : OV} {v : Int32} (hR : RI N R) : CtR Γ yX5_back cX5_back 3 (some .int) 3 [.ref (ad Γ 5 0 0), .int v] M R (some (.int (fBack N v).1)) (fun R' => RI (fBack N v).2 R') := by
  refine ctr_of (by decide) (Nat.le_of_ble_eq_true rfl) (fun K hg hr => ?_)
  show WM Γ K _ [(0, _), (1, _)] 0 []
  have hz : ok10 (N.1 1 0) := hR.1.2.1 0 (by decide)
  have hz1 := hz.1
  have hz2 := hz.2
  have hX0 : R.2 0 0 = (N.1 1 0).1 0 := hR.2.1.1.2.1.1
  refine wm_iload_n (q := 1) (i := 1) hg dX5_back_0 rfl rfl rfl ?_
  refine wm_callS1 (q := 4) hg dX5_back_1 rfl lk_X5_196 (by first | decide | omega) c_X5_isImage rfl rfl (Nat.le_of_ble_eq_true rfl) ?_
  refine wm_if_ne (q := 10) (q2 := 7) hg dX5_back_4 (by decide) rfl (fun h1 => ?_) (fun h1 => ?_)
  · obtain ⟨e1, e2⟩ := wthn_2 h1
    have hI := hR.2.2.2.1 _ e2
    refine wm_aload_n (q := 11) (i := 0) hg dX5_back_10 rfl rfl rfl ?_
    refine wm_get (q := 14) hg dX5_back_11 rfl fl_X5_19 (by first | assumption | decide | omega | (simp only [nO]; omega)) rfl ?_
    refine wm_iload_n (q := 15) (i := 1) hg dX5_back_14 rfl rfl rfl ?_
    refine wm_rload (q := 16) v.toNatClampNeg hg dX5_back_15 rfl rfl e1 (by simp only [alen]; omega) ?_
    refine wm_if_ne (q := 22) (q2 := 19) hg dX5_back_16 (by decide) rfl (fun h2 => ?_) (fun h2 => ?_)
    · rw [hI.1] at h2
      have hWi := hI.2 h2
      refine wm_aload_n (q := 23) (i := 0) hg dX5_back_22 rfl rfl rfl ?_
      refine wm_callR0 (q := 26) hg dX5_back_23 rfl lk_X5_103 (by first | decide | omega) (c_X5_record (N := N) hR.1.1 hR.2.2.1 hR.2.1) (by first | assumption | decide | omega | (simp only [nO]; omega)) ⟨rfl, by decide⟩ rfl rfl (Nat.le_of_ble_eq_true rfl) (fun R1 ⟨hs1, hw1, hH1⟩ => ?_)
      have hW1 : RW (R1.2 0) (N.1 1 0) (N.1 0 0) := by rw [hw1]; exact hR.2.1
      refine wm_iconst (q := 27) 0 hg dX5_back_26 rfl (by decide) ?_
      refine wm_istore_n (q := 28) (i := 2) (L' := [(0, _), (1, _), (2, _)]) hg dX5_back_27 rfl rfl rfl rfl ?_
      have hR3 : R1.2 3 = R.2 3 := hs1.1
      suffices hloop : ∀ (n i : Nat), i + n = 130 → WM Γ K (sR M (oA R1 0 (cpyF (R1.2 0) 0 (rowF (R1.2 3) v.toNatClampNeg) i))) [(0, .ref (ad Γ 5 0 0)), (1, .int v), (2, .int (nI i))] 28 [] from wm_R (by rw [cpyF_0]; exact (oA_self R1 0).symm) (hloop 130 0 (by omega))
      intro n
      induction n with
      | zero =>
        intro i hi 
        refine wm_iload_n (q := 29) (i := 2) hg dX5_back_28 rfl rfl rfl ?_
        refine wm_sipush (q := 32) 130 hg dX5_back_29 rfl (by decide) ?_
        refine wm_icmp_ge (q := 59) (q2 := 35) hg dX5_back_32 (by decide) rfl (fun hb => ?_) (fun hb => ?_)
        · have he : i = 130 := by omega
          subst he
          have hbk : ∀ k, k < 130 → (oA R1 0 (cpyF (R1.2 0) 0 (rowF (R1.2 3) v.toNatClampNeg) 130)).2 0 k = rowF (R.2 3) v.toNatClampNeg k := fun k hk => by rw [oA_w]; have e := cpyF_in (R1.2 0) 0 (rowF (R1.2 3) v.toNatClampNeg) hk; rw [Nat.zero_add] at e; rw [e, hR3]
          refine wm_aload_n (q := 60) (i := 0) hg dX5_back_59 rfl rfl rfl ?_
          refine wm_get (q := 63) hg dX5_back_60 rfl fl_X5_7 (by first | assumption | decide | omega | (simp only [nO]; omega)) rfl ?_
          refine wm_iconst (q := 64) 0 hg dX5_back_63 rfl (by decide) ?_
          refine wm_rload (q := 65) 0 hg dX5_back_64 rfl rfl (rfl : (0 : Int32) = nI 0) (by simp only [alen]; omega) ?_
          exact wm_irret hg hr dX5_back_65 (by unfold fBack; rw [if_neg h1, if_neg h2]; exact (RW_congr hWi hbk).1.2.1.1) (by unfold fBack; rw [if_neg h1, if_neg h2]; exact RI_ch hR hH1 (hs1.tr (Sm.A _ (by decide))) (RW_congr hWi hbk))
        · exact absurd (nI_le (a := 130) (b := i) (by omega) (by omega)) hb
      | succ n ih =>
        intro i hi 
        refine wm_iload_n (q := 29) (i := 2) hg dX5_back_28 rfl rfl rfl ?_
        refine wm_sipush (q := 32) 130 hg dX5_back_29 rfl (by decide) ?_
        refine wm_icmp_ge (q := 59) (q2 := 35) hg dX5_back_32 (by decide) rfl (fun hb => ?_) (fun hb => ?_)
        · exact absurd hb (nI_ge (a := i) (b := 130) (by omega) (by omega))
        · refine wm_aload_n (q := 36) (i := 0) hg dX5_back_35 rfl rfl rfl ?_
          refine wm_get (q := 39) hg dX5_back_36 rfl fl_X5_7 (by first | assumption | decide | omega | (simp only [nO]; omega)) rfl ?_
          refine wm_iload_n (q := 40) (i := 2) hg dX5_back_39 rfl rfl rfl ?_
          refine wm_aload_n (q := 41) (i := 0) hg dX5_back_40 rfl rfl rfl ?_
          refine wm_get (q := 44) hg dX5_back_41 rfl fl_X5_16 (by first | assumption | decide | omega | (simp only [nO]; omega)) rfl ?_
          refine wm_sipush (q := 47) 130 hg dX5_back_44 rfl (by decide) ?_
          refine wm_iload_n (q := 48) (i := 1) hg dX5_back_47 rfl rfl rfl ?_
          refine wm_imul (q := 49) hg dX5_back_48 rfl ?_
          refine wm_iload_n (q := 50) (i := 2) hg dX5_back_49 rfl rfl rfl ?_
          refine wm_iadd (q := 51) hg dX5_back_50 rfl ?_
          refine wm_rload (q := 52) ((130 * v.toNatClampNeg) + i) hg dX5_back_51 rfl rfl (nadd (a := (130 * v.toNatClampNeg)) (b := i) (nmul (a := 130) (b := v.toNatClampNeg) (rfl : (130 : Int32) = nI 130) e1) rfl) (by simp only [alen]; omega) ?_
          refine wm_rstore (q := 53) i hg dX5_back_52 rfl rfl rfl (by simp only [alen]; omega) ?_
          refine wm_iinc (q := 56) (L' := [(0, _), (1, _), (2, _)]) (nI (i + 1)) hg dX5_back_53 rfl rfl (nadd rfl rfl) rfl rfl ?_
          refine wm_goto (q := 28) hg dX5_back_56 (by decide) ?_
          exact wm_R (oA_st (by have e := cpyF_s (R1.2 0) 0 (rowF (R1.2 3) v.toNatClampNeg) i; rw [Nat.zero_add] at e; exact e)) (ih (i + 1) (by omega))
    · rw [hI.1] at h2
      refine wm_ldc (q := 21) (-1000000002) hg dX5_back_19 rfl ld_X5_59 ?_
      exact wm_irret hg hr dX5_back_21 (by unfold fBack; rw [if_neg h1, if_pos h2]) (by unfold fBack; rw [if_neg h1, if_pos h2]; exact hR)
  · refine wm_ldc (q := 9) (-1000000001) hg dX5_back_7 rfl ld_X5_102 ?_
    exact wm_irret hg hr dX5_back_9 (by unfold fBack; rw [if_pos h1]) (by unfold fBack; rw [if_pos h1]; exact hR)
