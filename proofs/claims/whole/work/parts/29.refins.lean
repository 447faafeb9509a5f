/-! ===== the reference: insert, reverse ===== -/
set_option maxRecDepth 100000 in
set_option maxHeartbeats 4000000 in
theorem c_X5_insert {Γ : GT} {M N : Mem} {R : OV} {p a : Int32} (hR : RI N R) : CtR Γ yX5_insert cX5_insert 5 (some .int) 7 [.ref (ad Γ 5 0 0), .int p, .int a] M R (some (.int (fIns N p a).1)) (fun R' => RI (fIns N p a).2 R') := by
  refine ctr_of (by decide) (Nat.le_of_ble_eq_true rfl) (fun K hg hr => ?_)
  show WM Γ K _ [(0, _), (1, _), (2, _)] 0 []
  have hz : ok10 (N.1 1 0) := hR.1.2.1 0 (by decide)
  have hz1 := hz.1
  have hz2 := hz.2
  have hX0 : R.2 0 0 = (N.1 1 0).1 0 := hR.2.1.1.2.1.1
  refine wm_iload_n (q := 1) (i := 1) hg dX5_insert_0 rfl rfl rfl ?_
  refine wm_iconst (q := 2) 0 hg dX5_insert_1 rfl (by decide) ?_
  refine wm_aload_n (q := 3) (i := 0) hg dX5_insert_2 rfl rfl rfl ?_
  refine wm_get (q := 6) hg dX5_insert_3 rfl fl_X5_7 (by first | assumption | decide | omega | (simp only [nO]; omega)) rfl ?_
  refine wm_iconst (q := 7) 0 hg dX5_insert_6 rfl (by decide) ?_
  refine wm_rload (q := 8) 0 hg dX5_insert_7 rfl rfl (rfl : (0 : Int32) = nI 0) (by simp only [alen]; omega) ?_
  refine wm_callS1 (q := 11) hg dX5_insert_8 rfl lk_X5_52 (by first | decide | omega) c_X5_isIn rfl rfl (Nat.le_of_ble_eq_true rfl) ?_
  refine wm_if_eq (q := 24) (q2 := 14) hg dX5_insert_11 (by decide) rfl (fun h1 => ?_) (fun h1 => ?_)
  · rw [hX0] at h1
    refine wm_ldc (q := 26) (-1000000001) hg dX5_insert_24 rfl ld_X5_102 ?_
    exact wm_irret hg hr dX5_insert_26 (by unfold fIns; rw [if_pos h1]) (by unfold fIns; rw [if_pos h1]; exact hR)
  · rw [hX0] at h1
    refine wm_iload_n (q := 15) (i := 2) hg dX5_insert_14 rfl rfl rfl ?_
    refine wm_iconst (q := 16) 0 hg dX5_insert_15 rfl (by decide) ?_
    refine wm_bipush (q := 18) 7 hg dX5_insert_16 rfl (by decide) ?_
    refine wm_callS1 (q := 21) hg dX5_insert_18 rfl lk_X5_52 (by first | decide | omega) c_X5_isIn rfl rfl (Nat.le_of_ble_eq_true rfl) ?_
    refine wm_if_ne (q := 27) (q2 := 24) hg dX5_insert_21 (by decide) rfl (fun h2 => ?_) (fun h2 => ?_)
    · have h2a : ¬ isAng a = 0 := h2
      refine wm_aload_n (q := 28) (i := 0) hg dX5_insert_27 rfl rfl rfl ?_
      refine wm_get (q := 31) hg dX5_insert_28 rfl fl_X5_7 (by first | assumption | decide | omega | (simp only [nO]; omega)) rfl ?_
      refine wm_iconst (q := 32) 0 hg dX5_insert_31 rfl (by decide) ?_
      refine wm_rload (q := 33) 0 hg dX5_insert_32 rfl rfl (rfl : (0 : Int32) = nI 0) (by simp only [alen]; omega) ?_
      refine wm_bipush (q := 35) 10 hg dX5_insert_33 rfl (by decide) ?_
      refine wm_icmp_ne (q := 41) (q2 := 38) hg dX5_insert_35 (by decide) rfl (fun h3 => ?_) (fun h3 => ?_)
      · rw [hX0] at h3
        have hlt : szN (N.1 1 0) < 10 := by
          rcases Nat.lt_or_ge (szN (N.1 1 0)) 10 with z | z
          · exact z
          · exact absurd (by rw [hz1, show szN (N.1 1 0) = 10 by omega]; rfl) h3
        have h3a : (N.1 1 0).1 0 < 10 := by rw [hz1]; exact nI_lt hlt (by decide)
        obtain ⟨pn, -, hn, hp⟩ := wthn_n (lo := 0) (hi := szN (N.1 1 0)) (by rw [hz1] at h1; exact h1) (by omega) (by omega)
        have hpn : p.toNatClampNeg = pn := by rw [hp, nI_clamp (by omega)]
        refine wm_aload_n (q := 42) (i := 0) hg dX5_insert_41 rfl rfl rfl ?_
        refine wm_callR0 (q := 45) hg dX5_insert_42 rfl lk_X5_103 (by first | decide | omega) (c_X5_record (N := N) hR.1.1 hR.2.2.1 hR.2.1) (by first | assumption | decide | omega | (simp only [nO]; omega)) ⟨rfl, by decide⟩ rfl rfl (Nat.le_of_ble_eq_true rfl) (fun R1 ⟨hs1, hw1, hH1⟩ => ?_)
        have hW1 : RW (R1.2 0) (N.1 1 0) (N.1 0 0) := by rw [hw1]; exact hR.2.1
        have hR10 : R1.2 0 0 = nI (szN (N.1 1 0)) := by rw [hw1, hX0, hz1]
        refine wm_aload_n (q := 46) (i := 0) hg dX5_insert_45 rfl rfl rfl ?_
        refine wm_callV1 (q := 49) hg dX5_insert_46 rfl lk_X5_95 (by first | decide | omega) (c_X5_energy (X := N.1 1 0) hz hW1.1.2.1) (by first | assumption | decide | omega | (simp only [nO]; omega)) ⟨rfl, by decide⟩ rfl rfl (Nat.le_of_ble_eq_true rfl) ?_
        refine wm_istore_n (q := 50) (i := 3) (L' := [(0, _), (1, _), (2, _), (3, _)]) hg dX5_insert_49 rfl rfl rfl rfl ?_
        refine wm_aload_n (q := 51) (i := 0) hg dX5_insert_50 rfl rfl rfl ?_
        refine wm_get (q := 54) hg dX5_insert_51 rfl fl_X5_7 (by first | assumption | decide | omega | (simp only [nO]; omega)) rfl ?_
        refine wm_iconst (q := 55) 0 hg dX5_insert_54 rfl (by decide) ?_
        refine wm_rload (q := 56) 0 hg dX5_insert_55 rfl rfl (rfl : (0 : Int32) = nI 0) (by simp only [alen]; omega) ?_
        refine wm_istore (q := 58) (i := 4) (L' := [(0, _), (1, _), (2, _), (3, _), (4, _)]) hg dX5_insert_56 rfl rfl rfl ?_
        suffices hloop : ∀ (n i : Nat), i + n = szN (N.1 1 0) - pn → ∀ w : Nat → Int32, rwE (szN (N.1 1 0) + 1) (szN (N.1 1 0) - i) w (piL (N.1 1 0) i) → w 0 = R1.2 0 0 → (∀ k, 31 ≤ k → w k = R1.2 0 k) → WM Γ K (sR M (oA R1 0 w)) [(0, .ref (ad Γ 5 0 0)), (1, .int p), (2, .int a), (3, .int (energy (N.1 1 0))), (4, .int (nI (szN (N.1 1 0) - i)))] 58 [] from wm_Leq (by rw [hR10, Nat.sub_zero]) (wm_R (oA_self R1 0).symm (hloop (szN (N.1 1 0) - pn) 0 (by omega) _ (fun k hk hke => ⟨hW1.1.2.1.2.1 k (by omega), hW1.1.1.2.2 k (by omega)⟩) rfl (fun _ _ => rfl)))
        intro n
        induction n with
        | zero =>
          intro i hi w hE hw0 hwK
          refine wm_iload (q := 60) (i := 4) hg dX5_insert_58 rfl rfl ?_
          refine wm_iload_n (q := 61) (i := 1) hg dX5_insert_60 rfl rfl rfl ?_
          refine wm_icmp_le (q := 134) (q2 := 64) hg dX5_insert_61 (by decide) rfl (fun hb => ?_) (fun hb => ?_)
          · have hni : szN (N.1 1 0) - i = pn := by omega
            rw [hni] at hE
            refine wm_aload_n (q := 135) (i := 0) hg dX5_insert_134 rfl rfl rfl ?_
            refine wm_get (q := 138) hg dX5_insert_135 rfl fl_X5_7 (by first | assumption | decide | omega | (simp only [nO]; omega)) rfl ?_
            refine wm_iconst (q := 139) 1 hg dX5_insert_138 rfl (by decide) ?_
            refine wm_iload_n (q := 140) (i := 1) hg dX5_insert_139 rfl rfl rfl ?_
            refine wm_iadd (q := 141) hg dX5_insert_140 rfl ?_
            refine wm_iload_n (q := 142) (i := 2) hg dX5_insert_141 rfl rfl rfl ?_
            refine wm_rstore (q := 143) (1 + pn) hg dX5_insert_142 rfl rfl (nadd (a := 1) (b := pn) (rfl : (1 : Int32) = nI 1) hp) (by simp only [alen]; omega) ?_
            refine wm_aload_n (q := 144) (i := 0) hg dX5_insert_143 rfl rfl rfl ?_
            refine wm_get (q := 147) hg dX5_insert_144 rfl fl_X5_7 (by first | assumption | decide | omega | (simp only [nO]; omega)) rfl ?_
            refine wm_bipush (q := 149) 11 hg dX5_insert_147 rfl (by decide) ?_
            refine wm_iload_n (q := 150) (i := 1) hg dX5_insert_149 rfl rfl rfl ?_
            refine wm_iadd (q := 151) hg dX5_insert_150 rfl ?_
            refine wm_iconst (q := 152) 0 hg dX5_insert_151 rfl (by decide) ?_
            refine wm_rstore (q := 153) (11 + pn) hg dX5_insert_152 rfl rfl (nadd (a := 11) (b := pn) (rfl : (11 : Int32) = nI 11) hp) (by simp only [alen]; omega) ?_
            refine wm_aload_n (q := 154) (i := 0) hg dX5_insert_153 rfl rfl rfl ?_
            refine wm_get (q := 157) hg dX5_insert_154 rfl fl_X5_7 (by first | assumption | decide | omega | (simp only [nO]; omega)) rfl ?_
            refine wm_bipush (q := 159) 21 hg dX5_insert_157 rfl (by decide) ?_
            refine wm_iload_n (q := 160) (i := 1) hg dX5_insert_159 rfl rfl rfl ?_
            refine wm_iadd (q := 161) hg dX5_insert_160 rfl ?_
            refine wm_ldc (q := 163) (-1000000009) hg dX5_insert_161 rfl ld_X5_25 ?_
            refine wm_rstore (q := 164) (21 + pn) hg dX5_insert_163 rfl rfl (nadd (a := 21) (b := pn) (rfl : (21 : Int32) = nI 21) hp) (by simp only [alen]; omega) ?_
            refine wm_R (R' := oA R1 0 (upd (upd (upd w (1 + pn) a) (11 + pn) 0) (21 + pn) (-1000000009))) (oA_st3 rfl) ?_
            refine wm_aload_n (q := 165) (i := 0) hg dX5_insert_164 rfl rfl rfl ?_
            refine wm_get (q := 168) hg dX5_insert_165 rfl fl_X5_7 (by first | assumption | decide | omega | (simp only [nO]; omega)) rfl ?_
            refine wm_iconst (q := 169) 0 hg dX5_insert_168 rfl (by decide) ?_
            refine wm_dup2 (q := 170) hg dX5_insert_169 rfl rfl rfl ?_
            refine wm_rload (q := 171) 0 hg dX5_insert_170 rfl rfl (rfl : (0 : Int32) = nI 0) (by simp only [alen]; omega) ?_
            refine wm_iconst (q := 172) 1 hg dX5_insert_171 rfl (by decide) ?_
            refine wm_iadd (q := 173) hg dX5_insert_172 rfl ?_
            refine wm_rstore (q := 174) 0 hg dX5_insert_173 rfl rfl (rfl : (0 : Int32) = nI 0) (by simp only [alen]; omega) ?_
            refine wm_R (R' := oA R1 0 (upd (upd (upd (upd w (1 + pn) a) (11 + pn) 0) (21 + pn) (-1000000009)) 0 ((upd (upd (upd w (1 + pn) a) (11 + pn) 0) (21 + pn) (-1000000009)) 0 + 1))) (oA_st rfl) ?_
            have hS := rwE_set (n := szN (N.1 1 0) + 1) (e := pn) (a := a) (b := 0) (c := -1000000009) hE (by omega) (by omega) ⟨isAng_n h2, Or.inl rfl, Or.inl rfl⟩ (upd (N.1 1 0).1 0 ((N.1 1 0).1 0 + 1)) 20
            have hpi : piX (N.1 1 0) pn a = (upd (N.1 1 0).1 0 ((N.1 1 0).1 0 + 1), st3 (piL (N.1 1 0) i) pn a 0 (-1000000009)) := by unfold piX; rw [show szN (N.1 1 0) - pn = i by omega]; rfl
            rw [← hpi] at hS
            have hze : (piX (N.1 1 0) pn a).1 0 = nI (szN (N.1 1 0) + 1) := by rw [piX_0, hz1]; exact nI_1 _
            have hzn : szN (piX (N.1 1 0) pn a) = szN (N.1 1 0) + 1 := szN_of hze (by omega)
            have hWe : RW ((oA R1 0 (upd (upd (upd (upd w (1 + pn) a) (11 + pn) 0) (21 + pn) (-1000000009)) 0 ((upd (upd (upd w (1 + pn) a) (11 + pn) 0) (21 + pn) (-1000000009)) 0 + 1))).2 0) (piX (N.1 1 0) pn a) (N.1 0 0) := by
              rw [oA_w]
              refine RW_new hW1 ⟨⟨by rw [hzn]; exact hze, by omega⟩, by omega, fun k hk => (hS k (by omega) (by omega)).2⟩ ?_ (fun k hk => ?_) (fun k hk => ?_) (fun j hj => upd_ne _ _ hj)
              · rw [upd_same, upd_ne _ _ (by omega), upd_ne _ _ (by omega), upd_ne _ _ (by omega), hw0, hw1, hX0, piX_0]
              · obtain ⟨s1, s2, s3⟩ := (hS k (by omega) (by omega)).1; exact ⟨by rw [upd_ne _ _ (by omega)]; exact s1, by rw [upd_ne _ _ (by omega)]; exact s2, by rw [upd_ne _ _ (by omega)]; exact s3⟩
              · rw [upd_ne _ _ (by omega), w3_hi (by omega) hk]; exact hwK k hk
            refine wm_aload_n (q := 175) (i := 0) hg dX5_insert_174 rfl rfl rfl ?_
            refine wm_iload_n (q := 176) (i := 3) hg dX5_insert_175 rfl rfl rfl ?_
            refine wm_callR1 (q := 179) hg dX5_insert_176 rfl lk_X5_107 (by first | decide | omega) (c_X5_end (X := piX (N.1 1 0) pn a) (B := N.1 0 0) (e := energy (N.1 1 0)) hWe) (by first | assumption | decide | omega | (simp only [nO]; omega)) ⟨rfl, by decide⟩ rfl rfl (Nat.le_of_ble_eq_true rfl) (fun R2 hR2 => ?_)
            refine wm_istore (q := 181) (i := 4) (L' := [(0, _), (1, _), (2, _), (3, _), (4, _)]) hg dX5_insert_179 rfl rfl rfl ?_
            refine wm_aload_n (q := 182) (i := 0) hg dX5_insert_181 rfl rfl rfl ?_
            refine wm_get (q := 185) hg dX5_insert_182 rfl fl_X5_7 (by first | assumption | decide | omega | (simp only [nO]; omega)) rfl ?_
            refine wm_iconst (q := 186) 0 hg dX5_insert_185 rfl (by decide) ?_
            refine wm_rload (q := 187) 0 hg dX5_insert_186 rfl rfl (rfl : (0 : Int32) = nI 0) (by simp only [alen]; omega) ?_
            exact wm_irret hg hr dX5_insert_187 (by obtain ⟨w2, e2, q⟩ := hR2; unfold fIns; rw [if_neg h1, if_neg h2a, if_pos h3a, e2, oA_w, q.1.2.1.1, endX_1, piX_0]) (by obtain ⟨w2, rfl, q⟩ := hR2; unfold fIns; rw [if_neg h1, if_neg h2a, if_pos h3a, hpn]; exact RI_ch hR hH1 (hs1.tr ((Sm.A _ (by decide)).tr (Sm.A _ (by decide)))) (by rw [oA_w]; exact q))
          · exact absurd (by rw [hp]; exact nI_le (a := szN (N.1 1 0) - i) (b := pn) (by omega) (by omega)) hb
        | succ n ih =>
          intro i hi w hE hw0 hwK
          refine wm_iload (q := 60) (i := 4) hg dX5_insert_58 rfl rfl ?_
          refine wm_iload_n (q := 61) (i := 1) hg dX5_insert_60 rfl rfl rfl ?_
          refine wm_icmp_le (q := 134) (q2 := 64) hg dX5_insert_61 (by decide) rfl (fun hb => ?_) (fun hb => ?_)
          · exact absurd hb (by rw [hp]; exact nI_ge (a := pn) (b := szN (N.1 1 0) - i) (by omega) (by omega))
          · refine wm_aload_n (q := 65) (i := 0) hg dX5_insert_64 rfl rfl rfl ?_
            refine wm_get (q := 68) hg dX5_insert_65 rfl fl_X5_7 (by first | assumption | decide | omega | (simp only [nO]; omega)) rfl ?_
            refine wm_iconst (q := 69) 1 hg dX5_insert_68 rfl (by decide) ?_
            refine wm_iload (q := 71) (i := 4) hg dX5_insert_69 rfl rfl ?_
            refine wm_iadd (q := 72) hg dX5_insert_71 rfl ?_
            refine wm_aload_n (q := 73) (i := 0) hg dX5_insert_72 rfl rfl rfl ?_
            refine wm_get (q := 76) hg dX5_insert_73 rfl fl_X5_7 (by first | assumption | decide | omega | (simp only [nO]; omega)) rfl ?_
            refine wm_iconst (q := 77) 1 hg dX5_insert_76 rfl (by decide) ?_
            refine wm_iload (q := 79) (i := 4) hg dX5_insert_77 rfl rfl ?_
            refine wm_iadd (q := 80) hg dX5_insert_79 rfl ?_
            refine wm_iconst (q := 81) 1 hg dX5_insert_80 rfl (by decide) ?_
            refine wm_isub (q := 82) hg dX5_insert_81 rfl ?_
            refine wm_rload (q := 83) ((1 + (szN (N.1 1 0) - i)) - 1) hg dX5_insert_82 rfl rfl (nsub (a := (1 + (szN (N.1 1 0) - i))) (b := 1) (nadd (a := 1) (b := (szN (N.1 1 0) - i)) (rfl : (1 : Int32) = nI 1) rfl) (rfl : (1 : Int32) = nI 1) (by omega)) (by simp only [alen]; omega) ?_
            refine wm_rstore (q := 84) (1 + (szN (N.1 1 0) - i)) hg dX5_insert_83 rfl rfl (nadd (a := 1) (b := (szN (N.1 1 0) - i)) (rfl : (1 : Int32) = nI 1) rfl) (by simp only [alen]; omega) ?_
            refine wm_aload_n (q := 85) (i := 0) hg dX5_insert_84 rfl rfl rfl ?_
            refine wm_get (q := 88) hg dX5_insert_85 rfl fl_X5_7 (by first | assumption | decide | omega | (simp only [nO]; omega)) rfl ?_
            refine wm_bipush (q := 90) 11 hg dX5_insert_88 rfl (by decide) ?_
            refine wm_iload (q := 92) (i := 4) hg dX5_insert_90 rfl rfl ?_
            refine wm_iadd (q := 93) hg dX5_insert_92 rfl ?_
            refine wm_aload_n (q := 94) (i := 0) hg dX5_insert_93 rfl rfl rfl ?_
            refine wm_get (q := 97) hg dX5_insert_94 rfl fl_X5_7 (by first | assumption | decide | omega | (simp only [nO]; omega)) rfl ?_
            refine wm_bipush (q := 99) 11 hg dX5_insert_97 rfl (by decide) ?_
            refine wm_iload (q := 101) (i := 4) hg dX5_insert_99 rfl rfl ?_
            refine wm_iadd (q := 102) hg dX5_insert_101 rfl ?_
            refine wm_iconst (q := 103) 1 hg dX5_insert_102 rfl (by decide) ?_
            refine wm_isub (q := 104) hg dX5_insert_103 rfl ?_
            refine wm_rload (q := 105) ((11 + (szN (N.1 1 0) - i)) - 1) hg dX5_insert_104 rfl rfl (nsub (a := (11 + (szN (N.1 1 0) - i))) (b := 1) (nadd (a := 11) (b := (szN (N.1 1 0) - i)) (rfl : (11 : Int32) = nI 11) rfl) (rfl : (1 : Int32) = nI 1) (by omega)) (by simp only [alen]; omega) ?_
            refine wm_rstore (q := 106) (11 + (szN (N.1 1 0) - i)) hg dX5_insert_105 rfl rfl (nadd (a := 11) (b := (szN (N.1 1 0) - i)) (rfl : (11 : Int32) = nI 11) rfl) (by simp only [alen]; omega) ?_
            refine wm_aload_n (q := 107) (i := 0) hg dX5_insert_106 rfl rfl rfl ?_
            refine wm_get (q := 110) hg dX5_insert_107 rfl fl_X5_7 (by first | assumption | decide | omega | (simp only [nO]; omega)) rfl ?_
            refine wm_bipush (q := 112) 21 hg dX5_insert_110 rfl (by decide) ?_
            refine wm_iload (q := 114) (i := 4) hg dX5_insert_112 rfl rfl ?_
            refine wm_iadd (q := 115) hg dX5_insert_114 rfl ?_
            refine wm_aload_n (q := 116) (i := 0) hg dX5_insert_115 rfl rfl rfl ?_
            refine wm_get (q := 119) hg dX5_insert_116 rfl fl_X5_7 (by first | assumption | decide | omega | (simp only [nO]; omega)) rfl ?_
            refine wm_bipush (q := 121) 21 hg dX5_insert_119 rfl (by decide) ?_
            refine wm_iload (q := 123) (i := 4) hg dX5_insert_121 rfl rfl ?_
            refine wm_iadd (q := 124) hg dX5_insert_123 rfl ?_
            refine wm_iconst (q := 125) 1 hg dX5_insert_124 rfl (by decide) ?_
            refine wm_isub (q := 126) hg dX5_insert_125 rfl ?_
            refine wm_rload (q := 127) ((21 + (szN (N.1 1 0) - i)) - 1) hg dX5_insert_126 rfl rfl (nsub (a := (21 + (szN (N.1 1 0) - i))) (b := 1) (nadd (a := 21) (b := (szN (N.1 1 0) - i)) (rfl : (21 : Int32) = nI 21) rfl) (rfl : (1 : Int32) = nI 1) (by omega)) (by simp only [alen]; omega) ?_
            refine wm_rstore (q := 128) (21 + (szN (N.1 1 0) - i)) hg dX5_insert_127 rfl rfl (nadd (a := 21) (b := (szN (N.1 1 0) - i)) (rfl : (21 : Int32) = nI 21) rfl) (by simp only [alen]; omega) ?_
            refine wm_iinc (q := 131) (L' := [(0, _), (1, _), (2, _), (3, _), (4, _)]) (nI ((szN (N.1 1 0) - i) - 1)) hg dX5_insert_128 rfl rfl (ndec rfl (by omega)) rfl rfl ?_
            refine wm_goto (q := 58) hg dX5_insert_131 (by decide) ?_
            refine wm_Leq (by rw [Nat.sub_sub]) (wm_R (oA_st3 rfl) (ih (i + 1) (by omega) _ ?_ ?_ ?_))
            · refine rwE_cp (e := szN (N.1 1 0) - i) (f := szN (N.1 1 0) - i - 1) hE (by omega) (by omega) (by omega) (by omega) ?_ ?_ ?_ _
              · simp only [oA, updA_same]; exact congrArg w (by omega)
              · simp only [oA, updA_same, upd_ne _ _ (show 11 + (szN (N.1 1 0) - i) - 1 ≠ 1 + (szN (N.1 1 0) - i) by omega)]; exact congrArg w (by omega)
              · simp only [oA, updA_same, updA_updA, upd_ne _ _ (show 21 + (szN (N.1 1 0) - i) - 1 ≠ 11 + (szN (N.1 1 0) - i) by omega), upd_ne _ _ (show 21 + (szN (N.1 1 0) - i) - 1 ≠ 1 + (szN (N.1 1 0) - i) by omega)]; exact congrArg w (by omega)
            · rw [upd_ne _ _ (by omega), upd_ne _ _ (by omega), upd_ne _ _ (by omega)]; exact hw0
            · intro k hk; rw [w3_hi (by omega) hk]; exact hwK k hk
      · rw [hX0] at h3
        have h3a : ¬ (N.1 1 0).1 0 < 10 := by rw [h3]; decide
        refine wm_ldc (q := 40) (-1000000003) hg dX5_insert_38 rfl ld_X5_106 ?_
        exact wm_irret hg hr dX5_insert_40 (by unfold fIns; rw [if_neg h1, if_neg h2a, if_neg h3a]) (by unfold fIns; rw [if_neg h1, if_neg h2a, if_neg h3a]; exact hR)
    · have h2a : isAng a = 0 := h2
      refine wm_ldc (q := 26) (-1000000001) hg dX5_insert_24 rfl ld_X5_102 ?_
      exact wm_irret hg hr dX5_insert_26 (by unfold fIns; rw [if_neg h1, if_pos h2a]) (by unfold fIns; rw [if_neg h1, if_pos h2a]; exact hR)
