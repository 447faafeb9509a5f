/-! ===== the reference: run ===== -/
theorem LQ_G {R0 R : OV} {s : LoS} {up step h : Int32} {k : Nat} {w : Nat → Int32} {C : OV} (hh : stepsUp (nI k) up * step = h) (hC : RWs w (stR (oI s.1 6 h)).2 C) (hw : R.2 0 = w) (ht : R.1 10 = s.2.2.2.2.1 + nI (stR (oI s.1 6 h)).1) (ha : R.1 11 = lpA k up step s.2.1 s.2.2.2.2.2 (lpP (stR (oI s.1 6 h)).2)) (hz : R.1 12 = lpZ k up s.2.2.1 (lpP (stR (oI s.1 6 h)).2)) (hf : R.1 13 = lpF k up s.2.2.2.1 (lpP (stR (oI s.1 6 h)).2) h) (hk : RKl R0 R) : LQ R0 R (lpS up step k s) := by
  subst hh
  refine ⟨⟨C, by rw [hw]; exact hC⟩, ht, ha, hz, ?_, hk⟩
  rw [hf]
  have e : (lpR k up step s.1).2.1 6 = stepsUp (nI k) up * step := by
    unfold lpR
    rw [stR_1, oI_w]
  show _ = lpF k up s.2.2.2.1 (lpP (lpR k up step s.1).2) ((lpR k up step s.1).2.1 6)
  rw [e]
  rfl
theorem two_u (u : Nat) : (2 : Int32) * nI u = nI (2 * u) := pk_mul 2 u
theorem three_u (u : Nat) : (3 : Int32) * nI u = nI (3 * u) := pk_mul 3 u
theorem zb_neg {u b : Nat} (hu : u ≤ 100) (hb : b ≤ 100) : -nI (u * b) = Int32.ofInt (-(u : Int) * b) := by
  have hx := zb_b (z := -(u : Int)) (by omega) (by omega) hb
  rw [zb_n]
  apply Int32.toInt_inj.mp
  rw [zb_to (by omega) (by omega) hb, Int32.toInt_neg, zb_to (by omega) (by omega) hb, Int.neg_mul]
  rw [Int.neg_mul] at hx
  exact bm32 (by omega) (by omega)
theorem zb_0 {z : Int} {b : Nat} (h1 : -100 ≤ z) (h2 : z ≤ 100) (hb1 : 1 ≤ b) (hb : b ≤ 100) : Int32.ofInt (z * b) = 0 ↔ z = 0 := by
  constructor
  · intro h
    have e := congrArg Int32.toInt h
    rw [zb_to h1 h2 hb, show (0 : Int32).toInt = 0 from by decide] at e
    rcases Int.mul_eq_zero.mp e with z0 | b0
    · exact z0
    · omega
  · intro h
    rw [h, Int.zero_mul]
    rfl
theorem zb_sb {u b : Nat} (hu : u ≤ 10) (hb : b ≤ 100) : nI b - nI (u * b) = Int32.ofInt (((1 : Int) - u + ((0 : Nat) : Int)) * b) := by
  have hx := zb_b (z := (1 : Int) - u) (by omega) (by omega) hb
  have hy := zb_b (z := (u : Int)) (by omega) (by omega) hb
  have e : ((1 : Int) - u) * b = b - u * b := by rw [Int.sub_mul, Int.one_mul]
  apply Int32.toInt_inj.mp
  rw [show (1 : Int) - u + ((0 : Nat) : Int) = 1 - u by omega, zb_to (by omega) (by omega) hb, Int32.toInt_sub, zb_n, zb_to (by omega) (by omega) hb, nI_toInt (by omega), e]
  rw [e] at hx
  exact bm32 (by omega) (by omega)
set_option maxRecDepth 100000 in
set_option maxHeartbeats 4000000 in
theorem c_X5_run {Γ : GT} {M : Mem} {R X B : OV} {u b : Nat} {most step side : Int32} (hW : RWs (R.2 0) X B) (hu1 : 1 ≤ u) (hu : u ≤ 10) (hb1 : 1 ≤ b) (hb : b ≤ 100) (hm : most = nI (u * b)) (hst : step = nI b) (hsd : side = X.1 7) : CtR Γ yX5_run cX5_run 7 (some .int) 7 [.ref (ad Γ 5 0 0), .int most, .int step, .int side] M R (some (.int (lpI (nI u) (nI b) X (5 * u + 1)).2.2.2.2.2)) (fun R' => LQ R R' (lpI (nI u) (nI b) X (5 * u + 1))) := by
  refine ctr_of (by decide) (Nat.le_of_ble_eq_true rfl) (fun K hg hr => ?_)
  show WM Γ K _ [(0, _), (1, _), (2, _), (3, _)] 0 []
  have hsI : ∀ k, side = (lpI (nI u) (nI b) X k).1.1 7 := fun k => hsd.trans (lpI_f _ _ _ _ _ (by decide)).symm
  refine wm_aload_n (q := 1) (i := 0) hg dX5_run_0 rfl rfl rfl ?_
  refine wm_iconst (q := 2) 0 hg dX5_run_1 rfl (by decide) ?_
  refine wm_rput (q := 5) hg dX5_run_2 rfl fl_X5_144 rfl ?_
  refine wm_aload_n (q := 6) (i := 0) hg dX5_run_5 rfl rfl rfl ?_
  refine wm_iconst (q := 7) 0 hg dX5_run_6 rfl (by decide) ?_
  refine wm_rput (q := 10) hg dX5_run_7 rfl fl_X5_147 rfl ?_
  refine wm_aload_n (q := 11) (i := 0) hg dX5_run_10 rfl rfl rfl ?_
  refine wm_iconst (q := 12) 0 hg dX5_run_11 rfl (by decide) ?_
  refine wm_rput (q := 15) hg dX5_run_12 rfl fl_X5_150 rfl ?_
  refine wm_aload_n (q := 16) (i := 0) hg dX5_run_15 rfl rfl rfl ?_
  refine wm_ldc (q := 18) (-1000000009) hg dX5_run_16 rfl ld_X5_25 ?_
  refine wm_rput (q := 21) hg dX5_run_18 rfl fl_X5_153 rfl ?_
  refine wm_iconst (q := 22) 0 hg dX5_run_21 rfl (by decide) ?_
  refine wm_istore (q := 24) (i := 4) (L' := [(0, _), (1, _), (2, _), (3, _), (4, _)]) hg dX5_run_22 rfl rfl rfl ?_
  refine wm_iconst (q := 25) 0 hg dX5_run_24 rfl (by decide) ?_
  refine wm_istore (q := 27) (i := 5) (L' := [(0, _), (1, _), (2, _), (3, _), (4, _), (5, _)]) hg dX5_run_25 rfl rfl rfl ?_
  suffices hloop : ∀ (n i : Nat), i + n = (u + 1) → ∀ R1 : OV, LQ R R1 (lpI (nI u) (nI b) X i) → WM Γ K (sR M R1) [(0, .ref (ad Γ 5 0 0)), (1, .int most), (2, .int step), (3, .int side), (4, .int (lpI (nI u) (nI b) X i).2.2.2.2.2), (5, .int (Int32.ofInt (((i : Nat) : Int) * b)))] 27 [] from wm_Leq (by rw [show ((0 : Nat) : Int) * (b : Int) = 0 from Int.zero_mul _]; try rfl) (hloop (u + 1) 0 (by omega) (oI (oI (oI (oI R 10 0) 11 0) 12 0) 13 (-1000000009)) ⟨⟨B, hW⟩, by rw [oI_x _ _ (by decide), oI_x _ _ (by decide), oI_x _ _ (by decide), oI_w]; try rfl, by rw [oI_x _ _ (by decide), oI_x _ _ (by decide), oI_w]; try rfl, by rw [oI_x _ _ (by decide), oI_w]; try rfl, by rw [oI_w]; try rfl, (RKl_I _ (by decide)).tr ((RKl_I _ (by decide)).tr ((RKl_I _ (by decide)).tr (RKl_I _ (by decide))))⟩)
  intro n
  induction n with
  | zero =>
    intro i hi R1 hLQ
    obtain ⟨⟨B1, hB1⟩, a1, a2, a3, a4, a5⟩ := id hLQ
    refine wm_iload (q := 29) (i := 5) hg dX5_run_27 rfl rfl ?_
    refine wm_iload_n (q := 30) (i := 1) hg dX5_run_29 rfl rfl rfl ?_
    refine wm_icmp_gt (q := 51) (q2 := 33) hg dX5_run_30 (by decide) rfl (fun hcb => ?_) (fun hcb => ?_)
    · have he : i = u + 1 + 0 := by omega
      rw [he] at hLQ ⊢
      have hLQB := hLQ
      refine wm_iload_n (q := 52) (i := 1) hg dX5_run_51 rfl rfl rfl ?_
      refine wm_iload_n (q := 53) (i := 2) hg dX5_run_52 rfl rfl rfl ?_
      refine wm_isub (q := 54) hg dX5_run_53 rfl ?_
      refine wm_istore (q := 56) (i := 5) (L' := [(0, _), (1, _), (2, _), (3, _), (4, _), (5, _)]) hg dX5_run_54 rfl rfl rfl ?_
      suffices hloop : ∀ (n i : Nat), i + n = (2 * u) → ∀ R1 : OV, LQ R R1 (lpI (nI u) (nI b) X (u + 1 + i)) → WM Γ K (sR M R1) [(0, .ref (ad Γ 5 0 0)), (1, .int most), (2, .int step), (3, .int side), (4, .int (lpI (nI u) (nI b) X (u + 1 + i)).2.2.2.2.2), (5, .int (Int32.ofInt (((u : Int) - 1 - i) * b)))] 56 [] from wm_Leq (by rw [hm, hst, zb_n, zb_dn (by omega) (by omega) hb]; rw [show (u : Int) - 1 - ((0 : Nat) : Int) = (u : Int) - 1 by omega]) (hloop (2 * u) 0 (by omega) _ hLQB)
      intro n
      induction n with
      | zero =>
        intro i hi R1 hLQ
        obtain ⟨⟨B1, hB1⟩, a1, a2, a3, a4, a5⟩ := id hLQ
        refine wm_iload (q := 58) (i := 5) hg dX5_run_56 rfl rfl ?_
        refine wm_iload_n (q := 59) (i := 1) hg dX5_run_58 rfl rfl rfl ?_
        refine wm_ineg (q := 60) hg dX5_run_59 rfl ?_
        refine wm_icmp_lt (q := 147) (q2 := 63) hg dX5_run_60 (by decide) rfl (fun hcb => ?_) (fun hcb => ?_)
        · have he : u + 1 + i = 3 * u + 1 + 0 := by omega
          rw [he] at hLQ ⊢
          have hLQC := hLQ
          refine wm_iload_n (q := 148) (i := 2) hg dX5_run_147 rfl rfl rfl ?_
          refine wm_iload_n (q := 149) (i := 1) hg dX5_run_148 rfl rfl rfl ?_
          refine wm_isub (q := 150) hg dX5_run_149 rfl ?_
          refine wm_istore (q := 152) (i := 5) (L' := [(0, _), (1, _), (2, _), (3, _), (4, _), (5, _)]) hg dX5_run_150 rfl rfl rfl ?_
          suffices hloop : ∀ (n i : Nat), i + n = (2 * u) → ∀ R1 : OV, LQ R R1 (lpI (nI u) (nI b) X (3 * u + 1 + i)) → WM Γ K (sR M R1) [(0, .ref (ad Γ 5 0 0)), (1, .int most), (2, .int step), (3, .int side), (4, .int (lpI (nI u) (nI b) X (3 * u + 1 + i)).2.2.2.2.2), (5, .int (Int32.ofInt (((1 : Int) - u + i) * b)))] 152 [] from wm_Leq (by rw [hm, hst, zb_sb hu hb]; try rfl) (hloop (2 * u) 0 (by omega) _ hLQC)
          intro n
          induction n with
          | zero =>
            intro i hi R1 hLQ
            obtain ⟨⟨B1, hB1⟩, a1, a2, a3, a4, a5⟩ := id hLQ
            refine wm_iload (q := 154) (i := 5) hg dX5_run_152 rfl rfl ?_
            refine wm_iload_n (q := 155) (i := 1) hg dX5_run_154 rfl rfl rfl ?_
            refine wm_icmp_gt (q := 196) (q2 := 158) hg dX5_run_155 (by decide) rfl (fun hcb => ?_) (fun hcb => ?_)
            · have he : 3 * u + 1 + i = 5 * u + 1 := by omega
              rw [he] at hLQ ⊢
              refine wm_iload (q := 198) (i := 4) hg dX5_run_196 rfl rfl ?_
              exact wm_irret hg hr dX5_run_198 (rfl) (hLQ)
            · exact absurd (by rw [hm, zb_n]; exact (zb_lt (by omega) (by omega) (by omega) (by omega) hb1 hb).mpr (by omega)) hcb
          | succ n ih =>
            intro i hi R1 hLQ
            obtain ⟨⟨B1, hB1⟩, a1, a2, a3, a4, a5⟩ := id hLQ
            refine wm_iload (q := 154) (i := 5) hg dX5_run_152 rfl rfl ?_
            refine wm_iload_n (q := 155) (i := 1) hg dX5_run_154 rfl rfl rfl ?_
            refine wm_icmp_gt (q := 196) (q2 := 158) hg dX5_run_155 (by decide) rfl (fun hcb => ?_) (fun hcb => ?_)
            · exact absurd hcb (by rw [hm, zb_n]; exact fun y => absurd ((zb_lt (by omega) (by omega) (by omega) (by omega) hb1 hb).mp y) (by omega))
            · refine wm_aload_n (q := 159) (i := 0) hg dX5_run_158 rfl rfl rfl ?_
              refine wm_iload (q := 161) (i := 5) hg dX5_run_159 rfl rfl ?_
              refine wm_iload_n (q := 162) (i := 3) hg dX5_run_161 rfl rfl rfl ?_
              refine wm_callR1 (q := 165) hg dX5_run_162 rfl lk_X5_156 (by first | decide | omega) (c_X5_to (X := (lpI (nI u) (nI b) X (3 * u + 1 + i)).1) (B := B1) hB1 (hsI _)) (by first | assumption | decide | omega | (simp only [nO]; omega)) ⟨rfl, by decide⟩ rfl rfl (Nat.le_of_ble_eq_true rfl) (fun R2 ⟨wt, eR2, C2, hC2⟩ => ?_)
              subst eR2
              refine wm_istore (q := 167) (i := 6) (L' := [(0, _), (1, _), (2, _), (3, _), (4, _), (5, _), (6, _)]) hg dX5_run_165 rfl rfl rfl ?_
              refine wm_aload_n (q := 168) (i := 0) hg dX5_run_167 rfl rfl rfl ?_
              refine wm_dup (q := 169) hg dX5_run_168 rfl rfl ?_
              refine wm_rget (q := 172) hg dX5_run_169 rfl fl_X5_147 rfl ?_
              refine wm_iload (q := 174) (i := 4) hg dX5_run_172 rfl rfl ?_
              refine wm_iload (q := 176) (i := 6) hg dX5_run_174 rfl rfl ?_
              refine wm_iadd (q := 177) hg dX5_run_176 rfl ?_
              refine wm_iload_n (q := 178) (i := 2) hg dX5_run_177 rfl rfl rfl ?_
              refine wm_imul (q := 179) hg dX5_run_178 rfl ?_
              refine wm_iadd (q := 180) hg dX5_run_179 rfl ?_
              refine wm_rput (q := 183) hg dX5_run_180 rfl fl_X5_147 rfl ?_
              refine wm_iload (q := 185) (i := 6) hg dX5_run_183 rfl rfl ?_
              refine wm_istore (q := 187) (i := 4) (L' := [(0, _), (1, _), (2, _), (3, _), (4, _), (5, _), (6, _)]) hg dX5_run_185 rfl rfl rfl ?_
              refine wm_iload (q := 189) (i := 5) hg dX5_run_187 rfl rfl ?_
              refine wm_iload_n (q := 190) (i := 2) hg dX5_run_189 rfl rfl rfl ?_
              refine wm_iadd (q := 191) hg dX5_run_190 rfl ?_
              refine wm_istore (q := 193) (i := 5) (L' := [(0, _), (1, _), (2, _), (3, _), (4, _), (5, _), (6, _)]) hg dX5_run_191 rfl rfl rfl ?_
              refine wm_goto (q := 152) hg dX5_run_193 (by decide) ?_
              refine wm_L (L' := [(0, _), (1, _), (2, _), (3, _), (4, _), (5, _)]) [0, 1, 2, 3, 4, 5] rfl ?_
              have hh : stepsUp (nI (3 * u + 1 + i)) (nI u) * nI b = (Int32.ofInt (((1 : Int) - u + i) * b)) := by rw [su_z hu (by omega) hb]; unfold zk; rw [if_pos (by omega), if_pos (by omega)]; exact congrArg (fun y : Int => Int32.ofInt (y * b)) (by omega)
              have hP : (lpI (nI u) (nI b) X ((3 * u + 1 + i) + 1)).2.2.2.2.2 = lpP (stR (oI (lpI (nI u) (nI b) X (3 * u + 1 + i)).1 6 (Int32.ofInt (((1 : Int) - u + i) * b)))).2 := by rw [← hh]; rfl
              refine wm_Leq (by rw [← hP, hst, zb_up (by omega) (by omega) hb, show ((1 : Int) - u + i) + 1 = (1 : Int) - u + ((i + 1 : Nat) : Int) by omega]; try rfl) (ih (i + 1) (by omega) _ (LQ_G (s := lpI (nI u) (nI b) X (3 * u + 1 + i)) (k := (3 * u + 1 + i)) (h := (Int32.ofInt (((1 : Int) - u + i) * b))) (R := oI (oI (oA R1 0 wt) 10 (R1.1 10 + nI (stR (oI (lpI (nI u) (nI b) X (3 * u + 1 + i)).1 6 (Int32.ofInt (((1 : Int) - u + i) * b)))).1)) 11 (R1.1 11 + ((lpI (nI u) (nI b) X (3 * u + 1 + i)).2.2.2.2.2 + lpP (stR (oI (lpI (nI u) (nI b) X (3 * u + 1 + i)).1 6 (Int32.ofInt (((1 : Int) - u + i) * b)))).2) * step)) ?_ hC2 (updA_same R1.2 0 wt) ?_ ?_ ?_ ?_ ?_))
              · exact hh
              · rw [oI_x _ _ (by decide), oI_w, a1]
              · rw [oI_w, a2, hst]; unfold lpA; rw [three_u, if_neg (nI_ge (by omega) (by omega)), if_pos (nI_lt (by omega) (by omega))]
              · rw [oI_x _ _ (by decide), oI_x _ _ (by decide)]; unfold lpZ; rw [two_u, if_neg (fun y => absurd ((nI_eq (by omega) (by omega)).mp y) (by omega))]; exact a3
              · rw [oI_x _ _ (by decide), oI_x _ _ (by decide)]; unfold lpF; rw [three_u, if_neg (nI_ge (by omega) (by omega)), if_pos (nI_lt (by omega) (by omega))]; exact a4
              · exact a5.tr ((RKl_A _).tr ((RKl_I _ (by decide)).tr (RKl_I _ (by decide))))
        · exact absurd (by rw [hm, zb_neg (by omega) hb]; exact (zb_lt (by omega) (by omega) (by omega) (by omega) hb1 hb).mpr (by omega)) hcb
      | succ n ih =>
        intro i hi R1 hLQ
        obtain ⟨⟨B1, hB1⟩, a1, a2, a3, a4, a5⟩ := id hLQ
        refine wm_iload (q := 58) (i := 5) hg dX5_run_56 rfl rfl ?_
        refine wm_iload_n (q := 59) (i := 1) hg dX5_run_58 rfl rfl rfl ?_
        refine wm_ineg (q := 60) hg dX5_run_59 rfl ?_
        refine wm_icmp_lt (q := 147) (q2 := 63) hg dX5_run_60 (by decide) rfl (fun hcb => ?_) (fun hcb => ?_)
        · exact absurd hcb (by rw [hm, zb_neg (by omega) hb]; exact fun y => absurd ((zb_lt (by omega) (by omega) (by omega) (by omega) hb1 hb).mp y) (by omega))
        · refine wm_aload_n (q := 64) (i := 0) hg dX5_run_63 rfl rfl rfl ?_
          refine wm_iload (q := 66) (i := 5) hg dX5_run_64 rfl rfl ?_
          refine wm_iload_n (q := 67) (i := 3) hg dX5_run_66 rfl rfl rfl ?_
          refine wm_callR1 (q := 70) hg dX5_run_67 rfl lk_X5_156 (by first | decide | omega) (c_X5_to (X := (lpI (nI u) (nI b) X (u + 1 + i)).1) (B := B1) hB1 (hsI _)) (by first | assumption | decide | omega | (simp only [nO]; omega)) ⟨rfl, by decide⟩ rfl rfl (Nat.le_of_ble_eq_true rfl) (fun R2 ⟨wt, eR2, C2, hC2⟩ => ?_)
          subst eR2
          refine wm_istore (q := 72) (i := 6) (L' := [(0, _), (1, _), (2, _), (3, _), (4, _), (5, _), (6, _)]) hg dX5_run_70 rfl rfl rfl ?_
          refine wm_aload_n (q := 73) (i := 0) hg dX5_run_72 rfl rfl rfl ?_
          refine wm_dup (q := 74) hg dX5_run_73 rfl rfl ?_
          refine wm_rget (q := 77) hg dX5_run_74 rfl fl_X5_147 rfl ?_
          refine wm_iload (q := 79) (i := 4) hg dX5_run_77 rfl rfl ?_
          refine wm_iload (q := 81) (i := 6) hg dX5_run_79 rfl rfl ?_
          refine wm_iadd (q := 82) hg dX5_run_81 rfl ?_
          refine wm_iload_n (q := 83) (i := 2) hg dX5_run_82 rfl rfl rfl ?_
          refine wm_ineg (q := 84) hg dX5_run_83 rfl ?_
          refine wm_imul (q := 85) hg dX5_run_84 rfl ?_
          refine wm_iadd (q := 86) hg dX5_run_85 rfl ?_
          refine wm_rput (q := 89) hg dX5_run_86 rfl fl_X5_147 rfl ?_
          refine wm_iload (q := 91) (i := 6) hg dX5_run_89 rfl rfl ?_
          refine wm_istore (q := 93) (i := 4) (L' := [(0, _), (1, _), (2, _), (3, _), (4, _), (5, _), (6, _)]) hg dX5_run_91 rfl rfl rfl ?_
          refine wm_aload_n (q := 94) (i := 0) hg dX5_run_93 rfl rfl rfl ?_
          refine wm_iload (q := 96) (i := 5) hg dX5_run_94 rfl rfl ?_
          refine wm_if_ne (q := 104) (q2 := 99) hg dX5_run_96 (by decide) rfl (fun g0 => ?_) (fun g0 => ?_)
          · refine wm_aload_n (q := 105) (i := 0) hg dX5_run_104 rfl rfl rfl ?_
            refine wm_rget (q := 108) hg dX5_run_105 rfl fl_X5_150 rfl ?_
            refine wm_rput (q := 111) hg dX5_run_108 rfl fl_X5_150 rfl ?_
            refine wm_aload_n (q := 112) (i := 0) hg dX5_run_111 rfl rfl rfl ?_
            refine wm_aload_n (q := 113) (i := 0) hg dX5_run_112 rfl rfl rfl ?_
            refine wm_rget (q := 116) hg dX5_run_113 rfl fl_X5_153 rfl ?_
            refine wm_ldc (q := 118) (-1000000009) hg dX5_run_116 rfl ld_X5_25 ?_
            refine wm_icmp_ne (q := 131) (q2 := 121) hg dX5_run_118 (by decide) rfl (fun g1 => ?_) (fun g1 => ?_)
            · refine wm_aload_n (q := 132) (i := 0) hg dX5_run_131 rfl rfl rfl ?_
              refine wm_rget (q := 135) hg dX5_run_132 rfl fl_X5_153 rfl ?_
              refine wm_rput (q := 138) hg dX5_run_135 rfl fl_X5_153 rfl ?_
              refine wm_iload (q := 140) (i := 5) hg dX5_run_138 rfl rfl ?_
              refine wm_iload_n (q := 141) (i := 2) hg dX5_run_140 rfl rfl rfl ?_
              refine wm_isub (q := 142) hg dX5_run_141 rfl ?_
              refine wm_istore (q := 144) (i := 5) (L' := [(0, _), (1, _), (2, _), (3, _), (4, _), (5, _), (6, _)]) hg dX5_run_142 rfl rfl rfl ?_
              refine wm_goto (q := 56) hg dX5_run_144 (by decide) ?_
              refine wm_L (L' := [(0, _), (1, _), (2, _), (3, _), (4, _), (5, _)]) [0, 1, 2, 3, 4, 5] rfl ?_
              have hh : stepsUp (nI (u + 1 + i)) (nI u) * nI b = (Int32.ofInt (((u : Int) - 1 - i) * b)) := by rw [su_z hu (by omega) hb]; unfold zk; rw [if_pos (by omega), if_neg (by omega)]; exact congrArg (fun y : Int => Int32.ofInt (y * b)) (by omega)
              have hP : (lpI (nI u) (nI b) X ((u + 1 + i) + 1)).2.2.2.2.2 = lpP (stR (oI (lpI (nI u) (nI b) X (u + 1 + i)).1 6 (Int32.ofInt (((u : Int) - 1 - i) * b)))).2 := by rw [← hh]; rfl
              refine wm_Leq (by rw [← hP, hst, zb_dn (by omega) (by omega) hb, show ((u : Int) - 1 - i) - 1 = (u : Int) - 1 - ((i + 1 : Nat) : Int) by omega]; try rfl) (ih (i + 1) (by omega) _ (LQ_G (s := (lpI (nI u) (nI b) X (u + 1 + i))) (k := (u + 1 + i)) (h := (Int32.ofInt (((u : Int) - 1 - i) * b))) (R := oI (oI (oI (oI (oA R1 0 wt) 10 (R1.1 10 + nI (stR (oI (lpI (nI u) (nI b) X (u + 1 + i)).1 6 (Int32.ofInt (((u : Int) - 1 - i) * b)))).1)) 11 (R1.1 11 + ((lpI (nI u) (nI b) X (u + 1 + i)).2.2.2.2.2 + lpP (stR (oI (lpI (nI u) (nI b) X (u + 1 + i)).1 6 (Int32.ofInt (((u : Int) - 1 - i) * b)))).2) * -step)) 12 (R1.1 12)) 13 (R1.1 13)) ?_ hC2 (updA_same R1.2 0 wt) ?_ ?_ ?_ ?_ ?_))
              · exact hh
              · rw [oI_x _ _ (by decide), oI_x _ _ (by decide), oI_x _ _ (by decide), oI_w, a1]
              · rw [oI_x _ _ (by decide), oI_x _ _ (by decide), oI_w, a2, hst]; unfold lpA; rw [three_u, if_neg (nI_ge (by omega) (by omega)), if_neg (nI_nlt (by omega) (by omega))]
              · rw [oI_x _ _ (by decide), oI_w]; unfold lpZ; rw [two_u, if_neg (fun y => g0 ((zb_0 (by omega) (by omega) hb1 hb).mpr (by have := (nI_eq (by omega) (by omega)).mp y; omega)))]; exact a3
              · rw [oI_w]; unfold lpF; rw [three_u, if_neg (nI_ge (by omega) (by omega)), if_neg (nI_nlt (by omega) (by omega))]; split
                · exact a4
                · rw [if_neg (fun y => g1 (a4.trans y))]; exact a4
              · exact a5.tr ((RKl_A _).tr ((RKl_I _ (by decide)).tr ((RKl_I _ (by decide)).tr ((RKl_I _ (by decide)).tr (RKl_I _ (by decide))))))
            · refine wm_iload (q := 123) (i := 4) hg dX5_run_121 rfl rfl ?_
              refine wm_if_gt (q := 131) (q2 := 126) hg dX5_run_123 (by decide) rfl (fun g2 => ?_) (fun g2 => ?_)
              · refine wm_aload_n (q := 132) (i := 0) hg dX5_run_131 rfl rfl rfl ?_
                refine wm_rget (q := 135) hg dX5_run_132 rfl fl_X5_153 rfl ?_
                refine wm_rput (q := 138) hg dX5_run_135 rfl fl_X5_153 rfl ?_
                refine wm_iload (q := 140) (i := 5) hg dX5_run_138 rfl rfl ?_
                refine wm_iload_n (q := 141) (i := 2) hg dX5_run_140 rfl rfl rfl ?_
                refine wm_isub (q := 142) hg dX5_run_141 rfl ?_
                refine wm_istore (q := 144) (i := 5) (L' := [(0, _), (1, _), (2, _), (3, _), (4, _), (5, _), (6, _)]) hg dX5_run_142 rfl rfl rfl ?_
                refine wm_goto (q := 56) hg dX5_run_144 (by decide) ?_
                refine wm_L (L' := [(0, _), (1, _), (2, _), (3, _), (4, _), (5, _)]) [0, 1, 2, 3, 4, 5] rfl ?_
                have hh : stepsUp (nI (u + 1 + i)) (nI u) * nI b = (Int32.ofInt (((u : Int) - 1 - i) * b)) := by rw [su_z hu (by omega) hb]; unfold zk; rw [if_pos (by omega), if_neg (by omega)]; exact congrArg (fun y : Int => Int32.ofInt (y * b)) (by omega)
                have hP : (lpI (nI u) (nI b) X ((u + 1 + i) + 1)).2.2.2.2.2 = lpP (stR (oI (lpI (nI u) (nI b) X (u + 1 + i)).1 6 (Int32.ofInt (((u : Int) - 1 - i) * b)))).2 := by rw [← hh]; rfl
                refine wm_Leq (by rw [← hP, hst, zb_dn (by omega) (by omega) hb, show ((u : Int) - 1 - i) - 1 = (u : Int) - 1 - ((i + 1 : Nat) : Int) by omega]; try rfl) (ih (i + 1) (by omega) _ (LQ_G (s := (lpI (nI u) (nI b) X (u + 1 + i))) (k := (u + 1 + i)) (h := (Int32.ofInt (((u : Int) - 1 - i) * b))) (R := oI (oI (oI (oI (oA R1 0 wt) 10 (R1.1 10 + nI (stR (oI (lpI (nI u) (nI b) X (u + 1 + i)).1 6 (Int32.ofInt (((u : Int) - 1 - i) * b)))).1)) 11 (R1.1 11 + ((lpI (nI u) (nI b) X (u + 1 + i)).2.2.2.2.2 + lpP (stR (oI (lpI (nI u) (nI b) X (u + 1 + i)).1 6 (Int32.ofInt (((u : Int) - 1 - i) * b)))).2) * -step)) 12 (R1.1 12)) 13 (R1.1 13)) ?_ hC2 (updA_same R1.2 0 wt) ?_ ?_ ?_ ?_ ?_))
                · exact hh
                · rw [oI_x _ _ (by decide), oI_x _ _ (by decide), oI_x _ _ (by decide), oI_w, a1]
                · rw [oI_x _ _ (by decide), oI_x _ _ (by decide), oI_w, a2, hst]; unfold lpA; rw [three_u, if_neg (nI_ge (by omega) (by omega)), if_neg (nI_nlt (by omega) (by omega))]
                · rw [oI_x _ _ (by decide), oI_w]; unfold lpZ; rw [two_u, if_neg (fun y => g0 ((zb_0 (by omega) (by omega) hb1 hb).mpr (by have := (nI_eq (by omega) (by omega)).mp y; omega)))]; exact a3
                · rw [oI_w]; unfold lpF; rw [three_u, if_neg (nI_ge (by omega) (by omega)), if_neg (nI_nlt (by omega) (by omega))]; rw [if_pos g2]; exact a4
                · exact a5.tr ((RKl_A _).tr ((RKl_I _ (by decide)).tr ((RKl_I _ (by decide)).tr ((RKl_I _ (by decide)).tr (RKl_I _ (by decide))))))
              · refine wm_iload (q := 128) (i := 5) hg dX5_run_126 rfl rfl ?_
                refine wm_goto (q := 135) hg dX5_run_128 (by decide) ?_
                refine wm_rput (q := 138) hg dX5_run_135 rfl fl_X5_153 rfl ?_
                refine wm_iload (q := 140) (i := 5) hg dX5_run_138 rfl rfl ?_
                refine wm_iload_n (q := 141) (i := 2) hg dX5_run_140 rfl rfl rfl ?_
                refine wm_isub (q := 142) hg dX5_run_141 rfl ?_
                refine wm_istore (q := 144) (i := 5) (L' := [(0, _), (1, _), (2, _), (3, _), (4, _), (5, _), (6, _)]) hg dX5_run_142 rfl rfl rfl ?_
                refine wm_goto (q := 56) hg dX5_run_144 (by decide) ?_
                refine wm_L (L' := [(0, _), (1, _), (2, _), (3, _), (4, _), (5, _)]) [0, 1, 2, 3, 4, 5] rfl ?_
                have hh : stepsUp (nI (u + 1 + i)) (nI u) * nI b = (Int32.ofInt (((u : Int) - 1 - i) * b)) := by rw [su_z hu (by omega) hb]; unfold zk; rw [if_pos (by omega), if_neg (by omega)]; exact congrArg (fun y : Int => Int32.ofInt (y * b)) (by omega)
                have hP : (lpI (nI u) (nI b) X ((u + 1 + i) + 1)).2.2.2.2.2 = lpP (stR (oI (lpI (nI u) (nI b) X (u + 1 + i)).1 6 (Int32.ofInt (((u : Int) - 1 - i) * b)))).2 := by rw [← hh]; rfl
                refine wm_Leq (by rw [← hP, hst, zb_dn (by omega) (by omega) hb, show ((u : Int) - 1 - i) - 1 = (u : Int) - 1 - ((i + 1 : Nat) : Int) by omega]; try rfl) (ih (i + 1) (by omega) _ (LQ_G (s := (lpI (nI u) (nI b) X (u + 1 + i))) (k := (u + 1 + i)) (h := (Int32.ofInt (((u : Int) - 1 - i) * b))) (R := oI (oI (oI (oI (oA R1 0 wt) 10 (R1.1 10 + nI (stR (oI (lpI (nI u) (nI b) X (u + 1 + i)).1 6 (Int32.ofInt (((u : Int) - 1 - i) * b)))).1)) 11 (R1.1 11 + ((lpI (nI u) (nI b) X (u + 1 + i)).2.2.2.2.2 + lpP (stR (oI (lpI (nI u) (nI b) X (u + 1 + i)).1 6 (Int32.ofInt (((u : Int) - 1 - i) * b)))).2) * -step)) 12 (R1.1 12)) 13 ((Int32.ofInt (((u : Int) - 1 - i) * b)))) ?_ hC2 (updA_same R1.2 0 wt) ?_ ?_ ?_ ?_ ?_))
                · exact hh
                · rw [oI_x _ _ (by decide), oI_x _ _ (by decide), oI_x _ _ (by decide), oI_w, a1]
                · rw [oI_x _ _ (by decide), oI_x _ _ (by decide), oI_w, a2, hst]; unfold lpA; rw [three_u, if_neg (nI_ge (by omega) (by omega)), if_neg (nI_nlt (by omega) (by omega))]
                · rw [oI_x _ _ (by decide), oI_w]; unfold lpZ; rw [two_u, if_neg (fun y => g0 ((zb_0 (by omega) (by omega) hb1 hb).mpr (by have := (nI_eq (by omega) (by omega)).mp y; omega)))]; exact a3
                · rw [oI_w]; unfold lpF; rw [three_u, if_neg (nI_ge (by omega) (by omega)), if_neg (nI_nlt (by omega) (by omega))]; rw [if_neg g2, if_pos (a4.symm.trans g1)]
                · exact a5.tr ((RKl_A _).tr ((RKl_I _ (by decide)).tr ((RKl_I _ (by decide)).tr ((RKl_I _ (by decide)).tr (RKl_I _ (by decide))))))
          · refine wm_iload (q := 101) (i := 4) hg dX5_run_99 rfl rfl ?_
            refine wm_goto (q := 108) hg dX5_run_101 (by decide) ?_
            refine wm_rput (q := 111) hg dX5_run_108 rfl fl_X5_150 rfl ?_
            refine wm_aload_n (q := 112) (i := 0) hg dX5_run_111 rfl rfl rfl ?_
            refine wm_aload_n (q := 113) (i := 0) hg dX5_run_112 rfl rfl rfl ?_
            refine wm_rget (q := 116) hg dX5_run_113 rfl fl_X5_153 rfl ?_
            refine wm_ldc (q := 118) (-1000000009) hg dX5_run_116 rfl ld_X5_25 ?_
            refine wm_icmp_ne (q := 131) (q2 := 121) hg dX5_run_118 (by decide) rfl (fun g1 => ?_) (fun g1 => ?_)
            · refine wm_aload_n (q := 132) (i := 0) hg dX5_run_131 rfl rfl rfl ?_
              refine wm_rget (q := 135) hg dX5_run_132 rfl fl_X5_153 rfl ?_
              refine wm_rput (q := 138) hg dX5_run_135 rfl fl_X5_153 rfl ?_
              refine wm_iload (q := 140) (i := 5) hg dX5_run_138 rfl rfl ?_
              refine wm_iload_n (q := 141) (i := 2) hg dX5_run_140 rfl rfl rfl ?_
              refine wm_isub (q := 142) hg dX5_run_141 rfl ?_
              refine wm_istore (q := 144) (i := 5) (L' := [(0, _), (1, _), (2, _), (3, _), (4, _), (5, _), (6, _)]) hg dX5_run_142 rfl rfl rfl ?_
              refine wm_goto (q := 56) hg dX5_run_144 (by decide) ?_
              refine wm_L (L' := [(0, _), (1, _), (2, _), (3, _), (4, _), (5, _)]) [0, 1, 2, 3, 4, 5] rfl ?_
              have hh : stepsUp (nI (u + 1 + i)) (nI u) * nI b = (Int32.ofInt (((u : Int) - 1 - i) * b)) := by rw [su_z hu (by omega) hb]; unfold zk; rw [if_pos (by omega), if_neg (by omega)]; exact congrArg (fun y : Int => Int32.ofInt (y * b)) (by omega)
              have hP : (lpI (nI u) (nI b) X ((u + 1 + i) + 1)).2.2.2.2.2 = lpP (stR (oI (lpI (nI u) (nI b) X (u + 1 + i)).1 6 (Int32.ofInt (((u : Int) - 1 - i) * b)))).2 := by rw [← hh]; rfl
              refine wm_Leq (by rw [← hP, hst, zb_dn (by omega) (by omega) hb, show ((u : Int) - 1 - i) - 1 = (u : Int) - 1 - ((i + 1 : Nat) : Int) by omega]; try rfl) (ih (i + 1) (by omega) _ (LQ_G (s := (lpI (nI u) (nI b) X (u + 1 + i))) (k := (u + 1 + i)) (h := (Int32.ofInt (((u : Int) - 1 - i) * b))) (R := oI (oI (oI (oI (oA R1 0 wt) 10 (R1.1 10 + nI (stR (oI (lpI (nI u) (nI b) X (u + 1 + i)).1 6 (Int32.ofInt (((u : Int) - 1 - i) * b)))).1)) 11 (R1.1 11 + ((lpI (nI u) (nI b) X (u + 1 + i)).2.2.2.2.2 + lpP (stR (oI (lpI (nI u) (nI b) X (u + 1 + i)).1 6 (Int32.ofInt (((u : Int) - 1 - i) * b)))).2) * -step)) 12 (lpP (stR (oI (lpI (nI u) (nI b) X (u + 1 + i)).1 6 (Int32.ofInt (((u : Int) - 1 - i) * b)))).2)) 13 (R1.1 13)) ?_ hC2 (updA_same R1.2 0 wt) ?_ ?_ ?_ ?_ ?_))
              · exact hh
              · rw [oI_x _ _ (by decide), oI_x _ _ (by decide), oI_x _ _ (by decide), oI_w, a1]
              · rw [oI_x _ _ (by decide), oI_x _ _ (by decide), oI_w, a2, hst]; unfold lpA; rw [three_u, if_neg (nI_ge (by omega) (by omega)), if_neg (nI_nlt (by omega) (by omega))]
              · rw [oI_x _ _ (by decide), oI_w]; unfold lpZ; rw [two_u, if_pos ((nI_eq (by omega) (by omega)).mpr (by have := (zb_0 (by omega) (by omega) hb1 hb).mp g0; omega))]
              · rw [oI_w]; unfold lpF; rw [three_u, if_neg (nI_ge (by omega) (by omega)), if_neg (nI_nlt (by omega) (by omega))]; split
                · exact a4
                · rw [if_neg (fun y => g1 (a4.trans y))]; exact a4
              · exact a5.tr ((RKl_A _).tr ((RKl_I _ (by decide)).tr ((RKl_I _ (by decide)).tr ((RKl_I _ (by decide)).tr (RKl_I _ (by decide))))))
            · refine wm_iload (q := 123) (i := 4) hg dX5_run_121 rfl rfl ?_
              refine wm_if_gt (q := 131) (q2 := 126) hg dX5_run_123 (by decide) rfl (fun g2 => ?_) (fun g2 => ?_)
              · refine wm_aload_n (q := 132) (i := 0) hg dX5_run_131 rfl rfl rfl ?_
                refine wm_rget (q := 135) hg dX5_run_132 rfl fl_X5_153 rfl ?_
                refine wm_rput (q := 138) hg dX5_run_135 rfl fl_X5_153 rfl ?_
                refine wm_iload (q := 140) (i := 5) hg dX5_run_138 rfl rfl ?_
                refine wm_iload_n (q := 141) (i := 2) hg dX5_run_140 rfl rfl rfl ?_
                refine wm_isub (q := 142) hg dX5_run_141 rfl ?_
                refine wm_istore (q := 144) (i := 5) (L' := [(0, _), (1, _), (2, _), (3, _), (4, _), (5, _), (6, _)]) hg dX5_run_142 rfl rfl rfl ?_
                refine wm_goto (q := 56) hg dX5_run_144 (by decide) ?_
                refine wm_L (L' := [(0, _), (1, _), (2, _), (3, _), (4, _), (5, _)]) [0, 1, 2, 3, 4, 5] rfl ?_
                have hh : stepsUp (nI (u + 1 + i)) (nI u) * nI b = (Int32.ofInt (((u : Int) - 1 - i) * b)) := by rw [su_z hu (by omega) hb]; unfold zk; rw [if_pos (by omega), if_neg (by omega)]; exact congrArg (fun y : Int => Int32.ofInt (y * b)) (by omega)
                have hP : (lpI (nI u) (nI b) X ((u + 1 + i) + 1)).2.2.2.2.2 = lpP (stR (oI (lpI (nI u) (nI b) X (u + 1 + i)).1 6 (Int32.ofInt (((u : Int) - 1 - i) * b)))).2 := by rw [← hh]; rfl
                refine wm_Leq (by rw [← hP, hst, zb_dn (by omega) (by omega) hb, show ((u : Int) - 1 - i) - 1 = (u : Int) - 1 - ((i + 1 : Nat) : Int) by omega]; try rfl) (ih (i + 1) (by omega) _ (LQ_G (s := (lpI (nI u) (nI b) X (u + 1 + i))) (k := (u + 1 + i)) (h := (Int32.ofInt (((u : Int) - 1 - i) * b))) (R := oI (oI (oI (oI (oA R1 0 wt) 10 (R1.1 10 + nI (stR (oI (lpI (nI u) (nI b) X (u + 1 + i)).1 6 (Int32.ofInt (((u : Int) - 1 - i) * b)))).1)) 11 (R1.1 11 + ((lpI (nI u) (nI b) X (u + 1 + i)).2.2.2.2.2 + lpP (stR (oI (lpI (nI u) (nI b) X (u + 1 + i)).1 6 (Int32.ofInt (((u : Int) - 1 - i) * b)))).2) * -step)) 12 (lpP (stR (oI (lpI (nI u) (nI b) X (u + 1 + i)).1 6 (Int32.ofInt (((u : Int) - 1 - i) * b)))).2)) 13 (R1.1 13)) ?_ hC2 (updA_same R1.2 0 wt) ?_ ?_ ?_ ?_ ?_))
                · exact hh
                · rw [oI_x _ _ (by decide), oI_x _ _ (by decide), oI_x _ _ (by decide), oI_w, a1]
                · rw [oI_x _ _ (by decide), oI_x _ _ (by decide), oI_w, a2, hst]; unfold lpA; rw [three_u, if_neg (nI_ge (by omega) (by omega)), if_neg (nI_nlt (by omega) (by omega))]
                · rw [oI_x _ _ (by decide), oI_w]; unfold lpZ; rw [two_u, if_pos ((nI_eq (by omega) (by omega)).mpr (by have := (zb_0 (by omega) (by omega) hb1 hb).mp g0; omega))]
                · rw [oI_w]; unfold lpF; rw [three_u, if_neg (nI_ge (by omega) (by omega)), if_neg (nI_nlt (by omega) (by omega))]; rw [if_pos g2]; exact a4
                · exact a5.tr ((RKl_A _).tr ((RKl_I _ (by decide)).tr ((RKl_I _ (by decide)).tr ((RKl_I _ (by decide)).tr (RKl_I _ (by decide))))))
              · refine wm_iload (q := 128) (i := 5) hg dX5_run_126 rfl rfl ?_
                refine wm_goto (q := 135) hg dX5_run_128 (by decide) ?_
                refine wm_rput (q := 138) hg dX5_run_135 rfl fl_X5_153 rfl ?_
                refine wm_iload (q := 140) (i := 5) hg dX5_run_138 rfl rfl ?_
                refine wm_iload_n (q := 141) (i := 2) hg dX5_run_140 rfl rfl rfl ?_
                refine wm_isub (q := 142) hg dX5_run_141 rfl ?_
                refine wm_istore (q := 144) (i := 5) (L' := [(0, _), (1, _), (2, _), (3, _), (4, _), (5, _), (6, _)]) hg dX5_run_142 rfl rfl rfl ?_
                refine wm_goto (q := 56) hg dX5_run_144 (by decide) ?_
                refine wm_L (L' := [(0, _), (1, _), (2, _), (3, _), (4, _), (5, _)]) [0, 1, 2, 3, 4, 5] rfl ?_
                have hh : stepsUp (nI (u + 1 + i)) (nI u) * nI b = (Int32.ofInt (((u : Int) - 1 - i) * b)) := by rw [su_z hu (by omega) hb]; unfold zk; rw [if_pos (by omega), if_neg (by omega)]; exact congrArg (fun y : Int => Int32.ofInt (y * b)) (by omega)
                have hP : (lpI (nI u) (nI b) X ((u + 1 + i) + 1)).2.2.2.2.2 = lpP (stR (oI (lpI (nI u) (nI b) X (u + 1 + i)).1 6 (Int32.ofInt (((u : Int) - 1 - i) * b)))).2 := by rw [← hh]; rfl
                refine wm_Leq (by rw [← hP, hst, zb_dn (by omega) (by omega) hb, show ((u : Int) - 1 - i) - 1 = (u : Int) - 1 - ((i + 1 : Nat) : Int) by omega]; try rfl) (ih (i + 1) (by omega) _ (LQ_G (s := (lpI (nI u) (nI b) X (u + 1 + i))) (k := (u + 1 + i)) (h := (Int32.ofInt (((u : Int) - 1 - i) * b))) (R := oI (oI (oI (oI (oA R1 0 wt) 10 (R1.1 10 + nI (stR (oI (lpI (nI u) (nI b) X (u + 1 + i)).1 6 (Int32.ofInt (((u : Int) - 1 - i) * b)))).1)) 11 (R1.1 11 + ((lpI (nI u) (nI b) X (u + 1 + i)).2.2.2.2.2 + lpP (stR (oI (lpI (nI u) (nI b) X (u + 1 + i)).1 6 (Int32.ofInt (((u : Int) - 1 - i) * b)))).2) * -step)) 12 (lpP (stR (oI (lpI (nI u) (nI b) X (u + 1 + i)).1 6 (Int32.ofInt (((u : Int) - 1 - i) * b)))).2)) 13 ((Int32.ofInt (((u : Int) - 1 - i) * b)))) ?_ hC2 (updA_same R1.2 0 wt) ?_ ?_ ?_ ?_ ?_))
                · exact hh
                · rw [oI_x _ _ (by decide), oI_x _ _ (by decide), oI_x _ _ (by decide), oI_w, a1]
                · rw [oI_x _ _ (by decide), oI_x _ _ (by decide), oI_w, a2, hst]; unfold lpA; rw [three_u, if_neg (nI_ge (by omega) (by omega)), if_neg (nI_nlt (by omega) (by omega))]
                · rw [oI_x _ _ (by decide), oI_w]; unfold lpZ; rw [two_u, if_pos ((nI_eq (by omega) (by omega)).mpr (by have := (zb_0 (by omega) (by omega) hb1 hb).mp g0; omega))]
                · rw [oI_w]; unfold lpF; rw [three_u, if_neg (nI_ge (by omega) (by omega)), if_neg (nI_nlt (by omega) (by omega))]; rw [if_neg g2, if_pos (a4.symm.trans g1)]
                · exact a5.tr ((RKl_A _).tr ((RKl_I _ (by decide)).tr ((RKl_I _ (by decide)).tr ((RKl_I _ (by decide)).tr (RKl_I _ (by decide))))))
    · exact absurd (by rw [hm, zb_n]; exact (zb_lt (by omega) (by omega) (by omega) (by omega) hb1 hb).mpr (by omega)) hcb
  | succ n ih =>
    intro i hi R1 hLQ
    obtain ⟨⟨B1, hB1⟩, a1, a2, a3, a4, a5⟩ := id hLQ
    refine wm_iload (q := 29) (i := 5) hg dX5_run_27 rfl rfl ?_
    refine wm_iload_n (q := 30) (i := 1) hg dX5_run_29 rfl rfl rfl ?_
    refine wm_icmp_gt (q := 51) (q2 := 33) hg dX5_run_30 (by decide) rfl (fun hcb => ?_) (fun hcb => ?_)
    · exact absurd hcb (by rw [hm, zb_n]; exact fun y => absurd ((zb_lt (by omega) (by omega) (by omega) (by omega) hb1 hb).mp y) (by omega))
    · refine wm_aload_n (q := 34) (i := 0) hg dX5_run_33 rfl rfl rfl ?_
      refine wm_iload (q := 36) (i := 5) hg dX5_run_34 rfl rfl ?_
      refine wm_iload_n (q := 37) (i := 3) hg dX5_run_36 rfl rfl rfl ?_
      refine wm_callR1 (q := 40) hg dX5_run_37 rfl lk_X5_156 (by first | decide | omega) (c_X5_to (X := (lpI (nI u) (nI b) X i).1) (B := B1) hB1 (hsI _)) (by first | assumption | decide | omega | (simp only [nO]; omega)) ⟨rfl, by decide⟩ rfl rfl (Nat.le_of_ble_eq_true rfl) (fun R2 ⟨wt, eR2, C2, hC2⟩ => ?_)
      subst eR2
      refine wm_istore (q := 42) (i := 4) (L' := [(0, _), (1, _), (2, _), (3, _), (4, _), (5, _)]) hg dX5_run_40 rfl rfl rfl ?_
      refine wm_iload (q := 44) (i := 5) hg dX5_run_42 rfl rfl ?_
      refine wm_iload_n (q := 45) (i := 2) hg dX5_run_44 rfl rfl rfl ?_
      refine wm_iadd (q := 46) hg dX5_run_45 rfl ?_
      refine wm_istore (q := 48) (i := 5) (L' := [(0, _), (1, _), (2, _), (3, _), (4, _), (5, _)]) hg dX5_run_46 rfl rfl rfl ?_
      refine wm_goto (q := 27) hg dX5_run_48 (by decide) ?_
      have hh : stepsUp (nI i) (nI u) * nI b = (Int32.ofInt (((i : Nat) : Int) * b)) := by rw [su_z hu (by omega) hb]; unfold zk; rw [if_neg (by omega)]
      have hP : (lpI (nI u) (nI b) X (i + 1)).2.2.2.2.2 = lpP (stR (oI (lpI (nI u) (nI b) X i).1 6 (Int32.ofInt (((i : Nat) : Int) * b)))).2 := by rw [← hh]; rfl
      refine wm_Leq (by rw [← hP, hst, zb_up (by omega) (by omega) hb, show ((i : Nat) : Int) + 1 = ((i + 1 : Nat) : Int) by omega]; try rfl) (ih (i + 1) (by omega) _ (LQ_G (s := (lpI (nI u) (nI b) X i)) (k := i) (h := (Int32.ofInt (((i : Nat) : Int) * b))) (R := oI (oA R1 0 wt) 10 (R1.1 10 + nI (stR (oI (lpI (nI u) (nI b) X i).1 6 (Int32.ofInt (((i : Nat) : Int) * b)))).1)) ?_ hC2 (updA_same R1.2 0 wt) ?_ ?_ ?_ ?_ ?_))
      · exact hh
      · rw [oI_w, a1]
      · rw [oI_x _ _ (by decide)]; unfold lpA; rw [if_pos (nI_le (by omega) (by omega))]; exact a2
      · rw [oI_x _ _ (by decide)]; unfold lpZ; rw [two_u, if_neg (fun y => absurd ((nI_eq (by omega) (by omega)).mp y) (by omega))]; exact a3
      · rw [oI_x _ _ (by decide)]; unfold lpF; rw [if_pos (nI_le (by omega) (by omega))]; exact a4
      · exact a5.tr ((RKl_A _).tr (RKl_I _ (by decide)))
