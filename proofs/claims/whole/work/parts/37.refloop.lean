/-! ===== the reference: loop ===== -/
def loV (s : LoS) (c : Nat) : Int32 := match c with
  | 0 => s.2.1
  | 1 => s.2.2.1
  | 2 => s.2.2.2.1
  | 3 => s.2.2.2.2.1
  | _ => s.2.2.2.2.2
theorem fLoop_c {N : Mem} {most step : Int32} {u b c : Nat} {S : LoS} (hS : S = lpI (nI u) (nI b) (N.1 1 0) (5 * u + 1)) (hLp : ¬ isLp most step = 0) (h3 : ¬ wthn (nI c) 0 4 = 0) (hN : lpN most step = 5 * u + 1) (hdv : most / step = nI u) (hst : step = nI b) (hc : c ≤ 4) : fLoop N most step (nI c) = (loV S c, sO N 1 11 S.1) := by
  unfold fLoop
  rw [if_neg hLp, if_neg h3, hN, hdv, hst, ← hS]
  rcases (show c = 0 ∨ c = 1 ∨ c = 2 ∨ c = 3 ∨ c = 4 by omega) with rfl | rfl | rfl | rfl | rfl <;> rfl
set_option maxRecDepth 100000 in
set_option maxHeartbeats 4000000 in
theorem c_X5_loop {Γ : GT} {M N : Mem} {R : OV} {most step v : Int32} (hR : RI N R) : CtR Γ yX5_loop cX5_loop 5 (some .int) 8 [.ref (ad Γ 5 0 0), .int most, .int step, .int v] M R (some (.int (fLoop N most step v).1)) (fun R' => RI (fLoop N most step v).2 R') := by
  refine ctr_of (by decide) (Nat.le_of_ble_eq_true rfl) (fun K hg hr => ?_)
  show WM Γ K _ [(0, _), (1, _), (2, _), (3, _)] 0 []
  have hz : ok10 (N.1 1 0) := hR.1.2.1 0 (by decide)
  have hz1 := hz.1
  have hz2 := hz.2
  have hX0 : R.2 0 0 = (N.1 1 0).1 0 := hR.2.1.1.2.1.1
  refine wm_iload_n (q := 1) (i := 1) hg dX5_loop_0 rfl rfl rfl ?_
  refine wm_iconst (q := 2) 1 hg dX5_loop_1 rfl (by decide) ?_
  refine wm_bipush (q := 4) 100 hg dX5_loop_2 rfl (by decide) ?_
  refine wm_callS1 (q := 7) hg dX5_loop_4 rfl lk_X5_52 (by first | decide | omega) c_X5_isIn rfl rfl (Nat.le_of_ble_eq_true rfl) ?_
  refine wm_if_eq (q := 43) (q2 := 10) hg dX5_loop_7 (by decide) rfl (fun h1 => ?_) (fun h1 => ?_)
  · have hF : fLoop N most step v = (-1000000001, N) := by
      have hL : isLp most step = 0 := by unfold isLp; rw [if_pos h1]
      unfold fLoop; rw [if_pos hL]
    refine wm_ldc (q := 45) (-1000000001) hg dX5_loop_43 rfl ld_X5_102 ?_
    exact wm_irret hg hr dX5_loop_45 (by rw [hF]) (by rw [hF]; exact hR)
  · refine wm_iload_n (q := 11) (i := 2) hg dX5_loop_10 rfl rfl rfl ?_
    refine wm_iconst (q := 12) 1 hg dX5_loop_11 rfl (by decide) ?_
    refine wm_bipush (q := 14) 100 hg dX5_loop_12 rfl (by decide) ?_
    refine wm_callS1 (q := 17) hg dX5_loop_14 rfl lk_X5_52 (by first | decide | omega) c_X5_isIn rfl rfl (Nat.le_of_ble_eq_true rfl) ?_
    refine wm_if_eq (q := 43) (q2 := 20) hg dX5_loop_17 (by decide) rfl (fun h2 => ?_) (fun h2 => ?_)
    · have hF : fLoop N most step v = (-1000000001, N) := by
        have hL : isLp most step = 0 := by unfold isLp; rw [if_neg h1, if_pos h2]
        unfold fLoop; rw [if_pos hL]
      refine wm_ldc (q := 45) (-1000000001) hg dX5_loop_43 rfl ld_X5_102 ?_
      exact wm_irret hg hr dX5_loop_45 (by rw [hF]) (by rw [hF]; exact hR)
    · refine wm_iload_n (q := 21) (i := 3) hg dX5_loop_20 rfl rfl rfl ?_
      refine wm_iconst (q := 22) 0 hg dX5_loop_21 rfl (by decide) ?_
      refine wm_iconst (q := 23) 4 hg dX5_loop_22 rfl (by decide) ?_
      refine wm_callS1 (q := 26) hg dX5_loop_23 rfl lk_X5_52 (by first | decide | omega) c_X5_isIn rfl rfl (Nat.le_of_ble_eq_true rfl) ?_
      refine wm_if_eq (q := 43) (q2 := 29) hg dX5_loop_26 (by decide) rfl (fun h3 => ?_) (fun h3 => ?_)
      · have hF : fLoop N most step v = (-1000000001, N) := by
          unfold fLoop
          by_cases hL : isLp most step = 0
          · rw [if_pos hL]
          · rw [if_neg hL, if_pos h3]
        refine wm_ldc (q := 45) (-1000000001) hg dX5_loop_43 rfl ld_X5_102 ?_
        exact wm_irret hg hr dX5_loop_45 (by rw [hF]) (by rw [hF]; exact hR)
      · have hs0 : ¬ step = 0 := fun z => h2 (by rw [z]; decide)
        refine wm_iload_n (q := 30) (i := 1) hg dX5_loop_29 rfl rfl rfl ?_
        refine wm_iload_n (q := 31) (i := 2) hg dX5_loop_30 rfl rfl rfl ?_
        refine wm_irem (q := 32) hg dX5_loop_31 rfl hs0 ?_
        refine wm_if_ne (q := 43) (q2 := 35) hg dX5_loop_32 (by decide) rfl (fun h4 => ?_) (fun h4 => ?_)
        · have hF : fLoop N most step v = (-1000000001, N) := by
            have hL : isLp most step = 0 := by unfold isLp; rw [if_neg h1, if_neg h2, if_neg h4]; split <;> rfl
            unfold fLoop; rw [if_pos hL]
          refine wm_ldc (q := 45) (-1000000001) hg dX5_loop_43 rfl ld_X5_102 ?_
          exact wm_irret hg hr dX5_loop_45 (by rw [hF]) (by rw [hF]; exact hR)
        · refine wm_bipush (q := 37) 10 hg dX5_loop_35 rfl (by decide) ?_
          refine wm_iload_n (q := 38) (i := 2) hg dX5_loop_37 rfl rfl rfl ?_
          refine wm_imul (q := 39) hg dX5_loop_38 rfl ?_
          refine wm_iload_n (q := 40) (i := 1) hg dX5_loop_39 rfl rfl rfl ?_
          refine wm_icmp_ge (q := 46) (q2 := 43) hg dX5_loop_40 (by decide) rfl (fun h5 => ?_) (fun h5 => ?_)
          · have hLp : ¬ isLp most step = 0 := by
              unfold isLp
              rw [if_neg h1, if_neg h2, if_neg (by rw [Int32.mul_comm]; exact Int32.not_lt.mpr h5), if_pos h4]
              decide
            obtain ⟨a, b, ha1, ha2, hb1, hb2, hma, hst, hab, hmod⟩ := isLp_n hLp
            obtain ⟨u, hu⟩ : ∃ u, u = a / b := ⟨_, rfl⟩
            have hdm := Nat.div_add_mod a b
            rw [← hu, hmod, Nat.add_zero] at hdm
            have hm : most = nI (u * b) := by rw [hma, ← hdm, Nat.mul_comm]
            have hu1 : 1 ≤ u := Nat.pos_of_ne_zero (fun z => by rw [z, Nat.mul_zero] at hdm; omega)
            have hu10 : u ≤ 10 := by rcases Nat.lt_or_ge 10 u with z | z; { have := Nat.mul_le_mul_left b z; omega }; exact z
            have hdv : most / step = nI u := by rw [hma, hst, hu]; exact pk_div (by omega) (by omega) (by omega)
            have hN : lpN most step = 5 * u + 1 := by unfold lpN; rw [hdv, nI_clamp (by omega)]
            obtain ⟨c, -, hc4, rfl⟩ := wthn_n (lo := 0) (hi := 4) h3 (by decide) (by decide)
            obtain ⟨S, hS⟩ : ∃ S, S = lpI (nI u) (nI b) (N.1 1 0) (5 * u + 1) := ⟨_, rfl⟩
            have hokS : ok10 S.1 := by rw [hS]; exact lpI_1 _ _ _ _ hz
            have hFc := fun z => fLoop_c (N := N) (c := c) hS hLp z hN hdv hst hc4
            have hFd := hFc h3
            rw [hFd] at hr
            refine wm_aload_n (q := 47) (i := 0) hg dX5_loop_46 rfl rfl rfl ?_
            refine wm_callV0 (q := 50) hg dX5_loop_47 rfl lk_X5_138 (by first | decide | omega) c_X5_putAside (by first | assumption | decide | omega | (simp only [nO]; omega)) ⟨rfl, by decide⟩ rfl rfl (Nat.le_of_ble_eq_true rfl) ?_
            refine wm_aload_n (q := 51) (i := 0) hg dX5_loop_50 rfl rfl rfl ?_
            refine wm_iload_n (q := 52) (i := 1) hg dX5_loop_51 rfl rfl rfl ?_
            refine wm_iload_n (q := 53) (i := 2) hg dX5_loop_52 rfl rfl rfl ?_
            refine wm_aload_n (q := 54) (i := 0) hg dX5_loop_53 rfl rfl rfl ?_
            refine wm_get (q := 57) hg dX5_loop_54 rfl fl_X5_7 (by first | assumption | decide | omega | (simp only [nO]; omega)) rfl ?_
            refine wm_bipush (q := 59) 34 hg dX5_loop_57 rfl (by decide) ?_
            refine wm_rload (q := 60) 34 hg dX5_loop_59 rfl rfl (rfl : (34 : Int32) = nI 34) (by simp only [alen]; omega) ?_
            refine wm_callR1 (q := 63) hg dX5_loop_60 rfl lk_X5_159 (by first | decide | omega) (c_X5_run (R := (oA R 9 (cpyF (R.2 9) 0 (R.2 0) 130))) (X := (N.1 1 0)) (B := N.1 0 0) (u := u) (b := b) hR.2.1.1 hu1 hu10 hb1 hb2 hm hst hR.2.1.2.2) (by first | assumption | decide | omega | (simp only [nO]; omega)) ⟨rfl, by decide⟩ rfl rfl (Nat.le_of_ble_eq_true rfl) (fun R2 hLQ => ?_)
            rw [← hS] at hLQ
            obtain ⟨-, q1, q2, q3, q4, q5⟩ := hLQ
            rw [← hS]
            have hcp : ∀ (f : Nat → Int32) (k : Nat), k < 130 → cpyF f 0 (R2.2 9) 130 k = R2.2 9 k := fun f k hk => by have e := cpyF_in f 0 (R2.2 9) hk; rw [Nat.zero_add] at e; exact e
            have h29 : R2.2 9 = cpyF (R.2 9) 0 (R.2 0) 130 := (q5.1 9 (by decide)).trans (updA_same R.2 9 _)
            have hcq : ∀ k, k < 130 → R2.2 9 k = R.2 0 k := fun k hk => by rw [h29]; have e := cpyF_in (R.2 9) 0 (R.2 0) hk; rw [Nat.zero_add] at e; exact e
            have hA2 : ∀ s, s ≠ 0 → s ≠ 9 → R2.2 s = R.2 s := fun s e1 e2 => (q5.1 s e1).trans (oA_x R (cpyF (R.2 9) 0 (R.2 0) 130) e2)
            have hI2 : ∀ j, j < 10 → R2.1 j = R.1 j := fun j e1 => q5.2 j e1
            have hSm : Sm R (oA R2 0 (cpyF (R2.2 0) 0 (R2.2 9) 130)) := ⟨(oA_x R2 (cpyF (R2.2 0) 0 (R2.2 9) 130) (show (3 : Nat) ≠ 0 by decide)).trans (hA2 3 (by decide) (by decide)), (oA_x R2 (cpyF (R2.2 0) 0 (R2.2 9) 130) (show (4 : Nat) ≠ 0 by decide)).trans (hA2 4 (by decide) (by decide)), (oA_x R2 (cpyF (R2.2 0) 0 (R2.2 9) 130) (show (5 : Nat) ≠ 0 by decide)).trans (hA2 5 (by decide) (by decide)), hI2 6 (by decide), hI2 7 (by decide), hI2 8 (by decide)⟩
            have hRI : RI (sO N 1 11 S.1) (oA R2 0 (cpyF (R2.2 0) 0 (R2.2 9) 130)) := RI_11 (RI_R hR hSm (hI2 2 (by decide)) ((oA_x R2 (cpyF (R2.2 0) 0 (R2.2 9) 130) (show (1 : Nat) ≠ 0 by decide)).trans (hA2 1 (by decide) (by decide))) (by rw [oA_w]; exact RW_congr hR.2.1 (fun k hk => (hcp _ k hk).trans (hcq k hk)))) (Nat.le_refl 11) hokS
            refine wm_istore (q := 65) (i := 4) (L' := [(0, _), (1, _), (2, _), (3, _), (4, _)]) hg dX5_loop_63 rfl rfl rfl ?_
            refine wm_aload_n (q := 66) (i := 0) hg dX5_loop_65 rfl rfl rfl ?_
            refine wm_callV0 (q := 69) hg dX5_loop_66 rfl lk_X5_141 (by first | decide | omega) c_X5_putBack (by first | assumption | decide | omega | (simp only [nO]; omega)) ⟨rfl, by decide⟩ rfl rfl (Nat.le_of_ble_eq_true rfl) ?_
            refine wm_iload_n (q := 70) (i := 3) hg dX5_loop_69 rfl rfl rfl ?_
            rcases (show c = 0 ∨ c = 1 ∨ c = 2 ∨ c = 3 ∨ c = 4 by omega) with rfl | rfl | rfl | rfl | rfl
            · refine wm_tableIn (q := 100) hg dX5_loop_70 (by decide) (by decide) rfl (by decide) ?_
              refine wm_aload_n (q := 101) (i := 0) hg dX5_loop_100 rfl rfl rfl ?_
              refine wm_rget (q := 104) hg dX5_loop_101 rfl fl_X5_147 rfl ?_
              exact wm_irret hg hr dX5_loop_104 (q2) (hRI)
            · refine wm_tableIn (q := 105) hg dX5_loop_70 (by decide) (by decide) rfl (by decide) ?_
              refine wm_aload_n (q := 106) (i := 0) hg dX5_loop_105 rfl rfl rfl ?_
              refine wm_rget (q := 109) hg dX5_loop_106 rfl fl_X5_150 rfl ?_
              exact wm_irret hg hr dX5_loop_109 (q3) (hRI)
            · refine wm_tableIn (q := 110) hg dX5_loop_70 (by decide) (by decide) rfl (by decide) ?_
              refine wm_aload_n (q := 111) (i := 0) hg dX5_loop_110 rfl rfl rfl ?_
              refine wm_rget (q := 114) hg dX5_loop_111 rfl fl_X5_153 rfl ?_
              exact wm_irret hg hr dX5_loop_114 (q4) (hRI)
            · refine wm_tableIn (q := 115) hg dX5_loop_70 (by decide) (by decide) rfl (by decide) ?_
              refine wm_aload_n (q := 116) (i := 0) hg dX5_loop_115 rfl rfl rfl ?_
              refine wm_rget (q := 119) hg dX5_loop_116 rfl fl_X5_144 rfl ?_
              exact wm_irret hg hr dX5_loop_119 (q1) (hRI)
            · refine wm_tableOut (q := 120) hg dX5_loop_70 (by decide) (by decide) ?_
              refine wm_iload (q := 122) (i := 4) hg dX5_loop_120 rfl rfl ?_
              exact wm_irret hg hr dX5_loop_122 (rfl) (hRI)
          · have hF : fLoop N most step v = (-1000000001, N) := by
              have hL : isLp most step = 0 := by unfold isLp; rw [if_neg h1, if_neg h2, if_pos (by rw [Int32.mul_comm]; exact Int32.not_le.mp h5)]
              unfold fLoop; rw [if_pos hL]
            refine wm_ldc (q := 45) (-1000000001) hg dX5_loop_43 rfl ld_X5_102 ?_
            exact wm_irret hg hr dX5_loop_45 (by rw [hF]) (by rw [hF]; exact hR)
