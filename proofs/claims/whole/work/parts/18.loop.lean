/-! ===== loop ===== -/
abbrev LoS : Type := OV × Int32 × Int32 × Int32 × Int32 × Int32
def lpA (k : Nat) (up step a b p : Int32) : Int32 := if nI k ≤ up then a else if 3 * up < nI k then a + (b + p) * step else a + (b + p) * -step
def lpZ (k : Nat) (up z p : Int32) : Int32 := if nI k = 2 * up then p else z
def lpF (k : Nat) (up f p h : Int32) : Int32 := if nI k ≤ up then f else if 3 * up < nI k then f else if 0 < p then f else if f = -1000000009 then h else f
noncomputable def lpR (k : Nat) (up step : Int32) (X : OV) : Nat × OV := stR (oI X 6 (stepsUp (nI k) up * step))
def lpP (X : OV) : Int32 := ptS X (X.1 7) (szN X)
/-- one step of the loop: the chain, area, points at zero, first strength without points, turns, points -/
noncomputable def lpS (up step : Int32) (k : Nat) (s : LoS) : LoS := ((lpR k up step s.1).2, lpA k up step s.2.1 s.2.2.2.2.2 (lpP (lpR k up step s.1).2), lpZ k up s.2.2.1 (lpP (lpR k up step s.1).2), lpF k up s.2.2.2.1 (lpP (lpR k up step s.1).2) ((lpR k up step s.1).2.1 6), s.2.2.2.2.1 + nI (lpR k up step s.1).1, lpP (lpR k up step s.1).2)
noncomputable def lpI (up step : Int32) (X : OV) : Nat → LoS
  | 0 => (X, 0, 0, -1000000009, 0, 0)
  | k + 1 => lpS up step k (lpI up step X k)
theorem lpI_1 (up step : Int32) (X : OV) : ∀ k, ok10 X → ok10 (lpI up step X k).1
  | 0, h => h
  | k + 1, h => by
    have h0 := lpI_1 up step X k h
    show ok10 (lpR k up step (lpI up step X k).1).2
    exact ok10_1 (stR_1 _) (ok10_set h0 _ (by decide))
def lpN (most step : Int32) : Nat := 5 * (most / step).toNatClampNeg + 1
noncomputable def fLoop (M : Mem) (most step what : Int32) : Int32 × Mem := if isLp most step = 0 then (-1000000001, M) else if wthn what 0 4 = 0 then (-1000000001, M) else
  (if what = 0 then (lpI (most / step) step (M.1 1 0) (lpN most step)).2.1 else if what = 1 then (lpI (most / step) step (M.1 1 0) (lpN most step)).2.2.1 else if what = 2 then (lpI (most / step) step (M.1 1 0) (lpN most step)).2.2.2.1 else if what = 3 then (lpI (most / step) step (M.1 1 0) (lpN most step)).2.2.2.2.1 else (lpI (most / step) step (M.1 1 0) (lpN most step)).2.2.2.2.2, sO M 1 11 (lpI (most / step) step (M.1 1 0) (lpN most step)).1)
theorem isLp_n {most step : Int32} (h : ¬ isLp most step = 0) : ∃ a b : Nat, 1 ≤ a ∧ a ≤ 100 ∧ 1 ≤ b ∧ b ≤ 100 ∧ most = nI a ∧ step = nI b ∧ a ≤ 10 * b ∧ a % b = 0 := by
  unfold isLp at h
  split at h
  · exact absurd rfl h
  · next h1 =>
    split at h
    · exact absurd rfl h
    · next h2 =>
      obtain ⟨a, ha1, ha2, rfl⟩ := wthn_n (lo := 1) (hi := 100) h1 (by decide) (by decide)
      obtain ⟨b, hb1, hb2, rfl⟩ := wthn_n (lo := 1) (hi := 100) h2 (by decide) (by decide)
      split at h
      · exact absurd rfl h
      · next h3 =>
        split at h
        · next h4 =>
          refine ⟨a, b, ha1, ha2, hb1, hb2, rfl, rfl, ?_, ?_⟩
          · have e : nI b * 10 = nI (b * 10) := pk_mul b 10
            rw [e] at h3
            rcases Nat.lt_or_ge (b * 10) a with q | q
            · exact absurd (nI_lt q (by omega)) h3
            · omega
          · rw [pk_rem (by omega) (by omega) (by omega)] at h4
            have hm : a % b < b := Nat.mod_lt _ (by omega)
            exact (nI_eq (a := a % b) (b := 0) (by omega) (by decide)).mp h4
        · exact absurd rfl h
set_option maxRecDepth 100000 in
set_option maxHeartbeats 4000000 in
theorem c_X4_loop {Γ : GT} {M : Mem} {most step what : Int32} (hI : InvC M) : Ct Γ yX4_loop cX4_loop 15 (some .int) 5 [.ref (ad Γ 4 0 0), .int most, .int step, .int what] M (some (.int (fLoop M most step what).1)) (fLoop M most step what).2 := by
  refine ct_of (by decide) (Nat.le_of_ble_eq_true rfl) (fun K hg hr => ?_)
  show WM Γ K _ [(0, _), (1, _), (2, _), (3, _)] 0 []
  obtain ⟨hU, hC, hBB, hT⟩ := hI
  have hz := hC 0 (by decide)
  have hB := hBB 0 (by decide)
  have hz2 := hz.2
  refine wm_iload_n (q := 1) (i := 1) hg dX4_loop_0 rfl rfl rfl ?_
  refine wm_iload_n (q := 2) (i := 2) hg dX4_loop_1 rfl rfl rfl ?_
  refine wm_callS1 (q := 5) hg dX4_loop_2 rfl lk_X4_207 (by first | decide | omega) c_X4_isLoop rfl rfl (Nat.le_of_ble_eq_true rfl) ?_
  refine wm_if_eq (q := 17) (q2 := 8) hg dX4_loop_5 (by decide) rfl (fun h1 => ?_) (fun h1 => ?_)
  · refine wm_ldc (q := 19) (-1000000001) hg dX4_loop_17 rfl ld_X4_49 ?_
    exact wm_iret hg hr dX4_loop_19 (by simp only [fLoop, if_pos h1]) (by simp only [fLoop, if_pos h1])
  · refine wm_iload_n (q := 9) (i := 3) hg dX4_loop_8 rfl rfl rfl ?_
    refine wm_iconst (q := 10) 0 hg dX4_loop_9 rfl (by decide) ?_
    refine wm_iconst (q := 11) 4 hg dX4_loop_10 rfl (by decide) ?_
    refine wm_callS1 (q := 14) hg dX4_loop_11 rfl lk_X4_45 (by first | decide | omega) c_X4_isWithin rfl rfl (Nat.le_of_ble_eq_true rfl) ?_
    refine wm_if_ne (q := 20) (q2 := 17) hg dX4_loop_14 (by decide) rfl (fun h2 => ?_) (fun h2 => ?_)
    · obtain ⟨a, b, ha1, ha2, hb1, hb2, rfl, rfl, hab, hdv⟩ := isLp_n h1
      have hup : nI a / nI b = nI (a / b) := pk_div (by omega) (by omega) (by omega)
      have hu10 : a / b ≤ 10 := Nat.div_le_of_le_mul (by omega)
      have hN : lpN (nI a) (nI b) = 5 * (a / b) + 1 := by unfold lpN; rw [hup, nI_clamp (by omega)]
      refine wm_aload_n (q := 21) (i := 0) hg dX4_loop_20 rfl rfl rfl ?_
      refine wm_get (q := 24) hg dX4_loop_21 rfl fl_X4_40 (by first | assumption | decide | omega | (simp only [nO]; omega)) rfl ?_
      refine wm_iconst (q := 25) 0 hg dX4_loop_24 rfl (by decide) ?_
      refine wm_cload (q := 26) 0 hg dX4_loop_25 rfl (rfl : (0 : Int32) = nI 0) (by omega) ?_
      refine wm_astore (q := 28) (i := 4) (L' := [(0, _), (1, _), (2, _), (3, _), (4, _)]) hg dX4_loop_26 rfl rfl rfl ?_
      refine wm_aload (q := 30) (i := 4) hg dX4_loop_28 rfl rfl ?_
      refine wm_aload_n (q := 31) (i := 0) hg dX4_loop_30 rfl rfl rfl ?_
      refine wm_get (q := 34) hg dX4_loop_31 rfl fl_X4_10 (by first | assumption | decide | omega | (simp only [nO]; omega)) rfl ?_
      refine wm_get (q := 37) hg dX4_loop_34 rfl fl_X4_50 (by first | assumption | decide | omega | (simp only [nO]; omega)) rfl ?_
      refine wm_callV0 (q := 40) hg dX4_loop_37 rfl lk_X4_205 (by first | decide | omega) (c_X1_takeFrom (by first | assumption | decide | omega) (by first | assumption | decide | omega) (by first | assumption | decide | omega)) (by first | assumption | decide | omega | (simp only [nO]; omega)) ⟨rfl, by decide⟩ rfl rfl (Nat.le_of_ble_eq_true rfl) ?_
      refine wm_iload_n (q := 41) (i := 1) hg dX4_loop_40 rfl rfl rfl ?_
      refine wm_iload_n (q := 42) (i := 2) hg dX4_loop_41 rfl rfl rfl ?_
      refine wm_idiv (q := 43) hg dX4_loop_42 rfl (nI_ne0 hb1 (by omega)) ?_
      refine wm_istore (q := 45) (i := 5) (L' := [(0, _), (1, _), (2, _), (3, _), (4, _), (5, _)]) hg dX4_loop_43 rfl rfl rfl ?_
      refine wm_iconst (q := 46) 0 hg dX4_loop_45 rfl (by decide) ?_
      refine wm_istore (q := 48) (i := 6) (L' := [(0, _), (1, _), (2, _), (3, _), (4, _), (5, _), (6, _)]) hg dX4_loop_46 rfl rfl rfl ?_
      refine wm_iconst (q := 49) 0 hg dX4_loop_48 rfl (by decide) ?_
      refine wm_istore (q := 51) (i := 7) (L' := [(0, _), (1, _), (2, _), (3, _), (4, _), (5, _), (6, _), (7, _)]) hg dX4_loop_49 rfl rfl rfl ?_
      refine wm_ldc (q := 53) (-1000000009) hg dX4_loop_51 rfl ld_X4_151 ?_
      refine wm_istore (q := 55) (i := 8) (L' := [(0, _), (1, _), (2, _), (3, _), (4, _), (5, _), (6, _), (7, _), (8, _)]) hg dX4_loop_53 rfl rfl rfl ?_
      refine wm_iconst (q := 56) 0 hg dX4_loop_55 rfl (by decide) ?_
      refine wm_istore (q := 58) (i := 9) (L' := [(0, _), (1, _), (2, _), (3, _), (4, _), (5, _), (6, _), (7, _), (8, _), (9, _)]) hg dX4_loop_56 rfl rfl rfl ?_
      refine wm_iconst (q := 59) 0 hg dX4_loop_58 rfl (by decide) ?_
      refine wm_istore (q := 61) (i := 10) (L' := [(0, _), (1, _), (2, _), (3, _), (4, _), (5, _), (6, _), (7, _), (8, _), (9, _), (10, _)]) hg dX4_loop_59 rfl rfl rfl ?_
      refine wm_iconst (q := 62) 0 hg dX4_loop_61 rfl (by decide) ?_
      refine wm_istore (q := 64) (i := 11) (L' := [(0, _), (1, _), (2, _), (3, _), (4, _), (5, _), (6, _), (7, _), (8, _), (9, _), (10, _), (11, _)]) hg dX4_loop_62 rfl rfl rfl ?_
      suffices hloop : ∀ (n k : Nat), k + n = 5 * (a / b) + 1 → WM Γ K (sO M 1 11 (lpI (nI a / nI b) (nI b) (M.1 1 0) k).1) [(0, .ref (ad Γ 4 0 0)), (1, .int (nI a)), (2, .int (nI b)), (3, .int what), (4, .ref (ad Γ 1 11 0)), (5, .int (nI a / nI b)), (6, .int (lpI (nI a / nI b) (nI b) (M.1 1 0) k).2.1), (7, .int (lpI (nI a / nI b) (nI b) (M.1 1 0) k).2.2.1), (8, .int (lpI (nI a / nI b) (nI b) (M.1 1 0) k).2.2.2.1), (9, .int (lpI (nI a / nI b) (nI b) (M.1 1 0) k).2.2.2.2.1), (10, .int (lpI (nI a / nI b) (nI b) (M.1 1 0) k).2.2.2.2.2), (11, .int (nI k))] 64 [] from hloop (5 * (a / b) + 1) 0 (by omega)
      intro n
      induction n with
      | zero =>
        intro k hk
        have hke : k = lpN (nI a) (nI b) := by rw [hN]; exact hk
        subst hke
        refine wm_iload (q := 66) (i := 11) hg dX4_loop_64 rfl rfl ?_
        refine wm_iconst (q := 67) 5 hg dX4_loop_66 rfl (by decide) ?_
        refine wm_iload (q := 69) (i := 5) hg dX4_loop_67 rfl rfl ?_
        refine wm_imul (q := 70) hg dX4_loop_69 rfl ?_
        refine wm_icmp_gt (q := 219) (q2 := 73) hg dX4_loop_70 (by decide) rfl (fun hb => ?_) (fun hb => ?_)
        · refine wm_iload_n (q := 220) (i := 3) hg dX4_loop_219 rfl rfl rfl ?_
          by_cases hk0 : what = 0
          · subst hk0
            refine wm_tableIn (q := 252) hg dX4_loop_220 (by decide) (by decide) rfl (by decide) ?_
            refine wm_iload (q := 254) (i := 6) hg dX4_loop_252 rfl rfl ?_
            exact wm_iret hg hr dX4_loop_254 (by simp only [fLoop, if_neg h1, if_neg h2, eq_self, if_true]) (by simp only [fLoop, if_neg h1, if_neg h2])
          · by_cases hk1 : what = 1
            · subst hk1
              refine wm_tableIn (q := 255) hg dX4_loop_220 (by decide) (by decide) rfl (by decide) ?_
              refine wm_iload (q := 257) (i := 7) hg dX4_loop_255 rfl rfl ?_
              exact wm_iret hg hr dX4_loop_257 (by simp only [fLoop, if_neg h1, if_neg h2, if_neg (show ¬ (1 : Int32) = 0 by decide), eq_self, if_true]) (by simp only [fLoop, if_neg h1, if_neg h2])
            · by_cases hk2 : what = 2
              · subst hk2
                refine wm_tableIn (q := 258) hg dX4_loop_220 (by decide) (by decide) rfl (by decide) ?_
                refine wm_iload (q := 260) (i := 8) hg dX4_loop_258 rfl rfl ?_
                exact wm_iret hg hr dX4_loop_260 (by simp only [fLoop, if_neg h1, if_neg h2, if_neg (show ¬ (2 : Int32) = 0 by decide), if_neg (show ¬ (2 : Int32) = 1 by decide), eq_self, if_true]) (by simp only [fLoop, if_neg h1, if_neg h2])
              · by_cases hk3 : what = 3
                · subst hk3
                  refine wm_tableIn (q := 261) hg dX4_loop_220 (by decide) (by decide) rfl (by decide) ?_
                  refine wm_iload (q := 263) (i := 9) hg dX4_loop_261 rfl rfl ?_
                  exact wm_iret hg hr dX4_loop_263 (by simp only [fLoop, if_neg h1, if_neg h2, if_neg (show ¬ (3 : Int32) = 0 by decide), if_neg (show ¬ (3 : Int32) = 1 by decide), if_neg (show ¬ (3 : Int32) = 2 by decide), eq_self, if_true]) (by simp only [fLoop, if_neg h1, if_neg h2])
                · have hj0 : what.toInt ≠ 0 := fun z => hk0 (Int32.toInt_inj.mp (z.trans (by decide)))
                  have hj1 : what.toInt ≠ 1 := fun z => hk1 (Int32.toInt_inj.mp (z.trans (by decide)))
                  have hj2 : what.toInt ≠ 2 := fun z => hk2 (Int32.toInt_inj.mp (z.trans (by decide)))
                  have hj3 : what.toInt ≠ 3 := fun z => hk3 (Int32.toInt_inj.mp (z.trans (by decide)))
                  refine wm_tableOut (q := 264) hg dX4_loop_220 (by omega) (by decide) ?_
                  refine wm_iload (q := 266) (i := 10) hg dX4_loop_264 rfl rfl ?_
                  exact wm_iret hg hr dX4_loop_266 (by simp only [fLoop, if_neg h1, if_neg h2, if_neg hk0, if_neg hk1, if_neg hk2, if_neg hk3]) (by simp only [fLoop, if_neg h1, if_neg h2])
        · exact absurd (show 5 * (nI a / nI b) < nI (lpN (nI a) (nI b)) by rw [hup, hN, show (5 : Int32) * nI (a / b) = nI (5 * (a / b)) from pk_mul 5 (a / b)]; exact nI_lt (by omega) (by omega)) hb
      | succ n ih =>
        intro k hk
        have hX := lpI_1 (nI a / nI b) (nI b) (M.1 1 0) k hz
        refine wm_iload (q := 66) (i := 11) hg dX4_loop_64 rfl rfl ?_
        refine wm_iconst (q := 67) 5 hg dX4_loop_66 rfl (by decide) ?_
        refine wm_iload (q := 69) (i := 5) hg dX4_loop_67 rfl rfl ?_
        refine wm_imul (q := 70) hg dX4_loop_69 rfl ?_
        refine wm_icmp_gt (q := 219) (q2 := 73) hg dX4_loop_70 (by decide) rfl (fun hb => ?_) (fun hb => ?_)
        · exact absurd hb (show ¬ 5 * (nI a / nI b) < nI k by rw [hup, show (5 : Int32) * nI (a / b) = nI (5 * (a / b)) from pk_mul 5 (a / b)]; exact nI_nlt (by omega) (by omega))
        · obtain ⟨r, hr0⟩ : ∃ r, r = lpR k (nI a / nI b) (nI b) (lpI (nI a / nI b) (nI b) (M.1 1 0) k).1 := ⟨_, rfl⟩
          have hXr : ok10 r.2 := by rw [hr0]; exact lpI_1 (nI a / nI b) (nI b) (M.1 1 0) (k + 1) hz
          have hS : (lpI (nI a / nI b) (nI b) (M.1 1 0) (k + 1)) = (r.2, lpA k (nI a / nI b) (nI b) (lpI (nI a / nI b) (nI b) (M.1 1 0) k).2.1 (lpI (nI a / nI b) (nI b) (M.1 1 0) k).2.2.2.2.2 (lpP r.2), lpZ k (nI a / nI b) (lpI (nI a / nI b) (nI b) (M.1 1 0) k).2.2.1 (lpP r.2), lpF k (nI a / nI b) (lpI (nI a / nI b) (nI b) (M.1 1 0) k).2.2.2.1 (lpP r.2) (r.2.1 6), (lpI (nI a / nI b) (nI b) (M.1 1 0) k).2.2.2.2.1 + nI r.1, lpP r.2) := by rw [hr0]; rfl
          refine wm_iload (q := 75) (i := 11) hg dX4_loop_73 rfl rfl ?_
          refine wm_iload (q := 77) (i := 5) hg dX4_loop_75 rfl rfl ?_
          refine wm_icmp_le (q := 84) (q2 := 80) hg dX4_loop_77 (by decide) rfl (fun h1 => ?_) (fun h1 => ?_)
          · refine wm_iconst (q := 85) 0 hg dX4_loop_84 rfl (by decide) ?_
            refine wm_istore (q := 87) (i := 12) (L' := [(0, _), (1, _), (2, _), (3, _), (4, _), (5, _), (6, _), (7, _), (8, _), (9, _), (10, _), (11, _), (12, _)]) hg dX4_loop_85 rfl rfl rfl ?_
            refine wm_iload (q := 89) (i := 12) hg dX4_loop_87 rfl rfl ?_
            refine wm_if_eq (q := 105) (q2 := 92) hg dX4_loop_89 (by decide) rfl (fun h2 => ?_) (fun h2 => ?_)
            · refine wm_iconst (q := 106) 0 hg dX4_loop_105 rfl (by decide) ?_
              refine wm_istore (q := 108) (i := 13) (L' := [(0, _), (1, _), (2, _), (3, _), (4, _), (5, _), (6, _), (7, _), (8, _), (9, _), (10, _), (11, _), (12, _), (13, _)]) hg dX4_loop_106 rfl rfl rfl ?_
              refine wm_iload (q := 110) (i := 10) hg dX4_loop_108 rfl rfl ?_
              refine wm_istore (q := 112) (i := 14) (L' := [(0, _), (1, _), (2, _), (3, _), (4, _), (5, _), (6, _), (7, _), (8, _), (9, _), (10, _), (11, _), (12, _), (13, _), (14, _)]) hg dX4_loop_110 rfl rfl rfl ?_
              refine wm_aload (q := 114) (i := 4) hg dX4_loop_112 rfl rfl ?_
              refine wm_iload (q := 116) (i := 11) hg dX4_loop_114 rfl rfl ?_
              refine wm_iload (q := 118) (i := 5) hg dX4_loop_116 rfl rfl ?_
              refine wm_callS1 (q := 121) hg dX4_loop_118 rfl lk_X4_210 (by first | decide | omega) c_X4_stepsUp rfl rfl (Nat.le_of_ble_eq_true rfl) ?_
              refine wm_iload_n (q := 122) (i := 2) hg dX4_loop_121 rfl rfl rfl ?_
              refine wm_imul (q := 123) hg dX4_loop_122 rfl ?_
              refine wm_put (q := 126) hg dX4_loop_123 rfl fl_X4_145 (by first | assumption | decide | omega | (simp only [nO]; omega)) rfl ?_
              refine wm_mem (M' := sO M 1 11 (oI (lpI (nI a / nI b) (nI b) (M.1 1 0) k).1 6 (stepsUp (nI k) (nI a / nI b) * nI b))) (by simp only [sO_same, sO_sO]) ?_
              refine wm_iload (q := 128) (i := 9) hg dX4_loop_126 rfl rfl ?_
              refine wm_aload (q := 130) (i := 4) hg dX4_loop_128 rfl rfl ?_
              refine wm_null (q := 131) hg dX4_loop_130 rfl ?_
              refine wm_callV1 (q := 134) hg dX4_loop_131 rfl lk_X4_73 (by first | decide | omega) (c_settle_n (by decide) (by rw [sO_same]; exact ok10_set hX _ (by decide))) (by first | assumption | decide | omega | (simp only [nO]; omega)) ⟨rfl, by decide⟩ rfl rfl (Nat.le_of_ble_eq_true rfl) ?_
              refine wm_mem (M' := sO M 1 11 r.2) (by simp only [sO_same, sO_sO, hr0, lpR]) ?_
              refine wm_st (st' := [.int (nI r.1), .int (lpI (nI a / nI b) (nI b) (M.1 1 0) k).2.2.2.2.1]) (by simp only [sO_same, hr0, lpR]) ?_
              refine wm_iadd (q := 135) hg dX4_loop_134 rfl ?_
              refine wm_istore (q := 137) (i := 9) (L' := [(0, _), (1, _), (2, _), (3, _), (4, _), (5, _), (6, _), (7, _), (8, _), (9, _), (10, _), (11, _), (12, _), (13, _), (14, _)]) hg dX4_loop_135 rfl rfl rfl ?_
              refine wm_aload (q := 139) (i := 4) hg dX4_loop_137 rfl rfl ?_
              refine wm_aload (q := 141) (i := 4) hg dX4_loop_139 rfl rfl ?_
              refine wm_get (q := 144) hg dX4_loop_141 rfl fl_X4_148 (by first | assumption | decide | omega | (simp only [nO]; omega)) rfl ?_
              refine wm_callV1 (q := 147) hg dX4_loop_144 rfl lk_X4_202 (by first | decide | omega) (c_X1_pointsTo (by decide) (by rw [sO_same]; exact hXr)) (by first | assumption | decide | omega | (simp only [nO]; omega)) ⟨rfl, by decide⟩ rfl rfl (Nat.le_of_ble_eq_true rfl) ?_
              refine wm_st (st' := [.int (lpP r.2)]) (by simp only [sO_same]; rfl) ?_
              refine wm_istore (q := 149) (i := 10) (L' := [(0, _), (1, _), (2, _), (3, _), (4, _), (5, _), (6, _), (7, _), (8, _), (9, _), (10, _), (11, _), (12, _), (13, _), (14, _)]) hg dX4_loop_147 rfl rfl rfl ?_
              refine wm_iload (q := 151) (i := 12) hg dX4_loop_149 rfl rfl ?_
              refine wm_if_eq (q := 176) (q2 := 154) hg dX4_loop_151 (by decide) rfl (fun h3 => ?_) (fun h3 => ?_)
              · refine wm_iload (q := 178) (i := 11) hg dX4_loop_176 rfl rfl ?_
                refine wm_iconst (q := 179) 2 hg dX4_loop_178 rfl (by decide) ?_
                refine wm_iload (q := 181) (i := 5) hg dX4_loop_179 rfl rfl ?_
                refine wm_imul (q := 182) hg dX4_loop_181 rfl ?_
                refine wm_icmp_ne (q := 189) (q2 := 185) hg dX4_loop_182 (by decide) rfl (fun h4 => ?_) (fun h4 => ?_)
                · refine wm_iload (q := 191) (i := 13) hg dX4_loop_189 rfl rfl ?_
                  refine wm_if_eq (q := 213) (q2 := 194) hg dX4_loop_191 (by decide) rfl (fun h5 => ?_) (fun h5 => ?_)
                  · refine wm_iinc (q := 216) (L' := [(0, _), (1, _), (2, _), (3, _), (4, _), (5, _), (6, _), (7, _), (8, _), (9, _), (10, _), (11, _), (12, _), (13, _), (14, _)]) (nI (k + 1)) hg dX4_loop_213 rfl rfl (nadd rfl rfl) rfl rfl ?_
                    refine wm_goto (q := 64) hg dX4_loop_216 (by decide) ?_
                    refine wm_L (L' := [(0, _), (1, _), (2, _), (3, _), (4, _), (5, _), (6, _), (7, _), (8, _), (9, _), (10, _), (11, _)]) [0, 1, 2, 3, 4, 5, 6, 7, 8, 9, 10, 11] rfl ?_
                    refine wm_mem (by rw [hS]) (wm_Leq ?_ (ih (k + 1) (by omega)))
                    simp only [hS, sO_same, lpA, lpZ, lpF, if_pos h1, if_neg h4]
                  · exact absurd rfl h5
                · refine wm_iload (q := 187) (i := 10) hg dX4_loop_185 rfl rfl ?_
                  refine wm_istore (q := 189) (i := 7) (L' := [(0, _), (1, _), (2, _), (3, _), (4, _), (5, _), (6, _), (7, _), (8, _), (9, _), (10, _), (11, _), (12, _), (13, _), (14, _)]) hg dX4_loop_187 rfl rfl rfl ?_
                  refine wm_iload (q := 191) (i := 13) hg dX4_loop_189 rfl rfl ?_
                  refine wm_if_eq (q := 213) (q2 := 194) hg dX4_loop_191 (by decide) rfl (fun h5 => ?_) (fun h5 => ?_)
                  · refine wm_iinc (q := 216) (L' := [(0, _), (1, _), (2, _), (3, _), (4, _), (5, _), (6, _), (7, _), (8, _), (9, _), (10, _), (11, _), (12, _), (13, _), (14, _)]) (nI (k + 1)) hg dX4_loop_213 rfl rfl (nadd rfl rfl) rfl rfl ?_
                    refine wm_goto (q := 64) hg dX4_loop_216 (by decide) ?_
                    refine wm_L (L' := [(0, _), (1, _), (2, _), (3, _), (4, _), (5, _), (6, _), (7, _), (8, _), (9, _), (10, _), (11, _)]) [0, 1, 2, 3, 4, 5, 6, 7, 8, 9, 10, 11] rfl ?_
                    refine wm_mem (by rw [hS]) (wm_Leq ?_ (ih (k + 1) (by omega)))
                    simp only [hS, sO_same, lpA, lpZ, lpF, if_pos h1, if_pos h4]
                  · exact absurd rfl h5
              · exact absurd rfl h3
            · exact absurd rfl h2
          · refine wm_iconst (q := 81) 1 hg dX4_loop_80 rfl (by decide) ?_
            refine wm_goto (q := 85) hg dX4_loop_81 (by decide) ?_
            refine wm_istore (q := 87) (i := 12) (L' := [(0, _), (1, _), (2, _), (3, _), (4, _), (5, _), (6, _), (7, _), (8, _), (9, _), (10, _), (11, _), (12, _)]) hg dX4_loop_85 rfl rfl rfl ?_
            refine wm_iload (q := 89) (i := 12) hg dX4_loop_87 rfl rfl ?_
            refine wm_if_eq (q := 105) (q2 := 92) hg dX4_loop_89 (by decide) rfl (fun h2 => ?_) (fun h2 => ?_)
            · exact absurd h2 (by decide)
            · refine wm_iload (q := 94) (i := 11) hg dX4_loop_92 rfl rfl ?_
              refine wm_iconst (q := 95) 3 hg dX4_loop_94 rfl (by decide) ?_
              refine wm_iload (q := 97) (i := 5) hg dX4_loop_95 rfl rfl ?_
              refine wm_imul (q := 98) hg dX4_loop_97 rfl ?_
              refine wm_icmp_gt (q := 105) (q2 := 101) hg dX4_loop_98 (by decide) rfl (fun h3 => ?_) (fun h3 => ?_)
              · refine wm_iconst (q := 106) 0 hg dX4_loop_105 rfl (by decide) ?_
                refine wm_istore (q := 108) (i := 13) (L' := [(0, _), (1, _), (2, _), (3, _), (4, _), (5, _), (6, _), (7, _), (8, _), (9, _), (10, _), (11, _), (12, _), (13, _)]) hg dX4_loop_106 rfl rfl rfl ?_
                refine wm_iload (q := 110) (i := 10) hg dX4_loop_108 rfl rfl ?_
                refine wm_istore (q := 112) (i := 14) (L' := [(0, _), (1, _), (2, _), (3, _), (4, _), (5, _), (6, _), (7, _), (8, _), (9, _), (10, _), (11, _), (12, _), (13, _), (14, _)]) hg dX4_loop_110 rfl rfl rfl ?_
                refine wm_aload (q := 114) (i := 4) hg dX4_loop_112 rfl rfl ?_
                refine wm_iload (q := 116) (i := 11) hg dX4_loop_114 rfl rfl ?_
                refine wm_iload (q := 118) (i := 5) hg dX4_loop_116 rfl rfl ?_
                refine wm_callS1 (q := 121) hg dX4_loop_118 rfl lk_X4_210 (by first | decide | omega) c_X4_stepsUp rfl rfl (Nat.le_of_ble_eq_true rfl) ?_
                refine wm_iload_n (q := 122) (i := 2) hg dX4_loop_121 rfl rfl rfl ?_
                refine wm_imul (q := 123) hg dX4_loop_122 rfl ?_
                refine wm_put (q := 126) hg dX4_loop_123 rfl fl_X4_145 (by first | assumption | decide | omega | (simp only [nO]; omega)) rfl ?_
                refine wm_mem (M' := sO M 1 11 (oI (lpI (nI a / nI b) (nI b) (M.1 1 0) k).1 6 (stepsUp (nI k) (nI a / nI b) * nI b))) (by simp only [sO_same, sO_sO]) ?_
                refine wm_iload (q := 128) (i := 9) hg dX4_loop_126 rfl rfl ?_
                refine wm_aload (q := 130) (i := 4) hg dX4_loop_128 rfl rfl ?_
                refine wm_null (q := 131) hg dX4_loop_130 rfl ?_
                refine wm_callV1 (q := 134) hg dX4_loop_131 rfl lk_X4_73 (by first | decide | omega) (c_settle_n (by decide) (by rw [sO_same]; exact ok10_set hX _ (by decide))) (by first | assumption | decide | omega | (simp only [nO]; omega)) ⟨rfl, by decide⟩ rfl rfl (Nat.le_of_ble_eq_true rfl) ?_
                refine wm_mem (M' := sO M 1 11 r.2) (by simp only [sO_same, sO_sO, hr0, lpR]) ?_
                refine wm_st (st' := [.int (nI r.1), .int (lpI (nI a / nI b) (nI b) (M.1 1 0) k).2.2.2.2.1]) (by simp only [sO_same, hr0, lpR]) ?_
                refine wm_iadd (q := 135) hg dX4_loop_134 rfl ?_
                refine wm_istore (q := 137) (i := 9) (L' := [(0, _), (1, _), (2, _), (3, _), (4, _), (5, _), (6, _), (7, _), (8, _), (9, _), (10, _), (11, _), (12, _), (13, _), (14, _)]) hg dX4_loop_135 rfl rfl rfl ?_
                refine wm_aload (q := 139) (i := 4) hg dX4_loop_137 rfl rfl ?_
                refine wm_aload (q := 141) (i := 4) hg dX4_loop_139 rfl rfl ?_
                refine wm_get (q := 144) hg dX4_loop_141 rfl fl_X4_148 (by first | assumption | decide | omega | (simp only [nO]; omega)) rfl ?_
                refine wm_callV1 (q := 147) hg dX4_loop_144 rfl lk_X4_202 (by first | decide | omega) (c_X1_pointsTo (by decide) (by rw [sO_same]; exact hXr)) (by first | assumption | decide | omega | (simp only [nO]; omega)) ⟨rfl, by decide⟩ rfl rfl (Nat.le_of_ble_eq_true rfl) ?_
                refine wm_st (st' := [.int (lpP r.2)]) (by simp only [sO_same]; rfl) ?_
                refine wm_istore (q := 149) (i := 10) (L' := [(0, _), (1, _), (2, _), (3, _), (4, _), (5, _), (6, _), (7, _), (8, _), (9, _), (10, _), (11, _), (12, _), (13, _), (14, _)]) hg dX4_loop_147 rfl rfl rfl ?_
                refine wm_iload (q := 151) (i := 12) hg dX4_loop_149 rfl rfl ?_
                refine wm_if_eq (q := 176) (q2 := 154) hg dX4_loop_151 (by decide) rfl (fun h4 => ?_) (fun h4 => ?_)
                · exact absurd h4 (by decide)
                · refine wm_iload (q := 156) (i := 6) hg dX4_loop_154 rfl rfl ?_
                  refine wm_iload (q := 158) (i := 14) hg dX4_loop_156 rfl rfl ?_
                  refine wm_iload (q := 160) (i := 10) hg dX4_loop_158 rfl rfl ?_
                  refine wm_iadd (q := 161) hg dX4_loop_160 rfl ?_
                  refine wm_iload (q := 163) (i := 13) hg dX4_loop_161 rfl rfl ?_
                  refine wm_if_eq (q := 171) (q2 := 166) hg dX4_loop_163 (by decide) rfl (fun h5 => ?_) (fun h5 => ?_)
                  · refine wm_iload_n (q := 172) (i := 2) hg dX4_loop_171 rfl rfl rfl ?_
                    refine wm_imul (q := 173) hg dX4_loop_172 rfl ?_
                    refine wm_iadd (q := 174) hg dX4_loop_173 rfl ?_
                    refine wm_istore (q := 176) (i := 6) (L' := [(0, _), (1, _), (2, _), (3, _), (4, _), (5, _), (6, _), (7, _), (8, _), (9, _), (10, _), (11, _), (12, _), (13, _), (14, _)]) hg dX4_loop_174 rfl rfl rfl ?_
                    refine wm_iload (q := 178) (i := 11) hg dX4_loop_176 rfl rfl ?_
                    refine wm_iconst (q := 179) 2 hg dX4_loop_178 rfl (by decide) ?_
                    refine wm_iload (q := 181) (i := 5) hg dX4_loop_179 rfl rfl ?_
                    refine wm_imul (q := 182) hg dX4_loop_181 rfl ?_
                    refine wm_icmp_ne (q := 189) (q2 := 185) hg dX4_loop_182 (by decide) rfl (fun h6 => ?_) (fun h6 => ?_)
                    · refine wm_iload (q := 191) (i := 13) hg dX4_loop_189 rfl rfl ?_
                      refine wm_if_eq (q := 213) (q2 := 194) hg dX4_loop_191 (by decide) rfl (fun h7 => ?_) (fun h7 => ?_)
                      · refine wm_iinc (q := 216) (L' := [(0, _), (1, _), (2, _), (3, _), (4, _), (5, _), (6, _), (7, _), (8, _), (9, _), (10, _), (11, _), (12, _), (13, _), (14, _)]) (nI (k + 1)) hg dX4_loop_213 rfl rfl (nadd rfl rfl) rfl rfl ?_
                        refine wm_goto (q := 64) hg dX4_loop_216 (by decide) ?_
                        refine wm_L (L' := [(0, _), (1, _), (2, _), (3, _), (4, _), (5, _), (6, _), (7, _), (8, _), (9, _), (10, _), (11, _)]) [0, 1, 2, 3, 4, 5, 6, 7, 8, 9, 10, 11] rfl ?_
                        refine wm_mem (by rw [hS]) (wm_Leq ?_ (ih (k + 1) (by omega)))
                        simp only [hS, sO_same, lpA, lpZ, lpF, if_neg h1, if_pos h3, if_neg h6]
                      · exact absurd rfl h7
                    · refine wm_iload (q := 187) (i := 10) hg dX4_loop_185 rfl rfl ?_
                      refine wm_istore (q := 189) (i := 7) (L' := [(0, _), (1, _), (2, _), (3, _), (4, _), (5, _), (6, _), (7, _), (8, _), (9, _), (10, _), (11, _), (12, _), (13, _), (14, _)]) hg dX4_loop_187 rfl rfl rfl ?_
                      refine wm_iload (q := 191) (i := 13) hg dX4_loop_189 rfl rfl ?_
                      refine wm_if_eq (q := 213) (q2 := 194) hg dX4_loop_191 (by decide) rfl (fun h7 => ?_) (fun h7 => ?_)
                      · refine wm_iinc (q := 216) (L' := [(0, _), (1, _), (2, _), (3, _), (4, _), (5, _), (6, _), (7, _), (8, _), (9, _), (10, _), (11, _), (12, _), (13, _), (14, _)]) (nI (k + 1)) hg dX4_loop_213 rfl rfl (nadd rfl rfl) rfl rfl ?_
                        refine wm_goto (q := 64) hg dX4_loop_216 (by decide) ?_
                        refine wm_L (L' := [(0, _), (1, _), (2, _), (3, _), (4, _), (5, _), (6, _), (7, _), (8, _), (9, _), (10, _), (11, _)]) [0, 1, 2, 3, 4, 5, 6, 7, 8, 9, 10, 11] rfl ?_
                        refine wm_mem (by rw [hS]) (wm_Leq ?_ (ih (k + 1) (by omega)))
                        simp only [hS, sO_same, lpA, lpZ, lpF, if_neg h1, if_pos h3, if_pos h6]
                      · exact absurd rfl h7
                  · exact absurd rfl h5
              · refine wm_iconst (q := 102) 1 hg dX4_loop_101 rfl (by decide) ?_
                refine wm_goto (q := 106) hg dX4_loop_102 (by decide) ?_
                refine wm_istore (q := 108) (i := 13) (L' := [(0, _), (1, _), (2, _), (3, _), (4, _), (5, _), (6, _), (7, _), (8, _), (9, _), (10, _), (11, _), (12, _), (13, _)]) hg dX4_loop_106 rfl rfl rfl ?_
                refine wm_iload (q := 110) (i := 10) hg dX4_loop_108 rfl rfl ?_
                refine wm_istore (q := 112) (i := 14) (L' := [(0, _), (1, _), (2, _), (3, _), (4, _), (5, _), (6, _), (7, _), (8, _), (9, _), (10, _), (11, _), (12, _), (13, _), (14, _)]) hg dX4_loop_110 rfl rfl rfl ?_
                refine wm_aload (q := 114) (i := 4) hg dX4_loop_112 rfl rfl ?_
                refine wm_iload (q := 116) (i := 11) hg dX4_loop_114 rfl rfl ?_
                refine wm_iload (q := 118) (i := 5) hg dX4_loop_116 rfl rfl ?_
                refine wm_callS1 (q := 121) hg dX4_loop_118 rfl lk_X4_210 (by first | decide | omega) c_X4_stepsUp rfl rfl (Nat.le_of_ble_eq_true rfl) ?_
                refine wm_iload_n (q := 122) (i := 2) hg dX4_loop_121 rfl rfl rfl ?_
                refine wm_imul (q := 123) hg dX4_loop_122 rfl ?_
                refine wm_put (q := 126) hg dX4_loop_123 rfl fl_X4_145 (by first | assumption | decide | omega | (simp only [nO]; omega)) rfl ?_
                refine wm_mem (M' := sO M 1 11 (oI (lpI (nI a / nI b) (nI b) (M.1 1 0) k).1 6 (stepsUp (nI k) (nI a / nI b) * nI b))) (by simp only [sO_same, sO_sO]) ?_
                refine wm_iload (q := 128) (i := 9) hg dX4_loop_126 rfl rfl ?_
                refine wm_aload (q := 130) (i := 4) hg dX4_loop_128 rfl rfl ?_
                refine wm_null (q := 131) hg dX4_loop_130 rfl ?_
                refine wm_callV1 (q := 134) hg dX4_loop_131 rfl lk_X4_73 (by first | decide | omega) (c_settle_n (by decide) (by rw [sO_same]; exact ok10_set hX _ (by decide))) (by first | assumption | decide | omega | (simp only [nO]; omega)) ⟨rfl, by decide⟩ rfl rfl (Nat.le_of_ble_eq_true rfl) ?_
                refine wm_mem (M' := sO M 1 11 r.2) (by simp only [sO_same, sO_sO, hr0, lpR]) ?_
                refine wm_st (st' := [.int (nI r.1), .int (lpI (nI a / nI b) (nI b) (M.1 1 0) k).2.2.2.2.1]) (by simp only [sO_same, hr0, lpR]) ?_
                refine wm_iadd (q := 135) hg dX4_loop_134 rfl ?_
                refine wm_istore (q := 137) (i := 9) (L' := [(0, _), (1, _), (2, _), (3, _), (4, _), (5, _), (6, _), (7, _), (8, _), (9, _), (10, _), (11, _), (12, _), (13, _), (14, _)]) hg dX4_loop_135 rfl rfl rfl ?_
                refine wm_aload (q := 139) (i := 4) hg dX4_loop_137 rfl rfl ?_
                refine wm_aload (q := 141) (i := 4) hg dX4_loop_139 rfl rfl ?_
                refine wm_get (q := 144) hg dX4_loop_141 rfl fl_X4_148 (by first | assumption | decide | omega | (simp only [nO]; omega)) rfl ?_
                refine wm_callV1 (q := 147) hg dX4_loop_144 rfl lk_X4_202 (by first | decide | omega) (c_X1_pointsTo (by decide) (by rw [sO_same]; exact hXr)) (by first | assumption | decide | omega | (simp only [nO]; omega)) ⟨rfl, by decide⟩ rfl rfl (Nat.le_of_ble_eq_true rfl) ?_
                refine wm_st (st' := [.int (lpP r.2)]) (by simp only [sO_same]; rfl) ?_
                refine wm_istore (q := 149) (i := 10) (L' := [(0, _), (1, _), (2, _), (3, _), (4, _), (5, _), (6, _), (7, _), (8, _), (9, _), (10, _), (11, _), (12, _), (13, _), (14, _)]) hg dX4_loop_147 rfl rfl rfl ?_
                refine wm_iload (q := 151) (i := 12) hg dX4_loop_149 rfl rfl ?_
                refine wm_if_eq (q := 176) (q2 := 154) hg dX4_loop_151 (by decide) rfl (fun h4 => ?_) (fun h4 => ?_)
                · exact absurd h4 (by decide)
                · refine wm_iload (q := 156) (i := 6) hg dX4_loop_154 rfl rfl ?_
                  refine wm_iload (q := 158) (i := 14) hg dX4_loop_156 rfl rfl ?_
                  refine wm_iload (q := 160) (i := 10) hg dX4_loop_158 rfl rfl ?_
                  refine wm_iadd (q := 161) hg dX4_loop_160 rfl ?_
                  refine wm_iload (q := 163) (i := 13) hg dX4_loop_161 rfl rfl ?_
                  refine wm_if_eq (q := 171) (q2 := 166) hg dX4_loop_163 (by decide) rfl (fun h5 => ?_) (fun h5 => ?_)
                  · exact absurd h5 (by decide)
                  · refine wm_iload_n (q := 167) (i := 2) hg dX4_loop_166 rfl rfl rfl ?_
                    refine wm_ineg (q := 168) hg dX4_loop_167 rfl ?_
                    refine wm_goto (q := 172) hg dX4_loop_168 (by decide) ?_
                    refine wm_imul (q := 173) hg dX4_loop_172 rfl ?_
                    refine wm_iadd (q := 174) hg dX4_loop_173 rfl ?_
                    refine wm_istore (q := 176) (i := 6) (L' := [(0, _), (1, _), (2, _), (3, _), (4, _), (5, _), (6, _), (7, _), (8, _), (9, _), (10, _), (11, _), (12, _), (13, _), (14, _)]) hg dX4_loop_174 rfl rfl rfl ?_
                    refine wm_iload (q := 178) (i := 11) hg dX4_loop_176 rfl rfl ?_
                    refine wm_iconst (q := 179) 2 hg dX4_loop_178 rfl (by decide) ?_
                    refine wm_iload (q := 181) (i := 5) hg dX4_loop_179 rfl rfl ?_
                    refine wm_imul (q := 182) hg dX4_loop_181 rfl ?_
                    refine wm_icmp_ne (q := 189) (q2 := 185) hg dX4_loop_182 (by decide) rfl (fun h6 => ?_) (fun h6 => ?_)
                    · refine wm_iload (q := 191) (i := 13) hg dX4_loop_189 rfl rfl ?_
                      refine wm_if_eq (q := 213) (q2 := 194) hg dX4_loop_191 (by decide) rfl (fun h7 => ?_) (fun h7 => ?_)
                      · exact absurd h7 (by decide)
                      · refine wm_iload (q := 196) (i := 10) hg dX4_loop_194 rfl rfl ?_
                        refine wm_if_gt (q := 213) (q2 := 199) hg dX4_loop_196 (by decide) rfl (fun h8 => ?_) (fun h8 => ?_)
                        · refine wm_iinc (q := 216) (L' := [(0, _), (1, _), (2, _), (3, _), (4, _), (5, _), (6, _), (7, _), (8, _), (9, _), (10, _), (11, _), (12, _), (13, _), (14, _)]) (nI (k + 1)) hg dX4_loop_213 rfl rfl (nadd rfl rfl) rfl rfl ?_
                          refine wm_goto (q := 64) hg dX4_loop_216 (by decide) ?_
                          refine wm_L (L' := [(0, _), (1, _), (2, _), (3, _), (4, _), (5, _), (6, _), (7, _), (8, _), (9, _), (10, _), (11, _)]) [0, 1, 2, 3, 4, 5, 6, 7, 8, 9, 10, 11] rfl ?_
                          refine wm_mem (by rw [hS]) (wm_Leq ?_ (ih (k + 1) (by omega)))
                          simp only [hS, sO_same, lpA, lpZ, lpF, if_neg h1, if_neg h3, if_pos h8, if_neg h6]
                        · refine wm_iload (q := 201) (i := 8) hg dX4_loop_199 rfl rfl ?_
                          refine wm_ldc (q := 203) (-1000000009) hg dX4_loop_201 rfl ld_X4_151 ?_
                          refine wm_icmp_ne (q := 213) (q2 := 206) hg dX4_loop_203 (by decide) rfl (fun h9 => ?_) (fun h9 => ?_)
                          · refine wm_iinc (q := 216) (L' := [(0, _), (1, _), (2, _), (3, _), (4, _), (5, _), (6, _), (7, _), (8, _), (9, _), (10, _), (11, _), (12, _), (13, _), (14, _)]) (nI (k + 1)) hg dX4_loop_213 rfl rfl (nadd rfl rfl) rfl rfl ?_
                            refine wm_goto (q := 64) hg dX4_loop_216 (by decide) ?_
                            refine wm_L (L' := [(0, _), (1, _), (2, _), (3, _), (4, _), (5, _), (6, _), (7, _), (8, _), (9, _), (10, _), (11, _)]) [0, 1, 2, 3, 4, 5, 6, 7, 8, 9, 10, 11] rfl ?_
                            refine wm_mem (by rw [hS]) (wm_Leq ?_ (ih (k + 1) (by omega)))
                            simp only [hS, sO_same, lpA, lpZ, lpF, if_neg h1, if_neg h3, if_neg h8, if_neg h6, if_neg h9]
                          · refine wm_aload (q := 208) (i := 4) hg dX4_loop_206 rfl rfl ?_
                            refine wm_get (q := 211) hg dX4_loop_208 rfl fl_X4_145 (by first | assumption | decide | omega | (simp only [nO]; omega)) rfl ?_
                            refine wm_istore (q := 213) (i := 8) (L' := [(0, _), (1, _), (2, _), (3, _), (4, _), (5, _), (6, _), (7, _), (8, _), (9, _), (10, _), (11, _), (12, _), (13, _), (14, _)]) hg dX4_loop_211 rfl rfl rfl ?_
                            refine wm_iinc (q := 216) (L' := [(0, _), (1, _), (2, _), (3, _), (4, _), (5, _), (6, _), (7, _), (8, _), (9, _), (10, _), (11, _), (12, _), (13, _), (14, _)]) (nI (k + 1)) hg dX4_loop_213 rfl rfl (nadd rfl rfl) rfl rfl ?_
                            refine wm_goto (q := 64) hg dX4_loop_216 (by decide) ?_
                            refine wm_L (L' := [(0, _), (1, _), (2, _), (3, _), (4, _), (5, _), (6, _), (7, _), (8, _), (9, _), (10, _), (11, _)]) [0, 1, 2, 3, 4, 5, 6, 7, 8, 9, 10, 11] rfl ?_
                            refine wm_mem (by rw [hS]) (wm_Leq ?_ (ih (k + 1) (by omega)))
                            simp only [hS, sO_same, lpA, lpZ, lpF, if_neg h1, if_neg h3, if_neg h8, if_neg h6, if_pos h9]
                    · refine wm_iload (q := 187) (i := 10) hg dX4_loop_185 rfl rfl ?_
                      refine wm_istore (q := 189) (i := 7) (L' := [(0, _), (1, _), (2, _), (3, _), (4, _), (5, _), (6, _), (7, _), (8, _), (9, _), (10, _), (11, _), (12, _), (13, _), (14, _)]) hg dX4_loop_187 rfl rfl rfl ?_
                      refine wm_iload (q := 191) (i := 13) hg dX4_loop_189 rfl rfl ?_
                      refine wm_if_eq (q := 213) (q2 := 194) hg dX4_loop_191 (by decide) rfl (fun h7 => ?_) (fun h7 => ?_)
                      · exact absurd h7 (by decide)
                      · refine wm_iload (q := 196) (i := 10) hg dX4_loop_194 rfl rfl ?_
                        refine wm_if_gt (q := 213) (q2 := 199) hg dX4_loop_196 (by decide) rfl (fun h8 => ?_) (fun h8 => ?_)
                        · refine wm_iinc (q := 216) (L' := [(0, _), (1, _), (2, _), (3, _), (4, _), (5, _), (6, _), (7, _), (8, _), (9, _), (10, _), (11, _), (12, _), (13, _), (14, _)]) (nI (k + 1)) hg dX4_loop_213 rfl rfl (nadd rfl rfl) rfl rfl ?_
                          refine wm_goto (q := 64) hg dX4_loop_216 (by decide) ?_
                          refine wm_L (L' := [(0, _), (1, _), (2, _), (3, _), (4, _), (5, _), (6, _), (7, _), (8, _), (9, _), (10, _), (11, _)]) [0, 1, 2, 3, 4, 5, 6, 7, 8, 9, 10, 11] rfl ?_
                          refine wm_mem (by rw [hS]) (wm_Leq ?_ (ih (k + 1) (by omega)))
                          simp only [hS, sO_same, lpA, lpZ, lpF, if_neg h1, if_neg h3, if_pos h8, if_pos h6]
                        · refine wm_iload (q := 201) (i := 8) hg dX4_loop_199 rfl rfl ?_
                          refine wm_ldc (q := 203) (-1000000009) hg dX4_loop_201 rfl ld_X4_151 ?_
                          refine wm_icmp_ne (q := 213) (q2 := 206) hg dX4_loop_203 (by decide) rfl (fun h9 => ?_) (fun h9 => ?_)
                          · refine wm_iinc (q := 216) (L' := [(0, _), (1, _), (2, _), (3, _), (4, _), (5, _), (6, _), (7, _), (8, _), (9, _), (10, _), (11, _), (12, _), (13, _), (14, _)]) (nI (k + 1)) hg dX4_loop_213 rfl rfl (nadd rfl rfl) rfl rfl ?_
                            refine wm_goto (q := 64) hg dX4_loop_216 (by decide) ?_
                            refine wm_L (L' := [(0, _), (1, _), (2, _), (3, _), (4, _), (5, _), (6, _), (7, _), (8, _), (9, _), (10, _), (11, _)]) [0, 1, 2, 3, 4, 5, 6, 7, 8, 9, 10, 11] rfl ?_
                            refine wm_mem (by rw [hS]) (wm_Leq ?_ (ih (k + 1) (by omega)))
                            simp only [hS, sO_same, lpA, lpZ, lpF, if_neg h1, if_neg h3, if_neg h8, if_pos h6, if_neg h9]
                          · refine wm_aload (q := 208) (i := 4) hg dX4_loop_206 rfl rfl ?_
                            refine wm_get (q := 211) hg dX4_loop_208 rfl fl_X4_145 (by first | assumption | decide | omega | (simp only [nO]; omega)) rfl ?_
                            refine wm_istore (q := 213) (i := 8) (L' := [(0, _), (1, _), (2, _), (3, _), (4, _), (5, _), (6, _), (7, _), (8, _), (9, _), (10, _), (11, _), (12, _), (13, _), (14, _)]) hg dX4_loop_211 rfl rfl rfl ?_
                            refine wm_iinc (q := 216) (L' := [(0, _), (1, _), (2, _), (3, _), (4, _), (5, _), (6, _), (7, _), (8, _), (9, _), (10, _), (11, _), (12, _), (13, _), (14, _)]) (nI (k + 1)) hg dX4_loop_213 rfl rfl (nadd rfl rfl) rfl rfl ?_
                            refine wm_goto (q := 64) hg dX4_loop_216 (by decide) ?_
                            refine wm_L (L' := [(0, _), (1, _), (2, _), (3, _), (4, _), (5, _), (6, _), (7, _), (8, _), (9, _), (10, _), (11, _)]) [0, 1, 2, 3, 4, 5, 6, 7, 8, 9, 10, 11] rfl ?_
                            refine wm_mem (by rw [hS]) (wm_Leq ?_ (ih (k + 1) (by omega)))
                            simp only [hS, sO_same, lpA, lpZ, lpF, if_neg h1, if_neg h3, if_neg h8, if_pos h6, if_pos h9]
    · refine wm_ldc (q := 19) (-1000000001) hg dX4_loop_17 rfl ld_X4_49 ?_
      exact wm_iret hg hr dX4_loop_19 (by simp only [fLoop, if_neg h1, if_pos h2]) (by simp only [fLoop, if_neg h1, if_pos h2])
