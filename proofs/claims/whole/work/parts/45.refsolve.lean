/-! ===== the reference: solve ===== -/
theorem RI_sk {N : Mem} {R R2 : OV} (h : RI N R) (k : SKp (oA R 9 (cpyF (R.2 9) 0 (R.2 0) 130)) R2) : RI N (oA R2 0 (cpyF (R2.2 0) 0 (R2.2 9) 130)) := by
  have e : ∀ s, s ≠ 0 → s ≠ 9 → s ≠ 14 → s ≠ 15 → (oA R2 0 (cpyF (R2.2 0) 0 (R2.2 9) 130)).2 s = R.2 s := fun s a b c d => by
    rw [oA_x _ _ a, k.1 s a c d, oA_x _ _ b]
  have e1 : (oA R2 0 (cpyF (R2.2 0) 0 (R2.2 9) 130)).1 = R.1 := k.2
  refine RI_R h ⟨e 3 (by decide) (by decide) (by decide) (by decide), e 4 (by decide) (by decide) (by decide) (by decide), e 5 (by decide) (by decide) (by decide) (by decide), by rw [e1], by rw [e1], by rw [e1]⟩ (by rw [e1]) (e 1 (by decide) (by decide) (by decide) (by decide)) ?_
  rw [oA_w]
  refine RW_congr h.2.1 (fun j hj => ?_)
  have q1 := cpyF_in (R2.2 0) 0 (R2.2 9) hj
  have q2 := cpyF_in (R.2 9) 0 (R.2 0) hj
  rw [Nat.zero_add] at q1 q2
  rw [q1, k.1 9 (by decide) (by decide) (by decide), oA_w]
  exact q2
set_option maxRecDepth 100000 in
set_option maxHeartbeats 4000000 in
theorem c_X5_isSolvedBy {Γ : GT} {M N : Mem} {R : OV} {p : Nat} {x : Int32} (hR : RI N R) (hx : x = nI p) (hp : p ≤ 3) : CtR Γ yX5_isSolvedBy cX5_isSolvedBy 3 (some .boolean) 7 [.ref (ad Γ 5 0 0), .int x] M R (some (.int (if exP p (N.1 1 0) = true then 1 else 0))) (fun R' => RI N R' ∧ ∀ r k, p = r + 1 → exL (exP r) (N.1 1 0) (2 * szN (N.1 1 0)) 0 = some k → R'.2 15 0 = nI k) := by
  refine ctr_of (by decide) (Nat.le_of_ble_eq_true rfl) (fun K hg hr => ?_)
  show WM Γ K _ [(0, _), (1, _)] 0 []
  subst hx
  have hz : ok10 (N.1 1 0) := hR.1.2.1 0 (by decide)
  cases p with
  | zero =>
    refine wm_iload_n (q := 1) (i := 1) hg dX5_isSolvedBy_0 rfl rfl rfl ?_
    refine wm_if_ne (q := 17) (q2 := 4) hg dX5_isSolvedBy_1 (by decide) rfl (fun h1 => ?_) (fun h1 => ?_)
    · exact absurd rfl h1
    · refine wm_aload_n (q := 5) (i := 0) hg dX5_isSolvedBy_4 rfl rfl rfl ?_
      refine wm_callV1 (q := 8) hg dX5_isSolvedBy_5 rfl lk_X5_126 (by decide) (c_X5_unsolved (X := N.1 1 0) hz hR.2.1.1.2.1) (by first | assumption | decide | omega | (simp only [nO]; omega)) ⟨rfl, by decide⟩ rfl rfl (Nat.le_of_ble_eq_true rfl) ?_
      refine wm_if_ne (q := 15) (q2 := 11) hg dX5_isSolvedBy_8 (by decide) rfl (fun h2 => ?_) (fun h2 => ?_)
      · refine wm_iconst (q := 16) 0 hg dX5_isSolvedBy_15 rfl (by decide) ?_
        exact wm_zrret hg hr dX5_isSolvedBy_16 (by rw [if_neg (show ¬ exP 0 (N.1 1 0) = true from fun z => h2 (of_decide_eq_true z))]) (⟨hR, fun r k z => by cases z⟩) (Or.inl rfl)
      · refine wm_iconst (q := 12) 1 hg dX5_isSolvedBy_11 rfl (by decide) ?_
        refine wm_goto (q := 16) hg dX5_isSolvedBy_12 (by decide) ?_
        exact wm_zrret hg hr dX5_isSolvedBy_16 (by rw [if_pos (show exP 0 (N.1 1 0) = true from decide_eq_true h2)]) (⟨hR, fun r k z => by cases z⟩) (Or.inr rfl)
  | succ r =>
    refine wm_iload_n (q := 1) (i := 1) hg dX5_isSolvedBy_0 rfl rfl rfl ?_
    refine wm_if_ne (q := 17) (q2 := 4) hg dX5_isSolvedBy_1 (by decide) rfl (fun h1 => ?_) (fun h1 => ?_)
    · refine wm_aload_n (q := 18) (i := 0) hg dX5_isSolvedBy_17 rfl rfl rfl ?_
      refine wm_callV0 (q := 21) hg dX5_isSolvedBy_18 rfl lk_X5_138 (by decide) c_X5_putAside (by first | assumption | decide | omega | (simp only [nO]; omega)) ⟨rfl, by decide⟩ rfl rfl (Nat.le_of_ble_eq_true rfl) ?_
      refine wm_aload_n (q := 22) (i := 0) hg dX5_isSolvedBy_21 rfl rfl rfl ?_
      refine wm_iload_n (q := 23) (i := 1) hg dX5_isSolvedBy_22 rfl rfl rfl ?_
      refine wm_callR1 (q := 26) hg dX5_isSolvedBy_23 rfl lk_X5_171 (by decide) (c_X5_search (X := N.1 1 0) (B := N.1 0 0) (r := r) (by rw [oA_x _ _ (by decide)]; exact hR.2.1.1) rfl (by omega)) (by first | assumption | decide | omega | (simp only [nO]; omega)) ⟨rfl, by decide⟩ rfl rfl (Nat.le_of_ble_eq_true rfl) (fun R2 ⟨hk, hd⟩ => ?_)
      refine wm_istore_n (q := 27) (i := 2) (L' := [(0, _), (1, _), (2, _)]) hg dX5_isSolvedBy_26 rfl rfl rfl rfl ?_
      refine wm_aload_n (q := 28) (i := 0) hg dX5_isSolvedBy_27 rfl rfl rfl ?_
      refine wm_callV0 (q := 31) hg dX5_isSolvedBy_28 rfl lk_X5_141 (by decide) c_X5_putBack (by first | assumption | decide | omega | (simp only [nO]; omega)) ⟨rfl, by decide⟩ rfl rfl (Nat.le_of_ble_eq_true rfl) ?_
      refine wm_iload_n (q := 32) (i := 2) hg dX5_isSolvedBy_31 rfl rfl rfl ?_
      exact wm_zrret hg hr dX5_isSolvedBy_32 (rfl) (⟨RI_sk hR hk, fun r' k z e => by cases z; rw [oA_x _ _ (by decide)]; exact hd k e⟩) (by split <;> first | exact Or.inr rfl | exact Or.inl rfl)
    · exact absurd ((nI_eq (a := r + 1) (b := 0) (by omega) (by decide)).mp h1) (by omega)
set_option maxRecDepth 100000 in
set_option maxHeartbeats 4000000 in
theorem c_X5_solve {Γ : GT} {M N : Mem} {R : OV} {most what : Int32} (hR : RI N R) : CtR Γ yX5_solve cX5_solve 5 (some .int) 8 [.ref (ad Γ 5 0 0), .int most, .int what] M R (some (.int (fSolve N most what).1)) (fun R' => RI (fSolve N most what).2 R') := by
  refine ctr_of (by decide) (Nat.le_of_ble_eq_true rfl) (fun K hg hr => ?_)
  show WM Γ K _ [(0, _), (1, _), (2, _)] 0 []
  have hz : ok10 (N.1 1 0) := hR.1.2.1 0 (by decide)
  have h10 := hz.2
  refine wm_iload_n (q := 1) (i := 1) hg dX5_solve_0 rfl rfl rfl ?_
  refine wm_iconst (q := 2) 0 hg dX5_solve_1 rfl (by decide) ?_
  refine wm_iconst (q := 3) 3 hg dX5_solve_2 rfl (by decide) ?_
  refine wm_callS1 (q := 6) hg dX5_solve_3 rfl lk_X5_52 (by decide) c_X5_isIn rfl rfl (Nat.le_of_ble_eq_true rfl) ?_
  refine wm_if_eq (q := 18) (q2 := 9) hg dX5_solve_6 (by decide) rfl (fun h1 => ?_) (fun h1 => ?_)
  · refine wm_ldc (q := 20) (-1000000001) hg dX5_solve_18 rfl ld_X5_102 ?_
    exact wm_irret hg hr dX5_solve_20 (by unfold fSolve; rw [if_pos h1]) (by unfold fSolve; rw [if_pos h1]; exact hR)
  · skip
    refine wm_iload_n (q := 10) (i := 2) hg dX5_solve_9 rfl rfl rfl ?_
    refine wm_iconst (q := 11) 0 hg dX5_solve_10 rfl (by decide) ?_
    refine wm_iconst (q := 12) 2 hg dX5_solve_11 rfl (by decide) ?_
    refine wm_callS1 (q := 15) hg dX5_solve_12 rfl lk_X5_52 (by decide) c_X5_isIn rfl rfl (Nat.le_of_ble_eq_true rfl) ?_
    refine wm_if_ne (q := 21) (q2 := 18) hg dX5_solve_15 (by decide) rfl (fun h2 => ?_) (fun h2 => ?_)
    · skip
      obtain ⟨m, hm1, hm2, hm⟩ := wthn_n (lo := 0) (hi := 3) h1 (by decide) (by decide)
      have hm3 : m ≤ 3 := by first | exact hm2 | (have := hm2; omega)
      have hmt : most.toNatClampNeg = m := by rw [hm]; exact nI_clamp (by omega)
      refine wm_iconst (q := 22) 0 hg dX5_solve_21 rfl (by decide) ?_
      refine wm_istore_n (q := 23) (i := 3) (L' := [(0, _), (1, _), (2, _), (3, _)]) hg dX5_solve_22 rfl rfl rfl rfl ?_
      refine wm_iload_n (q := 24) (i := 3) hg dX5_solve_23 rfl rfl rfl ?_
      refine wm_iload_n (q := 25) (i := 1) hg dX5_solve_24 rfl rfl rfl ?_
      refine wm_icmp_gt (q := 92) (q2 := 28) hg dX5_solve_25 (by decide) rfl (fun h3 => ?_) (fun h3 => ?_)
      · exact absurd h3 (by rw [hm]; exact nI_nlt (a := m) (b := 0) (Nat.zero_le _) (by omega))
      · skip
        refine wm_aload_n (q := 29) (i := 0) hg dX5_solve_28 rfl rfl rfl ?_
        refine wm_iload_n (q := 30) (i := 3) hg dX5_solve_29 rfl rfl rfl ?_
        refine wm_callR1 (q := 33) hg dX5_solve_30 rfl lk_X5_174 (by decide) (c_X5_isSolvedBy (p := 0) hR rfl (by omega)) (by first | assumption | decide | omega | (simp only [nO]; omega)) ⟨rfl, by decide⟩ rfl rfl (Nat.le_of_ble_eq_true rfl) (fun R1 ⟨hR1, hd1⟩ => ?_)
        refine wm_if_eq (q := 86) (q2 := 36) hg dX5_solve_33 (by decide) rfl (fun h4 => ?_) (fun h4 => ?_)
        · skip
          have hg0 : ¬ gmS (N.1 1 0) (szN (N.1 1 0)) = 0 := fun z => by rw [if_pos (show exP 0 (N.1 1 0) = true from decide_eq_true z)] at h4; exact absurd h4 (by decide)
          obtain ⟨hf1, hf2⟩ := fSolve_ex hR hm hm3 h2 h1 hg0
          refine wm_iinc (q := 89) (L' := [(0, _), (1, _), (2, _), (3, _)]) (nI 1) hg dX5_solve_86 rfl rfl (by decide) rfl rfl ?_
          refine wm_goto (q := 23) hg dX5_solve_89 (by decide) ?_
          suffices hloop : ∀ (n j : Nat) (R2 : OV), 1 ≤ j → j + n = m + 1 → RI N R2 → (fSolve N most what).1 = exS what (N.1 1 0) n j → WM Γ K (sR M R2) [(0, .ref (ad Γ 5 0 0)), (1, .int most), (2, .int what), (3, .int (nI j))] 23 [] from hloop m 1 R1 (Nat.le_refl 1) (by omega) hR1 hf1
          intro n
          induction n with
          | zero =>
            intro j R2 hj1 hj hR2 hS
            refine wm_iload_n (q := 24) (i := 3) hg dX5_solve_23 rfl rfl rfl ?_
            refine wm_iload_n (q := 25) (i := 1) hg dX5_solve_24 rfl rfl rfl ?_
            refine wm_icmp_gt (q := 92) (q2 := 28) hg dX5_solve_25 (by decide) rfl (fun h5 => ?_) (fun h5 => ?_)
            · refine wm_ldc (q := 94) (-1000000009) hg dX5_solve_92 rfl ld_X5_25 ?_
              exact wm_irret hg hr dX5_solve_94 (by rw [hS]; rfl) (hf2 _ hR2)
            · exact absurd (by rw [hm]; exact nI_lt (a := m) (b := j) (by omega) (by omega)) h5
          | succ n ih =>
            intro j R2 hj1 hj hR2 hS
            obtain ⟨r, hjr⟩ : ∃ r, j = r + 1 := ⟨j - 1, by omega⟩
            refine wm_iload_n (q := 24) (i := 3) hg dX5_solve_23 rfl rfl rfl ?_
            refine wm_iload_n (q := 25) (i := 1) hg dX5_solve_24 rfl rfl rfl ?_
            refine wm_icmp_gt (q := 92) (q2 := 28) hg dX5_solve_25 (by decide) rfl (fun h5 => ?_) (fun h5 => ?_)
            · exact absurd h5 (by rw [hm]; exact nI_nlt (a := m) (b := j) (by omega) (by omega))
            · skip
              refine wm_aload_n (q := 29) (i := 0) hg dX5_solve_28 rfl rfl rfl ?_
              refine wm_iload_n (q := 30) (i := 3) hg dX5_solve_29 rfl rfl rfl ?_
              refine wm_callR1 (q := 33) hg dX5_solve_30 rfl lk_X5_174 (by decide) (c_X5_isSolvedBy (p := j) hR2 rfl (by omega)) (by first | assumption | decide | omega | (simp only [nO]; omega)) ⟨rfl, by decide⟩ rfl rfl (Nat.le_of_ble_eq_true rfl) (fun R3 ⟨hR3, hd3⟩ => ?_)
              unfold exS at hS
              rw [show j - 1 = r by omega] at hS
              refine wm_if_eq (q := 86) (q2 := 36) hg dX5_solve_33 (by decide) rfl (fun h6 => ?_) (fun h6 => ?_)
              · have hnone : exL (exP r) (N.1 1 0) (2 * szN (N.1 1 0)) 0 = none := by
                  cases he : exL (exP r) (N.1 1 0) (2 * szN (N.1 1 0)) 0 with
                  | none => rfl
                  | some k => rw [if_pos (show exP j (N.1 1 0) = true from by rw [hjr]; unfold exP; rw [he]; rfl)] at h6; exact absurd h6 (by decide)
                rw [hnone] at hS
                refine wm_iinc (q := 89) (L' := [(0, _), (1, _), (2, _), (3, _)]) (nI (j + 1)) hg dX5_solve_86 rfl rfl (nadd rfl rfl) rfl rfl ?_
                refine wm_goto (q := 23) hg dX5_solve_89 (by decide) ?_
                exact ih (j + 1) R3 (by omega) (by omega) hR3 hS
              · skip
                have hp : exP j (N.1 1 0) = true := by
                  by_cases hq : exP j (N.1 1 0) = true
                  · exact hq
                  · rw [if_neg hq] at h6; exact absurd rfl h6
                obtain ⟨k, hk⟩ : ∃ k, exL (exP r) (N.1 1 0) (2 * szN (N.1 1 0)) 0 = some k := by
                  cases he : exL (exP r) (N.1 1 0) (2 * szN (N.1 1 0)) 0 with
                  | none => rw [hjr] at hp; unfold exP at hp; rw [he] at hp; cases hp
                  | some k => exact ⟨k, rfl⟩
                rw [hk] at hS
                have hS : (fSolve N most what).1 = if what = 0 then nI j else if what = 1 then nI k / 2 else dirI (nI k) := hS
                have hk100 : k < 100 := by have := exL_some _ _ _ hk; omega
                refine wm_aload_n (q := 37) (i := 0) hg dX5_solve_36 rfl rfl rfl ?_
                refine wm_get (q := 40) hg dX5_solve_37 rfl fl_X5_39 (by first | assumption | decide | omega | (simp only [nO]; omega)) rfl ?_
                refine wm_iconst (q := 41) 0 hg dX5_solve_40 rfl (by decide) ?_
                refine wm_rload (q := 42) 0 hg dX5_solve_41 rfl rfl (rfl : (0 : Int32) = nI 0) (by simp only [alen]; omega) ?_
                rw [hd3 r k hjr hk]
                refine wm_istore (q := 44) (i := 4) (L' := [(0, _), (1, _), (2, _), (3, _), (4, _)]) hg dX5_solve_42 rfl rfl rfl ?_
                refine wm_iload_n (q := 45) (i := 2) hg dX5_solve_44 rfl rfl rfl ?_
                refine wm_if_ne (q := 52) (q2 := 48) hg dX5_solve_45 (by decide) rfl (fun h7 => ?_) (fun h7 => ?_)
                · skip
                  rw [if_neg h7] at hS
                  refine wm_iload_n (q := 53) (i := 3) hg dX5_solve_52 rfl rfl rfl ?_
                  refine wm_if_ne (q := 61) (q2 := 56) hg dX5_solve_53 (by decide) rfl (fun h8 => ?_) (fun h8 => ?_)
                  · skip
                    refine wm_iload_n (q := 62) (i := 2) hg dX5_solve_61 rfl rfl rfl ?_
                    refine wm_iconst (q := 63) 1 hg dX5_solve_62 rfl (by decide) ?_
                    refine wm_icmp_ne (q := 73) (q2 := 66) hg dX5_solve_63 (by decide) rfl (fun h9 => ?_) (fun h9 => ?_)
                    · rw [if_neg h9] at hS
                      refine wm_iload (q := 75) (i := 4) hg dX5_solve_73 rfl rfl ?_
                      refine wm_iconst (q := 76) 2 hg dX5_solve_75 rfl (by decide) ?_
                      refine wm_irem (q := 77) hg dX5_solve_76 rfl (by decide) ?_
                      refine wm_if_ne (q := 84) (q2 := 80) hg dX5_solve_77 (by decide) rfl (fun h10x => ?_) (fun h10x => ?_)
                      · refine wm_iconst (q := 85) (-1) hg dX5_solve_84 rfl (by decide) ?_
                        exact wm_irret hg hr dX5_solve_85 (by rw [hS]; unfold dirI; rw [if_neg h10x]) (hf2 _ hR3)
                      · refine wm_iconst (q := 81) 1 hg dX5_solve_80 rfl (by decide) ?_
                        refine wm_goto (q := 85) hg dX5_solve_81 (by decide) ?_
                        exact wm_irret hg hr dX5_solve_85 (by rw [hS]; unfold dirI; rw [if_pos h10x]) (hf2 _ hR3)
                    · refine wm_iload (q := 68) (i := 4) hg dX5_solve_66 rfl rfl ?_
                      refine wm_iconst (q := 69) 2 hg dX5_solve_68 rfl (by decide) ?_
                      refine wm_idiv (q := 70) hg dX5_solve_69 rfl (by decide) ?_
                      refine wm_goto (q := 85) hg dX5_solve_70 (by decide) ?_
                      exact wm_irret hg hr dX5_solve_85 (by rw [hS, if_pos h9]) (hf2 _ hR3)
                  · exact absurd ((nI_eq (a := j) (b := 0) (by omega) (by decide)).mp h8) (by omega)
                · refine wm_iload_n (q := 49) (i := 3) hg dX5_solve_48 rfl rfl rfl ?_
                  refine wm_goto (q := 85) hg dX5_solve_49 (by decide) ?_
                  exact wm_irret hg hr dX5_solve_85 (by rw [hS, if_pos h7]) (hf2 _ hR3)
        · skip
          have hg0 : gmS (N.1 1 0) (szN (N.1 1 0)) = 0 := by
            by_cases hq : exP 0 (N.1 1 0) = true
            · exact of_decide_eq_true hq
            · rw [if_neg hq] at h4; exact absurd rfl h4
          refine wm_aload_n (q := 37) (i := 0) hg dX5_solve_36 rfl rfl rfl ?_
          refine wm_get (q := 40) hg dX5_solve_37 rfl fl_X5_39 (by first | assumption | decide | omega | (simp only [nO]; omega)) rfl ?_
          refine wm_iconst (q := 41) 0 hg dX5_solve_40 rfl (by decide) ?_
          refine wm_rload (q := 42) 0 hg dX5_solve_41 rfl rfl (rfl : (0 : Int32) = nI 0) (by simp only [alen]; omega) ?_
          refine wm_istore (q := 44) (i := 4) (L' := [(0, _), (1, _), (2, _), (3, _), (4, _)]) hg dX5_solve_42 rfl rfl rfl ?_
          refine wm_iload_n (q := 45) (i := 2) hg dX5_solve_44 rfl rfl rfl ?_
          refine wm_if_ne (q := 52) (q2 := 48) hg dX5_solve_45 (by decide) rfl (fun h7 => ?_) (fun h7 => ?_)
          · refine wm_iload_n (q := 53) (i := 3) hg dX5_solve_52 rfl rfl rfl ?_
            refine wm_if_ne (q := 61) (q2 := 56) hg dX5_solve_53 (by decide) rfl (fun h8 => ?_) (fun h8 => ?_)
            · exact absurd rfl h8
            · refine wm_ldc (q := 58) (-1000000009) hg dX5_solve_56 rfl ld_X5_25 ?_
              refine wm_goto (q := 85) hg dX5_solve_58 (by decide) ?_
              exact wm_irret hg hr dX5_solve_85 (by unfold fSolve; rw [if_neg h1, if_neg h2, if_pos hg0, if_neg h7]) (by unfold fSolve; rw [if_neg h1, if_neg h2, if_pos hg0]; exact hR1)
          · refine wm_iload_n (q := 49) (i := 3) hg dX5_solve_48 rfl rfl rfl ?_
            refine wm_goto (q := 85) hg dX5_solve_49 (by decide) ?_
            exact wm_irret hg hr dX5_solve_85 (by unfold fSolve; rw [if_neg h1, if_neg h2, if_pos hg0, if_pos h7]; try rfl) (by unfold fSolve; rw [if_neg h1, if_neg h2, if_pos hg0]; exact hR1)
    · refine wm_ldc (q := 20) (-1000000001) hg dX5_solve_18 rfl ld_X5_102 ?_
      exact wm_irret hg hr dX5_solve_20 (by unfold fSolve; rw [if_neg h1, if_pos h2]) (by unfold fSolve; rw [if_neg h1, if_pos h2]; exact hR)
