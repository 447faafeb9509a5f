/-! ===== the loop of the law ===== -/
set_option maxRecDepth 100000 in
set_option maxHeartbeats 4000000 in
theorem law_loop {Γ : GT} {K : KT} {b N : Nat} {xs : Nat → Int32} (hg : GL Γ K b N xs) (hend : ∀ (M : Mem) (L : List (Nat × Value)), WL Γ K M L 783 [.int 1]) : ∀ (n i : Nat) (M : Mem), N < i + 4 * n + 4 → i ≤ 2052 → RI M (M.1 5 0) → WL Γ K M [(0, .ref b), (1, .ref (ad Γ 4 0 0)), (2, .ref (ad Γ 5 0 0)), (3, .int (nI i))] 18 [] := by
  have hN := hg.2.2.2.2.2
  have hlt : ∀ i : Nat, i ≤ 2052 → (nI N - 4 < nI i ↔ N < i + 4) := by
    intro i hi
    rw [Int32.lt_iff_toInt_lt, show (nI N - 4 : Int32).toInt = (N : Int) - 4 from pk_sub_toInt (a := N) (b := 4) (by omega) (by decide), nI_toInt (by omega)]
    omega
  intro n
  induction n with
  | zero =>
    intro i M h0 hi hR
    refine wl_iload_n (q := 19) (i := 3) hg dL_law_18 rfl rfl rfl ?_
    refine wl_aload_n (q := 20) (i := 0) hg dL_law_19 rfl rfl rfl ?_
    refine wl_slen (q := 21) hg dL_law_20 rfl ?_
    refine wl_iconst (q := 22) 4 hg dL_law_21 rfl (by decide) ?_
    refine wl_isub (q := 23) hg dL_law_22 rfl ?_
    refine wl_icmp_gt (q := 782) (q2 := 26) hg dL_law_23 (by decide) rfl (fun h1 => ?_) (fun h1 => ?_)
    · exact wl_iconst (q := 783) 1 hg dL_law_782 rfl (by decide) (hend M _)
    · exact absurd ((hlt i hi).mpr (by omega)) h1
  | succ n ih =>
    intro i M h0 hi hR
    refine wl_iload_n (q := 19) (i := 3) hg dL_law_18 rfl rfl rfl ?_
    refine wl_aload_n (q := 20) (i := 0) hg dL_law_19 rfl rfl rfl ?_
    refine wl_slen (q := 21) hg dL_law_20 rfl ?_
    refine wl_iconst (q := 22) 4 hg dL_law_21 rfl (by decide) ?_
    refine wl_isub (q := 23) hg dL_law_22 rfl ?_
    refine wl_icmp_gt (q := 782) (q2 := 26) hg dL_law_23 (by decide) rfl (fun h1 => ?_) (fun h1 => ?_)
    · exact wl_iconst (q := 783) 1 hg dL_law_782 rfl (by decide) (hend M _)
    · have hi4 : i + 4 ≤ N := by
        rcases Nat.lt_or_ge N (i + 4) with z | z
        · exact absurd ((hlt i hi).mpr z) h1
        · exact z
      have hback : ∀ M2, RI M2 (M2.1 5 0) → WL Γ K M2 [(0, .ref b), (1, .ref (ad Γ 4 0 0)), (2, .ref (ad Γ 5 0 0)), (3, .int (nI i))] 776 [] := by
        intro M2 hR2
        refine wl_iinc (q := 779) (L' := [(0, _), (1, _), (2, _), (3, _)]) (nI (i + 4)) hg dL_law_776 rfl rfl (nadd rfl rfl) rfl rfl ?_
        exact wl_goto (q := 18) hg dL_law_779 (by decide) (ih (i + 4) M2 (by omega) (by omega) hR2)
      refine wl_aload_n (q := 27) (i := 0) hg dL_law_26 rfl rfl rfl ?_
      refine wl_iload_n (q := 28) (i := 3) hg dL_law_27 rfl rfl rfl ?_
      refine wl_sld (q := 29) (i := i) hg dL_law_28 rfl rfl (by omega) ?_
      refine wl_bipush (q := 31) 31 hg dL_law_29 rfl (by decide) ?_
      refine wl_iand (q := 32) hg dL_law_31 rfl ?_
      obtain ⟨j, hj, hv⟩ := pk_andE (xs i) (m := 31) 5 rfl
      refine wl_st (st' := [.int (nI j)]) (by rw [hv]) ?_
      rcases (show j = 0 ∨ j = 1 ∨ j = 2 ∨ j = 3 ∨ j = 4 ∨ j = 5 ∨ j = 6 ∨ j = 7 ∨ j = 8 ∨ j = 9 ∨ j = 10 ∨ j = 11 ∨ j = 12 ∨ j = 13 ∨ j = 14 ∨ j = 15 ∨ j = 16 ∨ j = 17 ∨ j = 18 ∨ j = 19 ∨ j = 20 ∨ j = 21 ∨ j = 22 ∨ j = 23 ∨ 24 ≤ j by omega) with rfl | rfl | rfl | rfl | rfl | rfl | rfl | rfl | rfl | rfl | rfl | rfl | rfl | rfl | rfl | rfl | rfl | rfl | rfl | rfl | rfl | rfl | rfl | rfl | hj24
      · exact wl_tableIn (q := 144) hg dL_law_32 (by decide) (by decide) rfl (by decide) (law_0 hg hi4 hR hback)
      · exact wl_tableIn (q := 167) hg dL_law_32 (by decide) (by decide) rfl (by decide) (law_1 hg hi4 hR hback)
      · exact wl_tableIn (q := 200) hg dL_law_32 (by decide) (by decide) rfl (by decide) (law_2 hg hi4 hR hback)
      · exact wl_tableIn (q := 223) hg dL_law_32 (by decide) (by decide) rfl (by decide) (law_3 hg hi4 hR hback)
      · exact wl_tableIn (q := 236) hg dL_law_32 (by decide) (by decide) rfl (by decide) (law_4 hg hi4 hR hback)
      · exact wl_tableIn (q := 249) hg dL_law_32 (by decide) (by decide) rfl (by decide) (law_5 hg hi4 hR hback)
      · exact wl_tableIn (q := 282) hg dL_law_32 (by decide) (by decide) rfl (by decide) (law_6 hg hi4 hR hback)
      · exact wl_tableIn (q := 315) hg dL_law_32 (by decide) (by decide) rfl (by decide) (law_7 hg hi4 hR hback)
      · exact wl_tableIn (q := 348) hg dL_law_32 (by decide) (by decide) rfl (by decide) (law_8 hg hi4 hR hback)
      · exact wl_tableIn (q := 381) hg dL_law_32 (by decide) (by decide) rfl (by decide) (law_9 hg hi4 hR hback)
      · exact wl_tableIn (q := 394) hg dL_law_32 (by decide) (by decide) rfl (by decide) (law_10 hg hi4 hR hback)
      · exact wl_tableIn (q := 417) hg dL_law_32 (by decide) (by decide) rfl (by decide) (law_11 hg hi4 hR hback)
      · exact wl_tableIn (q := 450) hg dL_law_32 (by decide) (by decide) rfl (by decide) (law_12 hg hi4 hR hback)
      · exact wl_tableIn (q := 483) hg dL_law_32 (by decide) (by decide) rfl (by decide) (law_13 hg hi4 hR hback)
      · exact wl_tableIn (q := 506) hg dL_law_32 (by decide) (by decide) rfl (by decide) (law_14 hg hi4 hR hback)
      · exact wl_tableIn (q := 549) hg dL_law_32 (by decide) (by decide) rfl (by decide) (law_15 hg hi4 hR hback)
      · exact wl_tableIn (q := 582) hg dL_law_32 (by decide) (by decide) rfl (by decide) (law_16 hg hi4 hR hback)
      · exact wl_tableIn (q := 625) hg dL_law_32 (by decide) (by decide) rfl (by decide) (law_17 hg hi4 hR hback)
      · exact wl_tableIn (q := 658) hg dL_law_32 (by decide) (by decide) rfl (by decide) (law_18 hg hi4 hR hback)
      · exact wl_tableIn (q := 681) hg dL_law_32 (by decide) (by decide) rfl (by decide) (law_19 hg hi4 hR hback)
      · exact wl_tableIn (q := 694) hg dL_law_32 (by decide) (by decide) rfl (by decide) (law_20 hg hi4 hR hback)
      · exact wl_tableIn (q := 707) hg dL_law_32 (by decide) (by decide) rfl (by decide) (law_21 hg hi4 hR hback)
      · exact wl_tableIn (q := 730) hg dL_law_32 (by decide) (by decide) rfl (by decide) (law_22 hg hi4 hR hback)
      · exact wl_tableIn (q := 753) hg dL_law_32 (by decide) (by decide) rfl (by decide) (law_23 hg hi4 hR hback)
      · exact wl_tableOut (q := 776) hg dL_law_32 (Or.inr (by rw [nI_toInt (by omega)]; omega)) (by decide) (hback M hR)
