/-! ===== the reference: changes ===== -/
theorem endX_1 (X B : OV) (e : Int32) : (endX X B e).2.1.1 = X.1 := stQ_1 _ _
def isPM (n i b : Int32) : Int32 := if wthn i 0 (n - 1) = 0 then 0 else if wthn b (-4) 4 = 0 then 0 else if b = 0 then 0 else 1
theorem isPM_01 (n i b : Int32) : isPM n i b = 0 ∨ isPM n i b = 1 := by
  unfold isPM
  (repeat' split) <;> first | exact Or.inl rfl | exact Or.inr rfl
theorem isAng_n {v : Int32} (h : ¬ isAng v = 0) : ∃ n : Nat, n < 8 ∧ v = nI n := by
  obtain ⟨n, -, h2, h3⟩ := wthn_n (lo := 0) (hi := 7) h (by decide) (by decide)
  exact ⟨n, by omega, h3⟩
theorem wthn_out {v lo hi : Int32} (h : wthn v lo hi = 0) {k : Int32} (hk : ¬ wthn k lo hi = 0) : v ≠ k := fun z => hk (z ▸ h)
set_option maxRecDepth 100000 in
set_option maxHeartbeats 4000000 in
theorem c_X5_isPush {Γ : GT} {M : Mem} {R : OV} {i b : Int32} : Ct Γ yX5_isPush cX5_isPush 3 (some .boolean) 2 [.ref (ad Γ 5 0 0), .int i, .int b] (sR M R) (some (.int (isPM (R.2 0 0) i b))) (sR M R) := by
  refine ct_of (by decide) (Nat.le_of_ble_eq_true rfl) (fun K hg hr => ?_)
  show WM Γ K _ [(0, _), (1, _), (2, _)] 0 []
  refine wm_aload_n (q := 1) (i := 0) hg dX5_isPush_0 rfl rfl rfl ?_
  refine wm_iload_n (q := 2) (i := 1) hg dX5_isPush_1 rfl rfl rfl ?_
  refine wm_callV1 (q := 5) hg dX5_isPush_2 rfl lk_X5_64 (by first | decide | omega) c_X5_isMagnet (by first | assumption | decide | omega | (simp only [nO]; omega)) ⟨rfl, by decide⟩ rfl rfl (Nat.le_of_ble_eq_true rfl) ?_
  refine wm_if_eq (q := 26) (q2 := 8) hg dX5_isPush_5 (by decide) rfl (fun h1 => ?_) (fun h1 => ?_)
  · refine wm_iconst (q := 27) 0 hg dX5_isPush_26 rfl (by decide) ?_
    exact wm_zret hg hr dX5_isPush_27 (by simp [isPM, h1]) (rfl) (by first | exact Or.inl rfl | exact Or.inr rfl)
  · refine wm_iload_n (q := 9) (i := 2) hg dX5_isPush_8 rfl rfl rfl ?_
    refine wm_bipush (q := 11) (-4) hg dX5_isPush_9 rfl (by decide) ?_
    refine wm_iconst (q := 12) 4 hg dX5_isPush_11 rfl (by decide) ?_
    refine wm_callS1 (q := 15) hg dX5_isPush_12 rfl lk_X5_52 (by first | decide | omega) c_X5_isIn rfl rfl (Nat.le_of_ble_eq_true rfl) ?_
    refine wm_if_eq (q := 26) (q2 := 18) hg dX5_isPush_15 (by decide) rfl (fun h2 => ?_) (fun h2 => ?_)
    · refine wm_iconst (q := 27) 0 hg dX5_isPush_26 rfl (by decide) ?_
      exact wm_zret hg hr dX5_isPush_27 (by simp [isPM, h1, h2]) (rfl) (by first | exact Or.inl rfl | exact Or.inr rfl)
    · refine wm_iload_n (q := 19) (i := 2) hg dX5_isPush_18 rfl rfl rfl ?_
      refine wm_if_eq (q := 26) (q2 := 22) hg dX5_isPush_19 (by decide) rfl (fun h3 => ?_) (fun h3 => ?_)
      · refine wm_iconst (q := 27) 0 hg dX5_isPush_26 rfl (by decide) ?_
        exact wm_zret hg hr dX5_isPush_27 (by simp [isPM, h1, h2, h3]) (rfl) (by first | exact Or.inl rfl | exact Or.inr rfl)
      · refine wm_iconst (q := 23) 1 hg dX5_isPush_22 rfl (by decide) ?_
        refine wm_goto (q := 27) hg dX5_isPush_23 (by decide) ?_
        exact wm_zret hg hr dX5_isPush_27 (by simp [isPM, h1, h2, h3]) (rfl) (by first | exact Or.inl rfl | exact Or.inr rfl)
set_option maxRecDepth 100000 in
set_option maxHeartbeats 4000000 in
theorem c_X5_begin {Γ : GT} {M N : Mem} {R : OV} {v : Int32} (hR : RI N R) : CtR Γ yX5_begin cX5_begin 4 (some .int) 6 [.ref (ad Γ 5 0 0), .int v] M R (some (.int (fBegin N v).1)) (fun R' => RI (fBegin N v).2 R') := by
  refine ctr_of (by decide) (Nat.le_of_ble_eq_true rfl) (fun K hg hr => ?_)
  show WM Γ K _ [(0, _), (1, _)] 0 []
  have hz : ok10 (N.1 1 0) := hR.1.2.1 0 (by decide)
  have hz1 := hz.1
  have hz2 := hz.2
  have hX0 : R.2 0 0 = (N.1 1 0).1 0 := hR.2.1.1.2.1.1
  refine wm_iload_n (q := 1) (i := 1) hg dX5_begin_0 rfl rfl rfl ?_
  refine wm_iconst (q := 2) 1 hg dX5_begin_1 rfl (by decide) ?_
  refine wm_bipush (q := 4) 10 hg dX5_begin_2 rfl (by decide) ?_
  refine wm_callS1 (q := 7) hg dX5_begin_4 rfl lk_X5_52 (by first | decide | omega) c_X5_isIn rfl rfl (Nat.le_of_ble_eq_true rfl) ?_
  refine wm_if_ne (q := 13) (q2 := 10) hg dX5_begin_7 (by decide) rfl (fun h1 => ?_) (fun h1 => ?_)
  · obtain ⟨n, hn1, hn2, hv⟩ := wthn_n (lo := 1) (hi := 10) h1 (by decide) (by decide)
    refine wm_aload_n (q := 14) (i := 0) hg dX5_begin_13 rfl rfl rfl ?_
    refine wm_callR0 (q := 17) hg dX5_begin_14 rfl lk_X5_103 (by first | decide | omega) (c_X5_record (N := N) hR.1.1 hR.2.2.1 hR.2.1) (by first | assumption | decide | omega | (simp only [nO]; omega)) ⟨rfl, by decide⟩ rfl rfl (Nat.le_of_ble_eq_true rfl) (fun R1 ⟨hs1, hw1, hH1⟩ => ?_)
    have hW1 : RW (R1.2 0) (N.1 1 0) (N.1 0 0) := by rw [hw1]; exact hR.2.1
    refine wm_aload_n (q := 18) (i := 0) hg dX5_begin_17 rfl rfl rfl ?_
    refine wm_get (q := 21) hg dX5_begin_18 rfl fl_X5_7 (by first | assumption | decide | omega | (simp only [nO]; omega)) rfl ?_
    refine wm_iconst (q := 22) 0 hg dX5_begin_21 rfl (by decide) ?_
    refine wm_rload (q := 23) 0 hg dX5_begin_22 rfl rfl (rfl : (0 : Int32) = nI 0) (by simp only [alen]; omega) ?_
    refine wm_istore_n (q := 24) (i := 2) (L' := [(0, _), (1, _), (2, _)]) hg dX5_begin_23 rfl rfl rfl rfl ?_
    refine wm_aload_n (q := 25) (i := 0) hg dX5_begin_24 rfl rfl rfl ?_
    refine wm_iload_n (q := 26) (i := 1) hg dX5_begin_25 rfl rfl rfl ?_
    refine wm_callV0 (q := 29) hg dX5_begin_26 rfl lk_X5_48 (by first | decide | omega) c_X5_lay (by first | assumption | decide | omega | (simp only [nO]; omega)) ⟨rfl, by decide⟩ rfl rfl (Nat.le_of_ble_eq_true rfl) ?_
    refine wm_bipush (q := 31) 35 hg dX5_begin_29 rfl (by decide) ?_
    refine wm_istore_n (q := 32) (i := 3) (L' := [(0, _), (1, _), (2, _), (3, _)]) hg dX5_begin_31 rfl rfl rfl rfl ?_
    suffices hloop : ∀ (n i : Nat), i + n = 5 → WM Γ K (sR M (oA R1 0 (clF (laF (R1.2 0) v 10) i))) [(0, .ref (ad Γ 5 0 0)), (1, .int v), (2, .int (R1.2 0 0)), (3, .int (nI (35 + i)))] 32 [] from wm_R (by rw [clF_0]) (hloop 5 0 (by omega))
    intro n
    induction n with
    | zero =>
      intro i hi 
      refine wm_iload_n (q := 33) (i := 3) hg dX5_begin_32 rfl rfl rfl ?_
      refine wm_bipush (q := 35) 40 hg dX5_begin_33 rfl (by decide) ?_
      refine wm_icmp_ge (q := 51) (q2 := 38) hg dX5_begin_35 (by decide) rfl (fun hb => ?_) (fun hb => ?_)
      · have he : i = 5 := by omega
        subst he
        have hWe : RW ((oA R1 0 (clF (laF (R1.2 0) v 10) 5)).2 0) (swX (N.1 1 0) v) (clX (N.1 0 0)) := by rw [oA_w]; exact RW_clr (RW_lay hW1 hn1 hn2 hv)
        refine wm_aload_n (q := 52) (i := 0) hg dX5_begin_51 rfl rfl rfl ?_
        refine wm_callR1 (q := 55) hg dX5_begin_52 rfl lk_X5_99 (by first | decide | omega) (c_X5_settle (X := swX (N.1 1 0) v) (B := clX (N.1 0 0)) hWe.1) (by first | assumption | decide | omega | (simp only [nO]; omega)) ⟨rfl, by decide⟩ rfl rfl (Nat.le_of_ble_eq_true rfl) (fun R2 hR2 => ?_)
        refine wm_istore_n (q := 56) (i := 3) (L' := [(0, _), (1, _), (2, _), (3, _)]) hg dX5_begin_55 rfl rfl rfl rfl ?_
        refine wm_iload_n (q := 57) (i := 2) hg dX5_begin_56 rfl rfl rfl ?_
        exact wm_irret hg hr dX5_begin_57 (by unfold fBegin; rw [if_neg h1, hw1, hX0]) (by obtain ⟨w2, rfl, q1, q2, q3⟩ := hR2; unfold fBegin; rw [if_neg h1]; exact RI_ch hR hH1 (hs1.tr ((Sm.A _ (by decide)).tr (Sm.A _ (by decide)))) (by rw [oA_w]; exact RW_st hWe q1 q2 q3))
      · exact absurd (nI_le (a := 40) (b := 35 + i) (by omega) (by omega)) hb
    | succ n ih =>
      intro i hi 
      refine wm_iload_n (q := 33) (i := 3) hg dX5_begin_32 rfl rfl rfl ?_
      refine wm_bipush (q := 35) 40 hg dX5_begin_33 rfl (by decide) ?_
      refine wm_icmp_ge (q := 51) (q2 := 38) hg dX5_begin_35 (by decide) rfl (fun hb => ?_) (fun hb => ?_)
      · exact absurd hb (nI_ge (a := 35 + i) (b := 40) (by omega) (by omega))
      · refine wm_aload_n (q := 39) (i := 0) hg dX5_begin_38 rfl rfl rfl ?_
        refine wm_get (q := 42) hg dX5_begin_39 rfl fl_X5_7 (by first | assumption | decide | omega | (simp only [nO]; omega)) rfl ?_
        refine wm_iload_n (q := 43) (i := 3) hg dX5_begin_42 rfl rfl rfl ?_
        refine wm_iconst (q := 44) 0 hg dX5_begin_43 rfl (by decide) ?_
        refine wm_rstore (q := 45) (35 + i) hg dX5_begin_44 rfl rfl rfl (by simp only [alen]; omega) ?_
        refine wm_iinc (q := 48) (L' := [(0, _), (1, _), (2, _), (3, _)]) (nI ((35 + i) + 1)) hg dX5_begin_45 rfl rfl (nadd rfl rfl) rfl rfl ?_
        refine wm_goto (q := 32) hg dX5_begin_48 (by decide) ?_
        exact wm_R (oA_st (clF_s (laF (R1.2 0) v 10) i)) (ih (i + 1) (by omega))
  · refine wm_ldc (q := 12) (-1000000001) hg dX5_begin_10 rfl ld_X5_102 ?_
    exact wm_irret hg hr dX5_begin_12 (by unfold fBegin; rw [if_pos h1]) (by unfold fBegin; rw [if_pos h1]; exact hR)
set_option maxRecDepth 100000 in
set_option maxHeartbeats 4000000 in
theorem c_X5_remove {Γ : GT} {M N : Mem} {R : OV} {v : Int32} (hR : RI N R) : CtR Γ yX5_remove cX5_remove 5 (some .int) 7 [.ref (ad Γ 5 0 0), .int v] M R (some (.int (fRem N v).1)) (fun R' => RI (fRem N v).2 R') := by
  refine ctr_of (by decide) (Nat.le_of_ble_eq_true rfl) (fun K hg hr => ?_)
  show WM Γ K _ [(0, _), (1, _)] 0 []
  have hz : ok10 (N.1 1 0) := hR.1.2.1 0 (by decide)
  have hz1 := hz.1
  have hz2 := hz.2
  have hX0 : R.2 0 0 = (N.1 1 0).1 0 := hR.2.1.1.2.1.1
  refine wm_aload_n (q := 1) (i := 0) hg dX5_remove_0 rfl rfl rfl ?_
  refine wm_iload_n (q := 2) (i := 1) hg dX5_remove_1 rfl rfl rfl ?_
  refine wm_callV1 (q := 5) hg dX5_remove_2 rfl lk_X5_64 (by first | decide | omega) c_X5_isMagnet (by first | assumption | decide | omega | (simp only [nO]; omega)) ⟨rfl, by decide⟩ rfl rfl (Nat.le_of_ble_eq_true rfl) ?_
  refine wm_if_ne (q := 11) (q2 := 8) hg dX5_remove_5 (by decide) rfl (fun h1 => ?_) (fun h1 => ?_)
  · rw [hX0] at h1
    obtain ⟨e1, e2, e3⟩ := wthn_sz hz h1
    have hbz : (v.toNatClampNeg : Nat) = v.toNatClampNeg := rfl
    refine wm_aload_n (q := 12) (i := 0) hg dX5_remove_11 rfl rfl rfl ?_
    refine wm_get (q := 15) hg dX5_remove_12 rfl fl_X5_7 (by first | assumption | decide | omega | (simp only [nO]; omega)) rfl ?_
    refine wm_iconst (q := 16) 0 hg dX5_remove_15 rfl (by decide) ?_
    refine wm_rload (q := 17) 0 hg dX5_remove_16 rfl rfl (rfl : (0 : Int32) = nI 0) (by simp only [alen]; omega) ?_
    refine wm_iconst (q := 18) 1 hg dX5_remove_17 rfl (by decide) ?_
    refine wm_icmp_ne (q := 24) (q2 := 21) hg dX5_remove_18 (by decide) rfl (fun h2 => ?_) (fun h2 => ?_)
    · rw [hX0] at h2
      have h3 : 1 < szN (N.1 1 0) := by
        rcases (show szN (N.1 1 0) = 1 ∨ 1 < szN (N.1 1 0) by omega) with z | z
        · exact absurd (by rw [hz1, z]; rfl) h2
        · exact z
      refine wm_aload_n (q := 25) (i := 0) hg dX5_remove_24 rfl rfl rfl ?_
      refine wm_callR0 (q := 28) hg dX5_remove_25 rfl lk_X5_103 (by first | decide | omega) (c_X5_record (N := N) hR.1.1 hR.2.2.1 hR.2.1) (by first | assumption | decide | omega | (simp only [nO]; omega)) ⟨rfl, by decide⟩ rfl rfl (Nat.le_of_ble_eq_true rfl) (fun R1 ⟨hs1, hw1, hH1⟩ => ?_)
      have hW1 : RW (R1.2 0) (N.1 1 0) (N.1 0 0) := by rw [hw1]; exact hR.2.1
      refine wm_aload_n (q := 29) (i := 0) hg dX5_remove_28 rfl rfl rfl ?_
      refine wm_callV1 (q := 32) hg dX5_remove_29 rfl lk_X5_95 (by first | decide | omega) (c_X5_energy (X := N.1 1 0) hz hW1.1.2.1) (by first | assumption | decide | omega | (simp only [nO]; omega)) ⟨rfl, by decide⟩ rfl rfl (Nat.le_of_ble_eq_true rfl) ?_
      refine wm_istore_n (q := 33) (i := 2) (L' := [(0, _), (1, _), (2, _)]) hg dX5_remove_32 rfl rfl rfl rfl ?_
      refine wm_aload_n (q := 34) (i := 0) hg dX5_remove_33 rfl rfl rfl ?_
      refine wm_iload_n (q := 35) (i := 1) hg dX5_remove_34 rfl rfl rfl ?_
      refine wm_callV1 (q := 38) hg dX5_remove_35 rfl lk_X5_68 (by first | decide | omega) (c_X5_angle e1 (by omega)) (by first | assumption | decide | omega | (simp only [nO]; omega)) ⟨rfl, by decide⟩ rfl rfl (Nat.le_of_ble_eq_true rfl) ?_
      refine wm_istore_n (q := 39) (i := 3) (L' := [(0, _), (1, _), (2, _), (3, _)]) hg dX5_remove_38 rfl rfl rfl rfl ?_
      refine wm_aload_n (q := 40) (i := 0) hg dX5_remove_39 rfl rfl rfl ?_
      refine wm_iload_n (q := 41) (i := 1) hg dX5_remove_40 rfl rfl rfl ?_
      refine wm_callR0 (q := 44) hg dX5_remove_41 rfl lk_X5_110 (by first | decide | omega) (c_X5_take (X := N.1 1 0) hz e1 e2 hW1.1.2.1.1 hW1.1.2.1.2.1) (by first | assumption | decide | omega | (simp only [nO]; omega)) ⟨rfl, by decide⟩ rfl rfl (Nat.le_of_ble_eq_true rfl) (fun R3 hR3 => ?_)
      obtain ⟨wt, rfl, ht1, ht2, ht3⟩ := hR3
      obtain ⟨g1, g2⟩ := rgX_to hW1.1.1 e2 h3
      have hWe : RW ((oA R1 0 wt).2 0) (toX (N.1 1 0) v.toNatClampNeg) (N.1 0 0) := by rw [oA_w]; exact RW_new hW1 g1 ht1 (fun k hk => ht2 k (by omega)) ht3 (fun j hj => toX_f _ _ hj)
      refine wm_aload_n (q := 45) (i := 0) hg dX5_remove_44 rfl rfl rfl ?_
      refine wm_iload_n (q := 46) (i := 2) hg dX5_remove_45 rfl rfl rfl ?_
      refine wm_callR1 (q := 49) hg dX5_remove_46 rfl lk_X5_107 (by first | decide | omega) (c_X5_end (X := toX (N.1 1 0) v.toNatClampNeg) (B := N.1 0 0) (e := energy (N.1 1 0)) hWe) (by first | assumption | decide | omega | (simp only [nO]; omega)) ⟨rfl, by decide⟩ rfl rfl (Nat.le_of_ble_eq_true rfl) (fun R2 hR2 => ?_)
      refine wm_istore (q := 51) (i := 4) (L' := [(0, _), (1, _), (2, _), (3, _), (4, _)]) hg dX5_remove_49 rfl rfl rfl ?_
      refine wm_iload_n (q := 52) (i := 3) hg dX5_remove_51 rfl rfl rfl ?_
      exact wm_irret hg hr dX5_remove_52 (by unfold fRem; rw [if_neg h1, if_neg h2]; exact (hW1.1.2.1.2.1 _ e2).1) (by obtain ⟨w2, rfl, q⟩ := hR2; unfold fRem; rw [if_neg h1, if_neg h2]; exact RI_ch hR hH1 (hs1.tr ((Sm.A _ (by decide)).tr (Sm.A _ (by decide)))) (by rw [oA_w]; exact q))
    · rw [hX0] at h2
      refine wm_ldc (q := 23) (-1000000002) hg dX5_remove_21 rfl ld_X5_59 ?_
      exact wm_irret hg hr dX5_remove_23 (by unfold fRem; rw [if_neg h1, if_pos h2]) (by unfold fRem; rw [if_neg h1, if_pos h2]; exact hR)
  · rw [hX0] at h1
    refine wm_ldc (q := 10) (-1000000001) hg dX5_remove_8 rfl ld_X5_102 ?_
    exact wm_irret hg hr dX5_remove_10 (by unfold fRem; rw [if_pos h1]) (by unfold fRem; rw [if_pos h1]; exact hR)
set_option maxRecDepth 100000 in
set_option maxHeartbeats 4000000 in
theorem c_X5_hold {Γ : GT} {M N : Mem} {R : OV} {v b : Int32} (hR : RI N R) : CtR Γ yX5_hold cX5_hold 5 (some .int) 6 [.ref (ad Γ 5 0 0), .int v, .int b] M R (some (.int (fHold N v b).1)) (fun R' => RI (fHold N v b).2 R') := by
  refine ctr_of (by decide) (Nat.le_of_ble_eq_true rfl) (fun K hg hr => ?_)
  show WM Γ K _ [(0, _), (1, _), (2, _)] 0 []
  have hz : ok10 (N.1 1 0) := hR.1.2.1 0 (by decide)
  have hz1 := hz.1
  have hz2 := hz.2
  have hX0 : R.2 0 0 = (N.1 1 0).1 0 := hR.2.1.1.2.1.1
  refine wm_aload_n (q := 1) (i := 0) hg dX5_hold_0 rfl rfl rfl ?_
  refine wm_iload_n (q := 2) (i := 1) hg dX5_hold_1 rfl rfl rfl ?_
  refine wm_callV1 (q := 5) hg dX5_hold_2 rfl lk_X5_64 (by first | decide | omega) c_X5_isMagnet (by first | assumption | decide | omega | (simp only [nO]; omega)) ⟨rfl, by decide⟩ rfl rfl (Nat.le_of_ble_eq_true rfl) ?_
  refine wm_if_eq (q := 17) (q2 := 8) hg dX5_hold_5 (by decide) rfl (fun h1 => ?_) (fun h1 => ?_)
  · rw [hX0] at h1
    refine wm_ldc (q := 19) (-1000000001) hg dX5_hold_17 rfl ld_X5_102 ?_
    exact wm_irret hg hr dX5_hold_19 (by unfold fHold; rw [if_pos h1]) (by unfold fHold; rw [if_pos h1]; exact hR)
  · rw [hX0] at h1
    obtain ⟨e1, e2, e3⟩ := wthn_sz hz h1
    refine wm_iload_n (q := 9) (i := 2) hg dX5_hold_8 rfl rfl rfl ?_
    refine wm_iconst (q := 10) 0 hg dX5_hold_9 rfl (by decide) ?_
    refine wm_iconst (q := 11) 1 hg dX5_hold_10 rfl (by decide) ?_
    refine wm_callS1 (q := 14) hg dX5_hold_11 rfl lk_X5_52 (by first | decide | omega) c_X5_isIn rfl rfl (Nat.le_of_ble_eq_true rfl) ?_
    refine wm_if_ne (q := 20) (q2 := 17) hg dX5_hold_14 (by decide) rfl (fun h2 => ?_) (fun h2 => ?_)
    · have hb01 : b = 0 ∨ b = 1 := by
        obtain ⟨n, -, hn2, rfl⟩ := wthn_n (lo := 0) (hi := 1) h2 (by decide) (by decide)
        rcases (show n = 0 ∨ n = 1 by omega) with rfl | rfl
        · exact Or.inl rfl
        · exact Or.inr rfl
      refine wm_aload_n (q := 21) (i := 0) hg dX5_hold_20 rfl rfl rfl ?_
      refine wm_callR0 (q := 24) hg dX5_hold_21 rfl lk_X5_103 (by first | decide | omega) (c_X5_record (N := N) hR.1.1 hR.2.2.1 hR.2.1) (by first | assumption | decide | omega | (simp only [nO]; omega)) ⟨rfl, by decide⟩ rfl rfl (Nat.le_of_ble_eq_true rfl) (fun R1 ⟨hs1, hw1, hH1⟩ => ?_)
      have hW1 : RW (R1.2 0) (N.1 1 0) (N.1 0 0) := by rw [hw1]; exact hR.2.1
      refine wm_aload_n (q := 25) (i := 0) hg dX5_hold_24 rfl rfl rfl ?_
      refine wm_get (q := 28) hg dX5_hold_25 rfl fl_X5_7 (by first | assumption | decide | omega | (simp only [nO]; omega)) rfl ?_
      refine wm_bipush (q := 30) 11 hg dX5_hold_28 rfl (by decide) ?_
      refine wm_iload_n (q := 31) (i := 1) hg dX5_hold_30 rfl rfl rfl ?_
      refine wm_iadd (q := 32) hg dX5_hold_31 rfl ?_
      refine wm_rload (q := 33) (11 + v.toNatClampNeg) hg dX5_hold_32 rfl rfl (nadd (a := 11) (b := v.toNatClampNeg) (rfl : (11 : Int32) = nI 11) e1) (by simp only [alen]; omega) ?_
      refine wm_istore_n (q := 34) (i := 3) (L' := [(0, _), (1, _), (2, _), (3, _)]) hg dX5_hold_33 rfl rfl rfl rfl ?_
      refine wm_aload_n (q := 35) (i := 0) hg dX5_hold_34 rfl rfl rfl ?_
      refine wm_get (q := 38) hg dX5_hold_35 rfl fl_X5_7 (by first | assumption | decide | omega | (simp only [nO]; omega)) rfl ?_
      refine wm_bipush (q := 40) 11 hg dX5_hold_38 rfl (by decide) ?_
      refine wm_iload_n (q := 41) (i := 1) hg dX5_hold_40 rfl rfl rfl ?_
      refine wm_iadd (q := 42) hg dX5_hold_41 rfl ?_
      refine wm_iload_n (q := 43) (i := 2) hg dX5_hold_42 rfl rfl rfl ?_
      refine wm_rstore (q := 44) (11 + v.toNatClampNeg) hg dX5_hold_43 rfl rfl (nadd (a := 11) (b := v.toNatClampNeg) (rfl : (11 : Int32) = nI 11) e1) (by simp only [alen]; omega) ?_
      have hWe : RW ((oA R1 0 (upd (R1.2 0) (11 + v.toNatClampNeg) b)).2 0) (oA (N.1 1 0) 2 (upd ((N.1 1 0).2 2) v.toNatClampNeg b)) (N.1 0 0) := by rw [oA_w]; exact RW_held hW1 e2 hb01
      refine wm_aload_n (q := 45) (i := 0) hg dX5_hold_44 rfl rfl rfl ?_
      refine wm_callR1 (q := 48) hg dX5_hold_45 rfl lk_X5_99 (by first | decide | omega) (c_X5_settle (X := oA (N.1 1 0) 2 (upd ((N.1 1 0).2 2) v.toNatClampNeg b)) (B := N.1 0 0) hWe.1) (by first | assumption | decide | omega | (simp only [nO]; omega)) ⟨rfl, by decide⟩ rfl rfl (Nat.le_of_ble_eq_true rfl) (fun R2 hR2 => ?_)
      refine wm_istore (q := 50) (i := 4) (L' := [(0, _), (1, _), (2, _), (3, _), (4, _)]) hg dX5_hold_48 rfl rfl rfl ?_
      refine wm_iload_n (q := 51) (i := 3) hg dX5_hold_50 rfl rfl rfl ?_
      exact wm_irret hg hr dX5_hold_51 (by unfold fHold; rw [if_neg h1, if_neg h2]; exact (hW1.1.2.1.2.1 _ e2).2.1) (by obtain ⟨w2, rfl, q1, q2, q3⟩ := hR2; unfold fHold; rw [if_neg h1, if_neg h2]; unfold chM; rw [endX_0 (energy_1 _ _ (by decide))]; exact RI_ch hR hH1 (hs1.tr ((Sm.A _ (by decide)).tr (Sm.A _ (by decide)))) (by rw [oA_w]; exact RW_st hWe q1 q2 q3))
    · refine wm_ldc (q := 19) (-1000000001) hg dX5_hold_17 rfl ld_X5_102 ?_
      exact wm_irret hg hr dX5_hold_19 (by unfold fHold; rw [if_neg h1, if_pos h2]) (by unfold fHold; rw [if_neg h1, if_pos h2]; exact hR)
set_option maxRecDepth 100000 in
set_option maxHeartbeats 4000000 in
theorem c_X5_goal {Γ : GT} {M N : Mem} {R : OV} {v b : Int32} (hR : RI N R) : CtR Γ yX5_goal cX5_goal 5 (some .int) 6 [.ref (ad Γ 5 0 0), .int v, .int b] M R (some (.int (fGoal N v b).1)) (fun R' => RI (fGoal N v b).2 R') := by
  refine ctr_of (by decide) (Nat.le_of_ble_eq_true rfl) (fun K hg hr => ?_)
  show WM Γ K _ [(0, _), (1, _), (2, _)] 0 []
  have hz : ok10 (N.1 1 0) := hR.1.2.1 0 (by decide)
  have hz1 := hz.1
  have hz2 := hz.2
  have hX0 : R.2 0 0 = (N.1 1 0).1 0 := hR.2.1.1.2.1.1
  refine wm_aload_n (q := 1) (i := 0) hg dX5_goal_0 rfl rfl rfl ?_
  refine wm_iload_n (q := 2) (i := 1) hg dX5_goal_1 rfl rfl rfl ?_
  refine wm_callV1 (q := 5) hg dX5_goal_2 rfl lk_X5_64 (by first | decide | omega) c_X5_isMagnet (by first | assumption | decide | omega | (simp only [nO]; omega)) ⟨rfl, by decide⟩ rfl rfl (Nat.le_of_ble_eq_true rfl) ?_
  refine wm_if_eq (q := 24) (q2 := 8) hg dX5_goal_5 (by decide) rfl (fun h1 => ?_) (fun h1 => ?_)
  · rw [hX0] at h1
    refine wm_ldc (q := 26) (-1000000001) hg dX5_goal_24 rfl ld_X5_102 ?_
    exact wm_irret hg hr dX5_goal_26 (by unfold fGoal; rw [if_pos h1]) (by unfold fGoal; rw [if_pos h1]; exact hR)
  · rw [hX0] at h1
    obtain ⟨e1, e2, e3⟩ := wthn_sz hz h1
    refine wm_iload_n (q := 9) (i := 2) hg dX5_goal_8 rfl rfl rfl ?_
    refine wm_iconst (q := 10) 0 hg dX5_goal_9 rfl (by decide) ?_
    refine wm_bipush (q := 12) 7 hg dX5_goal_10 rfl (by decide) ?_
    refine wm_callS1 (q := 15) hg dX5_goal_12 rfl lk_X5_52 (by first | decide | omega) c_X5_isIn rfl rfl (Nat.le_of_ble_eq_true rfl) ?_
    refine wm_if_ne (q := 27) (q2 := 18) hg dX5_goal_15 (by decide) rfl (fun h2 => ?_) (fun h2 => ?_)
    · have hcond : b = -1000000009 ∨ ¬ isAng b = 0 := Or.inr h2
      have hval : b = -1000000009 ∨ ∃ n : Nat, n < 8 ∧ b = nI n := Or.inr (isAng_n h2)
      refine wm_aload_n (q := 28) (i := 0) hg dX5_goal_27 rfl rfl rfl ?_
      refine wm_callR0 (q := 31) hg dX5_goal_28 rfl lk_X5_103 (by first | decide | omega) (c_X5_record (N := N) hR.1.1 hR.2.2.1 hR.2.1) (by first | assumption | decide | omega | (simp only [nO]; omega)) ⟨rfl, by decide⟩ rfl rfl (Nat.le_of_ble_eq_true rfl) (fun R1 ⟨hs1, hw1, hH1⟩ => ?_)
      have hW1 : RW (R1.2 0) (N.1 1 0) (N.1 0 0) := by rw [hw1]; exact hR.2.1
      refine wm_aload_n (q := 32) (i := 0) hg dX5_goal_31 rfl rfl rfl ?_
      refine wm_get (q := 35) hg dX5_goal_32 rfl fl_X5_7 (by first | assumption | decide | omega | (simp only [nO]; omega)) rfl ?_
      refine wm_bipush (q := 37) 21 hg dX5_goal_35 rfl (by decide) ?_
      refine wm_iload_n (q := 38) (i := 1) hg dX5_goal_37 rfl rfl rfl ?_
      refine wm_iadd (q := 39) hg dX5_goal_38 rfl ?_
      refine wm_rload (q := 40) (21 + v.toNatClampNeg) hg dX5_goal_39 rfl rfl (nadd (a := 21) (b := v.toNatClampNeg) (rfl : (21 : Int32) = nI 21) e1) (by simp only [alen]; omega) ?_
      refine wm_istore_n (q := 41) (i := 3) (L' := [(0, _), (1, _), (2, _), (3, _)]) hg dX5_goal_40 rfl rfl rfl rfl ?_
      refine wm_aload_n (q := 42) (i := 0) hg dX5_goal_41 rfl rfl rfl ?_
      refine wm_get (q := 45) hg dX5_goal_42 rfl fl_X5_7 (by first | assumption | decide | omega | (simp only [nO]; omega)) rfl ?_
      refine wm_bipush (q := 47) 21 hg dX5_goal_45 rfl (by decide) ?_
      refine wm_iload_n (q := 48) (i := 1) hg dX5_goal_47 rfl rfl rfl ?_
      refine wm_iadd (q := 49) hg dX5_goal_48 rfl ?_
      refine wm_iload_n (q := 50) (i := 2) hg dX5_goal_49 rfl rfl rfl ?_
      refine wm_rstore (q := 51) (21 + v.toNatClampNeg) hg dX5_goal_50 rfl rfl (nadd (a := 21) (b := v.toNatClampNeg) (rfl : (21 : Int32) = nI 21) e1) (by simp only [alen]; omega) ?_
      have hWe : RW ((oA R1 0 (upd (R1.2 0) (21 + v.toNatClampNeg) b)).2 0) (oA (N.1 1 0) 3 (upd ((N.1 1 0).2 3) v.toNatClampNeg b)) (N.1 0 0) := by rw [oA_w]; exact RW_goal hW1 e2 hval
      refine wm_aload_n (q := 52) (i := 0) hg dX5_goal_51 rfl rfl rfl ?_
      refine wm_callR1 (q := 55) hg dX5_goal_52 rfl lk_X5_99 (by first | decide | omega) (c_X5_settle (X := oA (N.1 1 0) 3 (upd ((N.1 1 0).2 3) v.toNatClampNeg b)) (B := N.1 0 0) hWe.1) (by first | assumption | decide | omega | (simp only [nO]; omega)) ⟨rfl, by decide⟩ rfl rfl (Nat.le_of_ble_eq_true rfl) (fun R2 hR2 => ?_)
      refine wm_istore (q := 57) (i := 4) (L' := [(0, _), (1, _), (2, _), (3, _), (4, _)]) hg dX5_goal_55 rfl rfl rfl ?_
      refine wm_iload_n (q := 58) (i := 3) hg dX5_goal_57 rfl rfl rfl ?_
      exact wm_irret hg hr dX5_goal_58 (by unfold fGoal; rw [if_neg h1, if_pos hcond]; exact (hW1.1.2.1.2.1 _ e2).2.2) (by obtain ⟨w2, rfl, q1, q2, q3⟩ := hR2; unfold fGoal; rw [if_neg h1, if_pos hcond]; unfold chM; rw [endX_0 (energy_1 _ _ (by decide))]; exact RI_ch hR hH1 (hs1.tr ((Sm.A _ (by decide)).tr (Sm.A _ (by decide)))) (by rw [oA_w]; exact RW_st hWe q1 q2 q3))
    · refine wm_iload_n (q := 19) (i := 2) hg dX5_goal_18 rfl rfl rfl ?_
      refine wm_ldc (q := 21) (-1000000009) hg dX5_goal_19 rfl ld_X5_25 ?_
      refine wm_icmp_eq (q := 27) (q2 := 24) hg dX5_goal_21 (by decide) rfl (fun h3 => ?_) (fun h3 => ?_)
      · have hcond : b = -1000000009 ∨ ¬ isAng b = 0 := Or.inl h3
        have hval : b = -1000000009 ∨ ∃ n : Nat, n < 8 ∧ b = nI n := Or.inl h3
        refine wm_aload_n (q := 28) (i := 0) hg dX5_goal_27 rfl rfl rfl ?_
        refine wm_callR0 (q := 31) hg dX5_goal_28 rfl lk_X5_103 (by first | decide | omega) (c_X5_record (N := N) hR.1.1 hR.2.2.1 hR.2.1) (by first | assumption | decide | omega | (simp only [nO]; omega)) ⟨rfl, by decide⟩ rfl rfl (Nat.le_of_ble_eq_true rfl) (fun R1 ⟨hs1, hw1, hH1⟩ => ?_)
        have hW1 : RW (R1.2 0) (N.1 1 0) (N.1 0 0) := by rw [hw1]; exact hR.2.1
        refine wm_aload_n (q := 32) (i := 0) hg dX5_goal_31 rfl rfl rfl ?_
        refine wm_get (q := 35) hg dX5_goal_32 rfl fl_X5_7 (by first | assumption | decide | omega | (simp only [nO]; omega)) rfl ?_
        refine wm_bipush (q := 37) 21 hg dX5_goal_35 rfl (by decide) ?_
        refine wm_iload_n (q := 38) (i := 1) hg dX5_goal_37 rfl rfl rfl ?_
        refine wm_iadd (q := 39) hg dX5_goal_38 rfl ?_
        refine wm_rload (q := 40) (21 + v.toNatClampNeg) hg dX5_goal_39 rfl rfl (nadd (a := 21) (b := v.toNatClampNeg) (rfl : (21 : Int32) = nI 21) e1) (by simp only [alen]; omega) ?_
        refine wm_istore_n (q := 41) (i := 3) (L' := [(0, _), (1, _), (2, _), (3, _)]) hg dX5_goal_40 rfl rfl rfl rfl ?_
        refine wm_aload_n (q := 42) (i := 0) hg dX5_goal_41 rfl rfl rfl ?_
        refine wm_get (q := 45) hg dX5_goal_42 rfl fl_X5_7 (by first | assumption | decide | omega | (simp only [nO]; omega)) rfl ?_
        refine wm_bipush (q := 47) 21 hg dX5_goal_45 rfl (by decide) ?_
        refine wm_iload_n (q := 48) (i := 1) hg dX5_goal_47 rfl rfl rfl ?_
        refine wm_iadd (q := 49) hg dX5_goal_48 rfl ?_
        refine wm_iload_n (q := 50) (i := 2) hg dX5_goal_49 rfl rfl rfl ?_
        refine wm_rstore (q := 51) (21 + v.toNatClampNeg) hg dX5_goal_50 rfl rfl (nadd (a := 21) (b := v.toNatClampNeg) (rfl : (21 : Int32) = nI 21) e1) (by simp only [alen]; omega) ?_
        have hWe : RW ((oA R1 0 (upd (R1.2 0) (21 + v.toNatClampNeg) b)).2 0) (oA (N.1 1 0) 3 (upd ((N.1 1 0).2 3) v.toNatClampNeg b)) (N.1 0 0) := by rw [oA_w]; exact RW_goal hW1 e2 hval
        refine wm_aload_n (q := 52) (i := 0) hg dX5_goal_51 rfl rfl rfl ?_
        refine wm_callR1 (q := 55) hg dX5_goal_52 rfl lk_X5_99 (by first | decide | omega) (c_X5_settle (X := oA (N.1 1 0) 3 (upd ((N.1 1 0).2 3) v.toNatClampNeg b)) (B := N.1 0 0) hWe.1) (by first | assumption | decide | omega | (simp only [nO]; omega)) ⟨rfl, by decide⟩ rfl rfl (Nat.le_of_ble_eq_true rfl) (fun R2 hR2 => ?_)
        refine wm_istore (q := 57) (i := 4) (L' := [(0, _), (1, _), (2, _), (3, _), (4, _)]) hg dX5_goal_55 rfl rfl rfl ?_
        refine wm_iload_n (q := 58) (i := 3) hg dX5_goal_57 rfl rfl rfl ?_
        exact wm_irret hg hr dX5_goal_58 (by unfold fGoal; rw [if_neg h1, if_pos hcond]; exact (hW1.1.2.1.2.1 _ e2).2.2) (by obtain ⟨w2, rfl, q1, q2, q3⟩ := hR2; unfold fGoal; rw [if_neg h1, if_pos hcond]; unfold chM; rw [endX_0 (energy_1 _ _ (by decide))]; exact RI_ch hR hH1 (hs1.tr ((Sm.A _ (by decide)).tr (Sm.A _ (by decide)))) (by rw [oA_w]; exact RW_st hWe q1 q2 q3))
      · refine wm_ldc (q := 26) (-1000000001) hg dX5_goal_24 rfl ld_X5_102 ?_
        exact wm_irret hg hr dX5_goal_26 (by unfold fGoal; rw [if_neg h1, if_neg (fun z => z.elim h3 (fun y => y h2))]) (by unfold fGoal; rw [if_neg h1, if_neg (fun z => z.elim h3 (fun y => y h2))]; exact hR)
set_option maxRecDepth 100000 in
set_option maxHeartbeats 4000000 in
theorem c_X5_push {Γ : GT} {M N : Mem} {R : OV} {v b : Int32} (hR : RI N R) : CtR Γ yX5_push cX5_push 4 (some .int) 7 [.ref (ad Γ 5 0 0), .int v, .int b] M R (some (.int (fPush N v b).1)) (fun R' => RI (fPush N v b).2 R') := by
  refine ctr_of (by decide) (Nat.le_of_ble_eq_true rfl) (fun K hg hr => ?_)
  show WM Γ K _ [(0, _), (1, _), (2, _)] 0 []
  have hz : ok10 (N.1 1 0) := hR.1.2.1 0 (by decide)
  have hz1 := hz.1
  have hz2 := hz.2
  have hX0 : R.2 0 0 = (N.1 1 0).1 0 := hR.2.1.1.2.1.1
  refine wm_aload_n (q := 1) (i := 0) hg dX5_push_0 rfl rfl rfl ?_
  refine wm_iload_n (q := 2) (i := 1) hg dX5_push_1 rfl rfl rfl ?_
  refine wm_iload_n (q := 3) (i := 2) hg dX5_push_2 rfl rfl rfl ?_
  refine wm_callV1 (q := 6) hg dX5_push_3 rfl lk_X5_119 (by first | decide | omega) c_X5_isPush (by first | assumption | decide | omega | (simp only [nO]; omega)) ⟨rfl, by decide⟩ rfl rfl (Nat.le_of_ble_eq_true rfl) ?_
  refine wm_if_ne (q := 12) (q2 := 9) hg dX5_push_6 (by decide) rfl (fun h1 => ?_) (fun h1 => ?_)
  · unfold isPM at h1; rw [hX0] at h1
    have h1a : ¬ wthn v 0 ((N.1 1 0).1 0 - 1) = 0 := fun z => h1 (if_pos z)
    rw [if_neg h1a] at h1
    have h1b : ¬ wthn b (-4) 4 = 0 := fun z => h1 (if_pos z)
    rw [if_neg h1b] at h1
    have h1c : ¬ b = 0 := fun z => h1 (if_pos z)
    have h1d : ¬ isPsh b = 0 := by unfold isPsh; rw [if_neg h1c, if_neg h1b]; decide
    have hb8 : -8 ≤ b.toInt ∧ b.toInt ≤ 8 := by rw [wthn_iff] at h1b; simp only [Int32.lt_iff_toInt_lt, show (-4 : Int32).toInt = -4 from by decide, show (4 : Int32).toInt = 4 from by decide] at h1b; omega
    obtain ⟨e1, e2, e3⟩ := wthn_sz hz h1a
    refine wm_aload_n (q := 13) (i := 0) hg dX5_push_12 rfl rfl rfl ?_
    refine wm_get (q := 16) hg dX5_push_13 rfl fl_X5_7 (by first | assumption | decide | omega | (simp only [nO]; omega)) rfl ?_
    refine wm_bipush (q := 18) 11 hg dX5_push_16 rfl (by decide) ?_
    refine wm_iload_n (q := 19) (i := 1) hg dX5_push_18 rfl rfl rfl ?_
    refine wm_iadd (q := 20) hg dX5_push_19 rfl ?_
    refine wm_rload (q := 21) (11 + v.toNatClampNeg) hg dX5_push_20 rfl rfl (nadd (a := 11) (b := v.toNatClampNeg) (rfl : (11 : Int32) = nI 11) e1) (by simp only [alen]; omega) ?_
    refine wm_iconst (q := 22) 1 hg dX5_push_21 rfl (by decide) ?_
    refine wm_icmp_ne (q := 28) (q2 := 25) hg dX5_push_22 (by decide) rfl (fun h2 => ?_) (fun h2 => ?_)
    · rw [show R.2 0 (11 + v.toNatClampNeg) = (N.1 1 0).2 2 v.toNatClampNeg from (hR.2.1.1.2.1.2.1 _ e2).2.1] at h2
      refine wm_aload_n (q := 29) (i := 0) hg dX5_push_28 rfl rfl rfl ?_
      refine wm_callR0 (q := 32) hg dX5_push_29 rfl lk_X5_103 (by first | decide | omega) (c_X5_record (N := N) hR.1.1 hR.2.2.1 hR.2.1) (by first | assumption | decide | omega | (simp only [nO]; omega)) ⟨rfl, by decide⟩ rfl rfl (Nat.le_of_ble_eq_true rfl) (fun R1 ⟨hs1, hw1, hH1⟩ => ?_)
      have hW1 : RW (R1.2 0) (N.1 1 0) (N.1 0 0) := by rw [hw1]; exact hR.2.1
      refine wm_aload_n (q := 33) (i := 0) hg dX5_push_32 rfl rfl rfl ?_
      refine wm_callV1 (q := 36) hg dX5_push_33 rfl lk_X5_95 (by first | decide | omega) (c_X5_energy (X := N.1 1 0) hz hW1.1.2.1) (by first | assumption | decide | omega | (simp only [nO]; omega)) ⟨rfl, by decide⟩ rfl rfl (Nat.le_of_ble_eq_true rfl) ?_
      refine wm_istore_n (q := 37) (i := 3) (L' := [(0, _), (1, _), (2, _), (3, _)]) hg dX5_push_36 rfl rfl rfl rfl ?_
      refine wm_aload_n (q := 38) (i := 0) hg dX5_push_37 rfl rfl rfl ?_
      refine wm_get (q := 41) hg dX5_push_38 rfl fl_X5_7 (by first | assumption | decide | omega | (simp only [nO]; omega)) rfl ?_
      refine wm_iconst (q := 42) 1 hg dX5_push_41 rfl (by decide) ?_
      refine wm_iload_n (q := 43) (i := 1) hg dX5_push_42 rfl rfl rfl ?_
      refine wm_iadd (q := 44) hg dX5_push_43 rfl ?_
      refine wm_aload_n (q := 45) (i := 0) hg dX5_push_44 rfl rfl rfl ?_
      refine wm_iload_n (q := 46) (i := 1) hg dX5_push_45 rfl rfl rfl ?_
      refine wm_callV1 (q := 49) hg dX5_push_46 rfl lk_X5_68 (by first | decide | omega) (c_X5_angle e1 (by omega)) (by first | assumption | decide | omega | (simp only [nO]; omega)) ⟨rfl, by decide⟩ rfl rfl (Nat.le_of_ble_eq_true rfl) ?_
      refine wm_iload_n (q := 50) (i := 2) hg dX5_push_49 rfl rfl rfl ?_
      refine wm_callS1 (q := 53) hg dX5_push_50 rfl lk_X5_85 (by first | decide | omega) c_X5_turned rfl rfl (Nat.le_of_ble_eq_true rfl) ?_
      refine wm_rstore (q := 54) (1 + v.toNatClampNeg) hg dX5_push_53 rfl rfl (nadd (a := 1) (b := v.toNatClampNeg) (rfl : (1 : Int32) = nI 1) e1) (by simp only [alen]; omega) ?_
      refine wm_R (R' := oA R1 0 (upd (R1.2 0) (1 + v.toNatClampNeg) (((N.1 1 0).2 1 v.toNatClampNeg + b) &&& 7))) (by obtain ⟨⟨a, ha, ea⟩, -, -⟩ := hW1.1.1.2.2 _ e2; rw [(hW1.1.2.1.2.1 _ e2).1, ea, turned_and ha hb8]) ?_
      have hW2 := RW_turn hW1 e2 (d := b) rfl
      refine wm_aload_n (q := 55) (i := 0) hg dX5_push_54 rfl rfl rfl ?_
      refine wm_get (q := 58) hg dX5_push_55 rfl fl_X5_7 (by first | assumption | decide | omega | (simp only [nO]; omega)) rfl ?_
      refine wm_bipush (q := 60) 38 hg dX5_push_58 rfl (by decide) ?_
      refine wm_dup2 (q := 61) hg dX5_push_60 rfl rfl rfl ?_
      refine wm_rload (q := 62) 38 hg dX5_push_61 rfl rfl (rfl : (38 : Int32) = nI 38) (by simp only [alen]; omega) ?_
      refine wm_iconst (q := 63) 1 hg dX5_push_62 rfl (by decide) ?_
      refine wm_iadd (q := 64) hg dX5_push_63 rfl ?_
      refine wm_rstore (q := 65) 38 hg dX5_push_64 rfl rfl (rfl : (38 : Int32) = nI 38) (by simp only [alen]; omega) ?_
      refine wm_R (R' := oA R1 0 (upd (upd (R1.2 0) (1 + v.toNatClampNeg) (((N.1 1 0).2 1 v.toNatClampNeg + b) &&& 7)) 38 (upd (R1.2 0) (1 + v.toNatClampNeg) (((N.1 1 0).2 1 v.toNatClampNeg + b) &&& 7) 38 + 1))) (oA_st rfl) ?_
      have hWe : RW ((oA R1 0 (upd (upd (R1.2 0) (1 + v.toNatClampNeg) (((N.1 1 0).2 1 v.toNatClampNeg + b) &&& 7)) 38 (upd (R1.2 0) (1 + v.toNatClampNeg) (((N.1 1 0).2 1 v.toNatClampNeg + b) &&& 7) 38 + 1))).2 0) (turnX (N.1 1 0) v.toNatClampNeg b) (oI (N.1 0 0) 3 ((N.1 0 0).1 3 + 1)) := by rw [oA_w]; exact RW_push hW2
      refine wm_aload_n (q := 66) (i := 0) hg dX5_push_65 rfl rfl rfl ?_
      refine wm_iload_n (q := 67) (i := 3) hg dX5_push_66 rfl rfl rfl ?_
      refine wm_callR1 (q := 70) hg dX5_push_67 rfl lk_X5_107 (by first | decide | omega) (c_X5_end (X := turnX (N.1 1 0) v.toNatClampNeg b) (B := oI (N.1 0 0) 3 ((N.1 0 0).1 3 + 1)) (e := energy (N.1 1 0)) hWe) (by first | assumption | decide | omega | (simp only [nO]; omega)) ⟨rfl, by decide⟩ rfl rfl (Nat.le_of_ble_eq_true rfl) (fun R2 hR2 => ?_)
      exact wm_irret hg hr dX5_push_70 (by unfold fPush; rw [if_neg h1a, if_neg h1d, if_neg h2]; exact rfl) (by obtain ⟨w2, rfl, q⟩ := hR2; unfold fPush; rw [if_neg h1a, if_neg h1d, if_neg h2]; exact RI_ch hR hH1 (hs1.tr ((Sm.A _ (by decide)).tr (Sm.A _ (by decide)))) (by rw [oA_w]; exact q))
    · rw [show R.2 0 (11 + v.toNatClampNeg) = (N.1 1 0).2 2 v.toNatClampNeg from (hR.2.1.1.2.1.2.1 _ e2).2.1] at h2
      refine wm_ldc (q := 27) (-1000000002) hg dX5_push_25 rfl ld_X5_59 ?_
      exact wm_irret hg hr dX5_push_27 (by unfold fPush; rw [if_neg h1a, if_neg h1d, if_pos h2]) (by unfold fPush; rw [if_neg h1a, if_neg h1d, if_pos h2]; exact hR)
  · unfold isPM at h1; rw [hX0] at h1
    have hF : fPush N v b = (-1000000001, N) := by
      unfold fPush
      by_cases ha : wthn v 0 ((N.1 1 0).1 0 - 1) = 0
      · rw [if_pos ha]
      · rw [if_neg ha] at h1 ⊢
        have hp : isPsh b = 0 := by
          unfold isPsh
          by_cases hb0 : b = 0
          · rw [if_pos hb0]
          · rw [if_neg hb0] at h1 ⊢; by_cases hb4 : wthn b (-4) 4 = 0
            · rw [if_pos hb4]
            · rw [if_neg hb4] at h1; exact absurd h1 (by decide)
        rw [if_pos hp]
    refine wm_ldc (q := 11) (-1000000001) hg dX5_push_9 rfl ld_X5_102 ?_
    exact wm_irret hg hr dX5_push_11 (by rw [hF]) (by rw [hF]; exact hR)
set_option maxRecDepth 100000 in
set_option maxHeartbeats 4000000 in
theorem c_X5_set {Γ : GT} {M N : Mem} {R : OV} {v b : Int32} (hR : RI N R) : CtR Γ yX5_set cX5_set 4 (some .int) 7 [.ref (ad Γ 5 0 0), .int v, .int b] M R (some (.int (fSet N v b).1)) (fun R' => RI (fSet N v b).2 R') := by
  refine ctr_of (by decide) (Nat.le_of_ble_eq_true rfl) (fun K hg hr => ?_)
  show WM Γ K _ [(0, _), (1, _), (2, _)] 0 []
  have hz : ok10 (N.1 1 0) := hR.1.2.1 0 (by decide)
  have hz1 := hz.1
  have hz2 := hz.2
  have hX0 : R.2 0 0 = (N.1 1 0).1 0 := hR.2.1.1.2.1.1
  refine wm_iload_n (q := 1) (i := 1) hg dX5_set_0 rfl rfl rfl ?_
  refine wm_iconst (q := 2) 0 hg dX5_set_1 rfl (by decide) ?_
  refine wm_iconst (q := 3) 3 hg dX5_set_2 rfl (by decide) ?_
  refine wm_callS1 (q := 6) hg dX5_set_3 rfl lk_X5_52 (by first | decide | omega) c_X5_isIn rfl rfl (Nat.le_of_ble_eq_true rfl) ?_
  refine wm_if_eq (q := 49) (q2 := 9) hg dX5_set_6 (by decide) rfl (fun h1 => ?_) (fun h1 => ?_)
  · have hs : isSet v b = 0 := by unfold isSet; rw [if_neg (wthn_out h1 (by decide)), if_neg (wthn_out h1 (by decide)), if_neg (wthn_out h1 (by decide)), if_neg (wthn_out h1 (by decide))]
    refine wm_ldc (q := 51) (-1000000001) hg dX5_set_49 rfl ld_X5_102 ?_
    exact wm_irret hg hr dX5_set_51 (by unfold fSet; rw [if_pos hs]) (by unfold fSet; rw [if_pos hs]; exact hR)
  · obtain ⟨c, -, hc, rfl⟩ := wthn_n (lo := 0) (hi := 3) h1 (by decide) (by decide)
    rcases (show c = 0 ∨ c = 1 ∨ c = 2 ∨ c = 3 by omega) with rfl | rfl | rfl | rfl
    · refine wm_iload_n (q := 10) (i := 2) hg dX5_set_9 rfl rfl rfl ?_
      refine wm_iconst (q := 11) 0 hg dX5_set_10 rfl (by decide) ?_
      refine wm_iload_n (q := 12) (i := 1) hg dX5_set_11 rfl rfl rfl ?_
      refine wm_if_ne (q := 20) (q2 := 15) hg dX5_set_12 (by decide) rfl (fun g1 => ?_) (fun g1 => ?_)
      · exact absurd rfl g1
      · refine wm_bipush (q := 17) 20 hg dX5_set_15 rfl (by decide) ?_
        refine wm_goto (q := 43) hg dX5_set_17 (by decide) ?_
        refine wm_callS1 (q := 46) hg dX5_set_43 rfl lk_X5_52 (by first | decide | omega) c_X5_isIn rfl rfl (Nat.le_of_ble_eq_true rfl) ?_
        refine wm_if_ne (q := 52) (q2 := 49) hg dX5_set_46 (by decide) rfl (fun h4 => ?_) (fun h4 => ?_)
        · have hS : isSet (nI 0) b = wthn b 0 20 := rfl
          rw [← hS] at h4
          refine wm_aload_n (q := 53) (i := 0) hg dX5_set_52 rfl rfl rfl ?_
          refine wm_callR0 (q := 56) hg dX5_set_53 rfl lk_X5_103 (by first | decide | omega) (c_X5_record (N := N) hR.1.1 hR.2.2.1 hR.2.1) (by first | assumption | decide | omega | (simp only [nO]; omega)) ⟨rfl, by decide⟩ rfl rfl (Nat.le_of_ble_eq_true rfl) (fun R1 ⟨hs1, hw1, hH1⟩ => ?_)
          have hW1 : RW (R1.2 0) (N.1 1 0) (N.1 0 0) := by rw [hw1]; exact hR.2.1
          refine wm_aload_n (q := 57) (i := 0) hg dX5_set_56 rfl rfl rfl ?_
          refine wm_callV1 (q := 60) hg dX5_set_57 rfl lk_X5_95 (by first | decide | omega) (c_X5_energy (X := N.1 1 0) hz hW1.1.2.1) (by first | assumption | decide | omega | (simp only [nO]; omega)) ⟨rfl, by decide⟩ rfl rfl (Nat.le_of_ble_eq_true rfl) ?_
          refine wm_istore_n (q := 61) (i := 3) (L' := [(0, _), (1, _), (2, _), (3, _)]) hg dX5_set_60 rfl rfl rfl rfl ?_
          refine wm_aload_n (q := 62) (i := 0) hg dX5_set_61 rfl rfl rfl ?_
          refine wm_get (q := 65) hg dX5_set_62 rfl fl_X5_7 (by first | assumption | decide | omega | (simp only [nO]; omega)) rfl ?_
          refine wm_bipush (q := 67) 31 hg dX5_set_65 rfl (by decide) ?_
          refine wm_iload_n (q := 68) (i := 1) hg dX5_set_67 rfl rfl rfl ?_
          refine wm_iadd (q := 69) hg dX5_set_68 rfl ?_
          refine wm_iload_n (q := 70) (i := 2) hg dX5_set_69 rfl rfl rfl ?_
          refine wm_rstore (q := 71) (31 + 0) hg dX5_set_70 rfl rfl (nadd (a := 31) (b := 0) (rfl : (31 : Int32) = nI 31) rfl) (by simp only [alen]; omega) ?_
          have hWe : RW ((oA R1 0 (upd (R1.2 0) (31 + 0) b)).2 0) (setX (N.1 1 0) (nI 0) b) (N.1 0 0) := by rw [oA_w]; exact RW_field hW1 (c := 0) (by decide) b
          refine wm_aload_n (q := 72) (i := 0) hg dX5_set_71 rfl rfl rfl ?_
          refine wm_iload_n (q := 73) (i := 3) hg dX5_set_72 rfl rfl rfl ?_
          refine wm_callR1 (q := 76) hg dX5_set_73 rfl lk_X5_107 (by first | decide | omega) (c_X5_end (X := setX (N.1 1 0) (nI 0) b) (B := N.1 0 0) (e := energy (N.1 1 0)) hWe) (by first | assumption | decide | omega | (simp only [nO]; omega)) ⟨rfl, by decide⟩ rfl rfl (Nat.le_of_ble_eq_true rfl) (fun R2 hR2 => ?_)
          exact wm_irret hg hr dX5_set_76 (by unfold fSet; rw [if_neg h4]; exact rfl) (by obtain ⟨w2, rfl, q⟩ := hR2; unfold fSet; rw [if_neg h4]; exact RI_ch hR hH1 (hs1.tr ((Sm.A _ (by decide)).tr (Sm.A _ (by decide)))) (by rw [oA_w]; exact q))
        · have hS : isSet (nI 0) b = wthn b 0 20 := rfl
          rw [← hS] at h4
          refine wm_ldc (q := 51) (-1000000001) hg dX5_set_49 rfl ld_X5_102 ?_
          exact wm_irret hg hr dX5_set_51 (by unfold fSet; rw [if_pos h4]) (by unfold fSet; rw [if_pos h4]; exact hR)
    · refine wm_iload_n (q := 10) (i := 2) hg dX5_set_9 rfl rfl rfl ?_
      refine wm_iconst (q := 11) 0 hg dX5_set_10 rfl (by decide) ?_
      refine wm_iload_n (q := 12) (i := 1) hg dX5_set_11 rfl rfl rfl ?_
      refine wm_if_ne (q := 20) (q2 := 15) hg dX5_set_12 (by decide) rfl (fun g1 => ?_) (fun g1 => ?_)
      · refine wm_iload_n (q := 21) (i := 1) hg dX5_set_20 rfl rfl rfl ?_
        refine wm_iconst (q := 22) 1 hg dX5_set_21 rfl (by decide) ?_
        refine wm_icmp_ne (q := 31) (q2 := 25) hg dX5_set_22 (by decide) rfl (fun g2 => ?_) (fun g2 => ?_)
        · exact absurd rfl g2
        · refine wm_sipush (q := 28) 2000 hg dX5_set_25 rfl (by decide) ?_
          refine wm_goto (q := 43) hg dX5_set_28 (by decide) ?_
          refine wm_callS1 (q := 46) hg dX5_set_43 rfl lk_X5_52 (by first | decide | omega) c_X5_isIn rfl rfl (Nat.le_of_ble_eq_true rfl) ?_
          refine wm_if_ne (q := 52) (q2 := 49) hg dX5_set_46 (by decide) rfl (fun h4 => ?_) (fun h4 => ?_)
          · have hS : isSet (nI 1) b = wthn b 0 2000 := rfl
            rw [← hS] at h4
            refine wm_aload_n (q := 53) (i := 0) hg dX5_set_52 rfl rfl rfl ?_
            refine wm_callR0 (q := 56) hg dX5_set_53 rfl lk_X5_103 (by first | decide | omega) (c_X5_record (N := N) hR.1.1 hR.2.2.1 hR.2.1) (by first | assumption | decide | omega | (simp only [nO]; omega)) ⟨rfl, by decide⟩ rfl rfl (Nat.le_of_ble_eq_true rfl) (fun R1 ⟨hs1, hw1, hH1⟩ => ?_)
            have hW1 : RW (R1.2 0) (N.1 1 0) (N.1 0 0) := by rw [hw1]; exact hR.2.1
            refine wm_aload_n (q := 57) (i := 0) hg dX5_set_56 rfl rfl rfl ?_
            refine wm_callV1 (q := 60) hg dX5_set_57 rfl lk_X5_95 (by first | decide | omega) (c_X5_energy (X := N.1 1 0) hz hW1.1.2.1) (by first | assumption | decide | omega | (simp only [nO]; omega)) ⟨rfl, by decide⟩ rfl rfl (Nat.le_of_ble_eq_true rfl) ?_
            refine wm_istore_n (q := 61) (i := 3) (L' := [(0, _), (1, _), (2, _), (3, _)]) hg dX5_set_60 rfl rfl rfl rfl ?_
            refine wm_aload_n (q := 62) (i := 0) hg dX5_set_61 rfl rfl rfl ?_
            refine wm_get (q := 65) hg dX5_set_62 rfl fl_X5_7 (by first | assumption | decide | omega | (simp only [nO]; omega)) rfl ?_
            refine wm_bipush (q := 67) 31 hg dX5_set_65 rfl (by decide) ?_
            refine wm_iload_n (q := 68) (i := 1) hg dX5_set_67 rfl rfl rfl ?_
            refine wm_iadd (q := 69) hg dX5_set_68 rfl ?_
            refine wm_iload_n (q := 70) (i := 2) hg dX5_set_69 rfl rfl rfl ?_
            refine wm_rstore (q := 71) (31 + 1) hg dX5_set_70 rfl rfl (nadd (a := 31) (b := 1) (rfl : (31 : Int32) = nI 31) rfl) (by simp only [alen]; omega) ?_
            have hWe : RW ((oA R1 0 (upd (R1.2 0) (31 + 1) b)).2 0) (setX (N.1 1 0) (nI 1) b) (N.1 0 0) := by rw [oA_w]; exact RW_field hW1 (c := 1) (by decide) b
            refine wm_aload_n (q := 72) (i := 0) hg dX5_set_71 rfl rfl rfl ?_
            refine wm_iload_n (q := 73) (i := 3) hg dX5_set_72 rfl rfl rfl ?_
            refine wm_callR1 (q := 76) hg dX5_set_73 rfl lk_X5_107 (by first | decide | omega) (c_X5_end (X := setX (N.1 1 0) (nI 1) b) (B := N.1 0 0) (e := energy (N.1 1 0)) hWe) (by first | assumption | decide | omega | (simp only [nO]; omega)) ⟨rfl, by decide⟩ rfl rfl (Nat.le_of_ble_eq_true rfl) (fun R2 hR2 => ?_)
            exact wm_irret hg hr dX5_set_76 (by unfold fSet; rw [if_neg h4]; exact rfl) (by obtain ⟨w2, rfl, q⟩ := hR2; unfold fSet; rw [if_neg h4]; exact RI_ch hR hH1 (hs1.tr ((Sm.A _ (by decide)).tr (Sm.A _ (by decide)))) (by rw [oA_w]; exact q))
          · have hS : isSet (nI 1) b = wthn b 0 2000 := rfl
            rw [← hS] at h4
            refine wm_ldc (q := 51) (-1000000001) hg dX5_set_49 rfl ld_X5_102 ?_
            exact wm_irret hg hr dX5_set_51 (by unfold fSet; rw [if_pos h4]) (by unfold fSet; rw [if_pos h4]; exact hR)
      · exact absurd g1 (by decide)
    · refine wm_iload_n (q := 10) (i := 2) hg dX5_set_9 rfl rfl rfl ?_
      refine wm_iconst (q := 11) 0 hg dX5_set_10 rfl (by decide) ?_
      refine wm_iload_n (q := 12) (i := 1) hg dX5_set_11 rfl rfl rfl ?_
      refine wm_if_ne (q := 20) (q2 := 15) hg dX5_set_12 (by decide) rfl (fun g1 => ?_) (fun g1 => ?_)
      · refine wm_iload_n (q := 21) (i := 1) hg dX5_set_20 rfl rfl rfl ?_
        refine wm_iconst (q := 22) 1 hg dX5_set_21 rfl (by decide) ?_
        refine wm_icmp_ne (q := 31) (q2 := 25) hg dX5_set_22 (by decide) rfl (fun g2 => ?_) (fun g2 => ?_)
        · refine wm_iload_n (q := 32) (i := 1) hg dX5_set_31 rfl rfl rfl ?_
          refine wm_iconst (q := 33) 2 hg dX5_set_32 rfl (by decide) ?_
          refine wm_icmp_ne (q := 41) (q2 := 36) hg dX5_set_33 (by decide) rfl (fun g3 => ?_) (fun g3 => ?_)
          · exact absurd rfl g3
          · refine wm_bipush (q := 38) 100 hg dX5_set_36 rfl (by decide) ?_
            refine wm_goto (q := 43) hg dX5_set_38 (by decide) ?_
            refine wm_callS1 (q := 46) hg dX5_set_43 rfl lk_X5_52 (by first | decide | omega) c_X5_isIn rfl rfl (Nat.le_of_ble_eq_true rfl) ?_
            refine wm_if_ne (q := 52) (q2 := 49) hg dX5_set_46 (by decide) rfl (fun h4 => ?_) (fun h4 => ?_)
            · have hS : isSet (nI 2) b = wthn b 0 100 := rfl
              rw [← hS] at h4
              refine wm_aload_n (q := 53) (i := 0) hg dX5_set_52 rfl rfl rfl ?_
              refine wm_callR0 (q := 56) hg dX5_set_53 rfl lk_X5_103 (by first | decide | omega) (c_X5_record (N := N) hR.1.1 hR.2.2.1 hR.2.1) (by first | assumption | decide | omega | (simp only [nO]; omega)) ⟨rfl, by decide⟩ rfl rfl (Nat.le_of_ble_eq_true rfl) (fun R1 ⟨hs1, hw1, hH1⟩ => ?_)
              have hW1 : RW (R1.2 0) (N.1 1 0) (N.1 0 0) := by rw [hw1]; exact hR.2.1
              refine wm_aload_n (q := 57) (i := 0) hg dX5_set_56 rfl rfl rfl ?_
              refine wm_callV1 (q := 60) hg dX5_set_57 rfl lk_X5_95 (by first | decide | omega) (c_X5_energy (X := N.1 1 0) hz hW1.1.2.1) (by first | assumption | decide | omega | (simp only [nO]; omega)) ⟨rfl, by decide⟩ rfl rfl (Nat.le_of_ble_eq_true rfl) ?_
              refine wm_istore_n (q := 61) (i := 3) (L' := [(0, _), (1, _), (2, _), (3, _)]) hg dX5_set_60 rfl rfl rfl rfl ?_
              refine wm_aload_n (q := 62) (i := 0) hg dX5_set_61 rfl rfl rfl ?_
              refine wm_get (q := 65) hg dX5_set_62 rfl fl_X5_7 (by first | assumption | decide | omega | (simp only [nO]; omega)) rfl ?_
              refine wm_bipush (q := 67) 31 hg dX5_set_65 rfl (by decide) ?_
              refine wm_iload_n (q := 68) (i := 1) hg dX5_set_67 rfl rfl rfl ?_
              refine wm_iadd (q := 69) hg dX5_set_68 rfl ?_
              refine wm_iload_n (q := 70) (i := 2) hg dX5_set_69 rfl rfl rfl ?_
              refine wm_rstore (q := 71) (31 + 2) hg dX5_set_70 rfl rfl (nadd (a := 31) (b := 2) (rfl : (31 : Int32) = nI 31) rfl) (by simp only [alen]; omega) ?_
              have hWe : RW ((oA R1 0 (upd (R1.2 0) (31 + 2) b)).2 0) (setX (N.1 1 0) (nI 2) b) (N.1 0 0) := by rw [oA_w]; exact RW_field hW1 (c := 2) (by decide) b
              refine wm_aload_n (q := 72) (i := 0) hg dX5_set_71 rfl rfl rfl ?_
              refine wm_iload_n (q := 73) (i := 3) hg dX5_set_72 rfl rfl rfl ?_
              refine wm_callR1 (q := 76) hg dX5_set_73 rfl lk_X5_107 (by first | decide | omega) (c_X5_end (X := setX (N.1 1 0) (nI 2) b) (B := N.1 0 0) (e := energy (N.1 1 0)) hWe) (by first | assumption | decide | omega | (simp only [nO]; omega)) ⟨rfl, by decide⟩ rfl rfl (Nat.le_of_ble_eq_true rfl) (fun R2 hR2 => ?_)
              exact wm_irret hg hr dX5_set_76 (by unfold fSet; rw [if_neg h4]; exact rfl) (by obtain ⟨w2, rfl, q⟩ := hR2; unfold fSet; rw [if_neg h4]; exact RI_ch hR hH1 (hs1.tr ((Sm.A _ (by decide)).tr (Sm.A _ (by decide)))) (by rw [oA_w]; exact q))
            · have hS : isSet (nI 2) b = wthn b 0 100 := rfl
              rw [← hS] at h4
              refine wm_ldc (q := 51) (-1000000001) hg dX5_set_49 rfl ld_X5_102 ?_
              exact wm_irret hg hr dX5_set_51 (by unfold fSet; rw [if_pos h4]) (by unfold fSet; rw [if_pos h4]; exact hR)
        · exact absurd g2 (by decide)
      · exact absurd g1 (by decide)
    · refine wm_iload_n (q := 10) (i := 2) hg dX5_set_9 rfl rfl rfl ?_
      refine wm_iconst (q := 11) 0 hg dX5_set_10 rfl (by decide) ?_
      refine wm_iload_n (q := 12) (i := 1) hg dX5_set_11 rfl rfl rfl ?_
      refine wm_if_ne (q := 20) (q2 := 15) hg dX5_set_12 (by decide) rfl (fun g1 => ?_) (fun g1 => ?_)
      · refine wm_iload_n (q := 21) (i := 1) hg dX5_set_20 rfl rfl rfl ?_
        refine wm_iconst (q := 22) 1 hg dX5_set_21 rfl (by decide) ?_
        refine wm_icmp_ne (q := 31) (q2 := 25) hg dX5_set_22 (by decide) rfl (fun g2 => ?_) (fun g2 => ?_)
        · refine wm_iload_n (q := 32) (i := 1) hg dX5_set_31 rfl rfl rfl ?_
          refine wm_iconst (q := 33) 2 hg dX5_set_32 rfl (by decide) ?_
          refine wm_icmp_ne (q := 41) (q2 := 36) hg dX5_set_33 (by decide) rfl (fun g3 => ?_) (fun g3 => ?_)
          · refine wm_bipush (q := 43) 7 hg dX5_set_41 rfl (by decide) ?_
            refine wm_callS1 (q := 46) hg dX5_set_43 rfl lk_X5_52 (by first | decide | omega) c_X5_isIn rfl rfl (Nat.le_of_ble_eq_true rfl) ?_
            refine wm_if_ne (q := 52) (q2 := 49) hg dX5_set_46 (by decide) rfl (fun h4 => ?_) (fun h4 => ?_)
            · have hS : isSet (nI 3) b = wthn b 0 7 := rfl
              rw [← hS] at h4
              refine wm_aload_n (q := 53) (i := 0) hg dX5_set_52 rfl rfl rfl ?_
              refine wm_callR0 (q := 56) hg dX5_set_53 rfl lk_X5_103 (by first | decide | omega) (c_X5_record (N := N) hR.1.1 hR.2.2.1 hR.2.1) (by first | assumption | decide | omega | (simp only [nO]; omega)) ⟨rfl, by decide⟩ rfl rfl (Nat.le_of_ble_eq_true rfl) (fun R1 ⟨hs1, hw1, hH1⟩ => ?_)
              have hW1 : RW (R1.2 0) (N.1 1 0) (N.1 0 0) := by rw [hw1]; exact hR.2.1
              refine wm_aload_n (q := 57) (i := 0) hg dX5_set_56 rfl rfl rfl ?_
              refine wm_callV1 (q := 60) hg dX5_set_57 rfl lk_X5_95 (by first | decide | omega) (c_X5_energy (X := N.1 1 0) hz hW1.1.2.1) (by first | assumption | decide | omega | (simp only [nO]; omega)) ⟨rfl, by decide⟩ rfl rfl (Nat.le_of_ble_eq_true rfl) ?_
              refine wm_istore_n (q := 61) (i := 3) (L' := [(0, _), (1, _), (2, _), (3, _)]) hg dX5_set_60 rfl rfl rfl rfl ?_
              refine wm_aload_n (q := 62) (i := 0) hg dX5_set_61 rfl rfl rfl ?_
              refine wm_get (q := 65) hg dX5_set_62 rfl fl_X5_7 (by first | assumption | decide | omega | (simp only [nO]; omega)) rfl ?_
              refine wm_bipush (q := 67) 31 hg dX5_set_65 rfl (by decide) ?_
              refine wm_iload_n (q := 68) (i := 1) hg dX5_set_67 rfl rfl rfl ?_
              refine wm_iadd (q := 69) hg dX5_set_68 rfl ?_
              refine wm_iload_n (q := 70) (i := 2) hg dX5_set_69 rfl rfl rfl ?_
              refine wm_rstore (q := 71) (31 + 3) hg dX5_set_70 rfl rfl (nadd (a := 31) (b := 3) (rfl : (31 : Int32) = nI 31) rfl) (by simp only [alen]; omega) ?_
              have hWe : RW ((oA R1 0 (upd (R1.2 0) (31 + 3) b)).2 0) (setX (N.1 1 0) (nI 3) b) (N.1 0 0) := by rw [oA_w]; exact RW_field hW1 (c := 3) (by decide) b
              refine wm_aload_n (q := 72) (i := 0) hg dX5_set_71 rfl rfl rfl ?_
              refine wm_iload_n (q := 73) (i := 3) hg dX5_set_72 rfl rfl rfl ?_
              refine wm_callR1 (q := 76) hg dX5_set_73 rfl lk_X5_107 (by first | decide | omega) (c_X5_end (X := setX (N.1 1 0) (nI 3) b) (B := N.1 0 0) (e := energy (N.1 1 0)) hWe) (by first | assumption | decide | omega | (simp only [nO]; omega)) ⟨rfl, by decide⟩ rfl rfl (Nat.le_of_ble_eq_true rfl) (fun R2 hR2 => ?_)
              exact wm_irret hg hr dX5_set_76 (by unfold fSet; rw [if_neg h4]; exact rfl) (by obtain ⟨w2, rfl, q⟩ := hR2; unfold fSet; rw [if_neg h4]; exact RI_ch hR hH1 (hs1.tr ((Sm.A _ (by decide)).tr (Sm.A _ (by decide)))) (by rw [oA_w]; exact q))
            · have hS : isSet (nI 3) b = wthn b 0 7 := rfl
              rw [← hS] at h4
              refine wm_ldc (q := 51) (-1000000001) hg dX5_set_49 rfl ld_X5_102 ?_
              exact wm_irret hg hr dX5_set_51 (by unfold fSet; rw [if_pos h4]) (by unfold fSet; rw [if_pos h4]; exact hR)
          · exact absurd g3 (by decide)
        · exact absurd g2 (by decide)
      · exact absurd g1 (by decide)
