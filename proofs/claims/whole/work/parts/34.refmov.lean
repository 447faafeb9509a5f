/-! ===== the reference: moved, to ===== -/
theorem stB_X : ∀ (f : Nat) (X B : OV), (stB f X B).1 = (stX f X).1 ∧ (stB f X B).2.1 = (stX f X).2
  | 0, _, _ => ⟨rfl, rfl⟩
  | f + 1, X, B => by
    unfold stB stX
    split
    · exact ⟨rfl, rfl⟩
    · obtain ⟨h1, h2⟩ := stB_X f (tn1 X) (en1 X B)
      exact ⟨congrArg (· + 1) h1, h2⟩
theorem stQ_R (X B : OV) : (stQ X B).1 = (stR X).1 ∧ (stQ X B).2.1 = (stR X).2 := by
  rw [stQ_eq, stR_eq]
  exact stB_X 200 X B
theorem m8_sub2 {x y b : Int32} (h : x.toBitVec.toNat % 2 ^ 3 = y.toBitVec.toNat % 2 ^ 3) : (b - x).toBitVec.toNat % 2 ^ 3 = (b - y).toBitVec.toNat % 2 ^ 3 := by
  simp only [Int32.toBitVec_sub, BitVec.toNat_sub]
  have h1 := x.toBitVec.isLt
  have h2 := y.toBitVec.isLt
  have h3 := b.toBitVec.isLt
  omega
theorem rem8_m8 (x : Int32) : (rem8 x).toBitVec.toNat % 2 ^ 3 = x.toBitVec.toNat % 2 ^ 3 := by
  unfold rem8
  simp only [Int32.toBitVec_sub, Int32.toBitVec_mul, BitVec.toNat_sub, BitVec.toNat_mul]
  have h1 := x.toBitVec.isLt
  have h8 : (8 : Int32).toBitVec.toNat = 8 := by decide
  rw [h8]
  generalize (x / 8).toBitVec.toNat = q
  omega
theorem cosI_4 (x : Int32) : cosI (x - 4) = -cosI x := by
  have h : (x - 4).toBitVec.toNat % 2 ^ 3 = (x.toBitVec.toNat % 2 ^ 3 + 4) % 8 := by
    simp only [Int32.toBitVec_sub, BitVec.toNat_sub]
    have h1 := x.toBitVec.isLt
    have h4 : (4 : Int32).toBitVec.toNat = 4 := by decide
    rw [h4]
    omega
  unfold cosI
  rw [h]
  have ht : x.toBitVec.toNat % 2 ^ 3 < 8 := Nat.mod_lt _ (by decide)
  generalize x.toBitVec.toNat % 2 ^ 3 = t at ht
  rcases (show t = 0 ∨ t = 1 ∨ t = 2 ∨ t = 3 ∨ t = 4 ∨ t = 5 ∨ t = 6 ∨ t = 7 by omega) with rfl | rfl | rfl | rfl | rfl | rfl | rfl | rfl <;> decide
def hW3 (h : Int32) : Int32 := if h < 0 then -h else h
def hW4 (h s : Int32) : Int32 := if h < 0 then rem8 (s + 4) else s
theorem hW_pof (h s a : Int32) : -(hW3 h) * cosI (a - hW4 h s) * 10 = -h * cosI (a - s) * 10 := by
  unfold hW3 hW4
  split
  · have e : cosI (a - rem8 (s + 4)) = -cosI (a - s) := by
      rw [cosI_congr (m8_sub2 (b := a) (rem8_m8 (s + 4))), ← cosI_4, Int32.sub_sub] 
    rw [e]
    simp only [Int32.neg_neg, Int32.mul_neg, Int32.neg_mul]
  · rfl
theorem RWs_h {w : Nat → Int32} {X B : OV} (h : RWs w X B) (v : Int32) : RWs (upd (upd w 33 (hW3 v)) 34 (hW4 v (X.1 7))) (oI X 6 v) B := by
  obtain ⟨p1, p2, p3⟩ := h
  have hz := p1.1.2
  have ez : szN (oI X 6 v) = szN X := by unfold szN; rw [oI_x _ _ (by decide)]
  have hr : rgX (oI X 6 v) := ⟨⟨by rw [ez, oI_x _ _ (by decide)]; exact p1.1.1, by rw [ez]; exact p1.1.2⟩, by rw [ez]; exact p1.2.1, fun k hk => p1.2.2 k (by rw [← ez]; exact hk)⟩
  refine ⟨hr, ⟨?_, fun k hk => ⟨?_, ?_, ?_⟩, ?_, ?_, fun a => ?_⟩, p3.1, ?_, ?_, ?_, ?_, ?_, fun j hj => ⟨?_, ?_, ?_⟩⟩
  · rw [upd_ne _ _ (by omega), upd_ne _ _ (by omega), oI_x _ _ (by decide)]; exact p2.1
  · rw [ez] at hk; rw [upd_ne _ _ (by omega), upd_ne _ _ (by omega)]; exact (p2.2.1 k hk).1
  · rw [ez] at hk; rw [upd_ne _ _ (by omega), upd_ne _ _ (by omega)]; exact (p2.2.1 k hk).2.1
  · rw [ez] at hk; rw [upd_ne _ _ (by omega), upd_ne _ _ (by omega)]; exact (p2.2.1 k hk).2.2
  · rw [upd_ne _ _ (by omega), upd_ne _ _ (by omega), oI_x _ _ (by decide)]; exact p2.2.2.1
  · rw [upd_ne _ _ (by omega), upd_ne _ _ (by omega), oI_x _ _ (by decide)]; exact p2.2.2.2.1
  · rw [upd_ne _ _ (show (33:Nat) ≠ 34 by decide), upd_same, upd_same, hW_pof]
    unfold pof
    rw [oI_w, oI_x _ _ (by decide)]
  · rw [upd_ne _ _ (by omega), upd_ne _ _ (by omega)]; exact p3.2.1
  · rw [upd_ne _ _ (by omega), upd_ne _ _ (by omega)]; exact p3.2.2.1
  · rw [upd_ne _ _ (by omega), upd_ne _ _ (by omega)]; exact p3.2.2.2.1
  · rw [upd_ne _ _ (by omega), upd_ne _ _ (by omega)]; exact p3.2.2.2.2.1
  · rw [upd_ne _ _ (by omega), upd_ne _ _ (by omega)]; exact p3.2.2.2.2.2.1
  · rw [upd_ne _ _ (by omega), upd_ne _ _ (by omega)]; exact (p3.2.2.2.2.2.2 j hj).1
  · rw [upd_ne _ _ (by omega), upd_ne _ _ (by omega)]; exact (p3.2.2.2.2.2.2 j hj).2.1
  · rw [upd_ne _ _ (by omega), upd_ne _ _ (by omega)]; exact (p3.2.2.2.2.2.2 j hj).2.2
set_option maxRecDepth 100000 in
set_option maxHeartbeats 4000000 in
theorem c_X5_moved {Γ : GT} {M N : Mem} {R : OV} {v b : Int32} (hR : RI N R) : CtR Γ yX5_moved cX5_moved 4 (some .int) 6 [.ref (ad Γ 5 0 0), .int v, .int b] M R (some (.int (fMov N v b).1)) (fun R' => RI (fMov N v b).2 R') := by
  refine ctr_of (by decide) (Nat.le_of_ble_eq_true rfl) (fun K hg hr => ?_)
  show WM Γ K _ [(0, _), (1, _), (2, _)] 0 []
  have hz : ok10 (N.1 1 0) := hR.1.2.1 0 (by decide)
  have hz1 := hz.1
  have hz2 := hz.2
  have hX0 : R.2 0 0 = (N.1 1 0).1 0 := hR.2.1.1.2.1.1
  refine wm_aload_n (q := 1) (i := 0) hg dX5_moved_0 rfl rfl rfl ?_
  refine wm_iload_n (q := 2) (i := 1) hg dX5_moved_1 rfl rfl rfl ?_
  refine wm_iload_n (q := 3) (i := 2) hg dX5_moved_2 rfl rfl rfl ?_
  refine wm_callV1 (q := 6) hg dX5_moved_3 rfl lk_X5_119 (by first | decide | omega) c_X5_isPush (by first | assumption | decide | omega | (simp only [nO]; omega)) ⟨rfl, by decide⟩ rfl rfl (Nat.le_of_ble_eq_true rfl) ?_
  refine wm_if_ne (q := 12) (q2 := 9) hg dX5_moved_6 (by decide) rfl (fun h1 => ?_) (fun h1 => ?_)
  · unfold isPM at h1; rw [hX0] at h1
    have h1a : ¬ wthn v 0 ((N.1 1 0).1 0 - 1) = 0 := fun z => h1 (if_pos z)
    rw [if_neg h1a] at h1
    have h1b : ¬ wthn b (-4) 4 = 0 := fun z => h1 (if_pos z)
    rw [if_neg h1b] at h1
    have h1c : ¬ b = 0 := fun z => h1 (if_pos z)
    have h1d : ¬ isPsh b = 0 := by unfold isPsh; rw [if_neg h1c, if_neg h1b]; decide
    have hb8 : -8 ≤ b.toInt ∧ b.toInt ≤ 8 := by rw [wthn_iff] at h1b; simp only [Int32.lt_iff_toInt_lt, show (-4 : Int32).toInt = -4 from by decide, show (4 : Int32).toInt = 4 from by decide] at h1b; omega
    obtain ⟨e1, e2, e3⟩ := wthn_sz hz h1a
    refine wm_aload_n (q := 13) (i := 0) hg dX5_moved_12 rfl rfl rfl ?_
    refine wm_get (q := 16) hg dX5_moved_13 rfl fl_X5_7 (by first | assumption | decide | omega | (simp only [nO]; omega)) rfl ?_
    refine wm_bipush (q := 18) 11 hg dX5_moved_16 rfl (by decide) ?_
    refine wm_iload_n (q := 19) (i := 1) hg dX5_moved_18 rfl rfl rfl ?_
    refine wm_iadd (q := 20) hg dX5_moved_19 rfl ?_
    refine wm_rload (q := 21) (11 + v.toNatClampNeg) hg dX5_moved_20 rfl rfl (nadd (a := 11) (b := v.toNatClampNeg) (rfl : (11 : Int32) = nI 11) e1) (by simp only [alen]; omega) ?_
    refine wm_iconst (q := 22) 1 hg dX5_moved_21 rfl (by decide) ?_
    refine wm_icmp_ne (q := 28) (q2 := 25) hg dX5_moved_22 (by decide) rfl (fun h2 => ?_) (fun h2 => ?_)
    · rw [show R.2 0 (11 + v.toNatClampNeg) = (N.1 1 0).2 2 v.toNatClampNeg from (hR.2.1.1.2.1.2.1 _ e2).2.1] at h2
      refine wm_aload_n (q := 29) (i := 0) hg dX5_moved_28 rfl rfl rfl ?_
      refine wm_callV0 (q := 32) hg dX5_moved_29 rfl lk_X5_138 (by first | decide | omega) c_X5_putAside (by first | assumption | decide | omega | (simp only [nO]; omega)) ⟨rfl, by decide⟩ rfl rfl (Nat.le_of_ble_eq_true rfl) ?_
      refine wm_aload_n (q := 33) (i := 0) hg dX5_moved_32 rfl rfl rfl ?_
      refine wm_get (q := 36) hg dX5_moved_33 rfl fl_X5_7 (by first | assumption | decide | omega | (simp only [nO]; omega)) rfl ?_
      refine wm_iconst (q := 37) 1 hg dX5_moved_36 rfl (by decide) ?_
      refine wm_iload_n (q := 38) (i := 1) hg dX5_moved_37 rfl rfl rfl ?_
      refine wm_iadd (q := 39) hg dX5_moved_38 rfl ?_
      refine wm_aload_n (q := 40) (i := 0) hg dX5_moved_39 rfl rfl rfl ?_
      refine wm_iload_n (q := 41) (i := 1) hg dX5_moved_40 rfl rfl rfl ?_
      refine wm_callV1 (q := 44) hg dX5_moved_41 rfl lk_X5_68 (by first | decide | omega) (c_X5_angle e1 (by omega)) (by first | assumption | decide | omega | (simp only [nO]; omega)) ⟨rfl, by decide⟩ rfl rfl (Nat.le_of_ble_eq_true rfl) ?_
      refine wm_iload_n (q := 45) (i := 2) hg dX5_moved_44 rfl rfl rfl ?_
      refine wm_callS1 (q := 48) hg dX5_moved_45 rfl lk_X5_85 (by first | decide | omega) c_X5_turned rfl rfl (Nat.le_of_ble_eq_true rfl) ?_
      refine wm_rstore (q := 49) (1 + v.toNatClampNeg) hg dX5_moved_48 rfl rfl (nadd (a := 1) (b := v.toNatClampNeg) (rfl : (1 : Int32) = nI 1) e1) (by simp only [alen]; omega) ?_
      refine wm_R (R' := oA (oA R 9 (cpyF (R.2 9) 0 (R.2 0) 130)) 0 (upd (R.2 0) (1 + v.toNatClampNeg) (((N.1 1 0).2 1 v.toNatClampNeg + b) &&& 7))) (by obtain ⟨⟨a, ha, ea⟩, -, -⟩ := hR.2.1.1.1.2.2 _ e2; show oA (oA R 9 (cpyF (R.2 9) 0 (R.2 0) 130)) 0 (upd (R.2 0) (1 + v.toNatClampNeg) (rem8 (R.2 0 (1 + v.toNatClampNeg) + b + 8))) = _; rw [(hR.2.1.1.2.1.2.1 _ e2).1, ea, turned_and ha hb8]) ?_
      have hWe : RW ((oA (oA R 9 (cpyF (R.2 9) 0 (R.2 0) 130)) 0 (upd (R.2 0) (1 + v.toNatClampNeg) (((N.1 1 0).2 1 v.toNatClampNeg + b) &&& 7))).2 0) (turnX (N.1 1 0) v.toNatClampNeg b) (N.1 0 0) := by rw [oA_w]; exact RW_turn hR.2.1 e2 (d := b) rfl
      refine wm_aload_n (q := 50) (i := 0) hg dX5_moved_49 rfl rfl rfl ?_
      refine wm_callR1 (q := 53) hg dX5_moved_50 rfl lk_X5_99 (by first | decide | omega) (c_X5_settle (X := turnX (N.1 1 0) v.toNatClampNeg b) (B := N.1 0 0) hWe.1) (by first | assumption | decide | omega | (simp only [nO]; omega)) ⟨rfl, by decide⟩ rfl rfl (Nat.le_of_ble_eq_true rfl) (fun R2 hR2 => ?_)
      have hcp : ∀ (f : Nat → Int32) (k : Nat), k < 130 → cpyF f 0 (R2.2 9) 130 k = R2.2 9 k := fun f k hk => by have e := cpyF_in f 0 (R2.2 9) hk; rw [Nat.zero_add] at e; exact e
      have hcq : ∀ k, k < 130 → R2.2 9 k = R.2 0 k := fun k hk => by obtain ⟨w2, rfl, -⟩ := hR2; have e := cpyF_in (R.2 9) 0 (R.2 0) hk; rw [Nat.zero_add] at e; exact e
      refine wm_istore_n (q := 54) (i := 3) (L' := [(0, _), (1, _), (2, _), (3, _)]) hg dX5_moved_53 rfl rfl rfl rfl ?_
      refine wm_aload_n (q := 55) (i := 0) hg dX5_moved_54 rfl rfl rfl ?_
      refine wm_callV0 (q := 58) hg dX5_moved_55 rfl lk_X5_141 (by first | decide | omega) c_X5_putBack (by first | assumption | decide | omega | (simp only [nO]; omega)) ⟨rfl, by decide⟩ rfl rfl (Nat.le_of_ble_eq_true rfl) ?_
      refine wm_iload_n (q := 59) (i := 3) hg dX5_moved_58 rfl rfl rfl ?_
      exact wm_irret hg hr dX5_moved_59 (by unfold fMov; rw [if_neg h1a, if_neg h1d, if_neg h2]; exact congrArg nI (stQ_R _ _).1) (by obtain ⟨w2, rfl, q1, q2, q3⟩ := hR2; unfold fMov; rw [if_neg h1a, if_neg h1d, if_neg h2]; exact RI_11 (RI_R hR ((((Sm.A _ (by decide)).tr (Sm.A _ (by decide))).tr (Sm.A _ (by decide))).tr (Sm.A _ (by decide))) rfl rfl (by rw [oA_w]; exact RW_congr hR.2.1 (fun k hk => (hcp _ k hk).trans (hcq k hk)))) (Nat.le_refl 11) (ok10_1 (stR_1 _) hz))
    · rw [show R.2 0 (11 + v.toNatClampNeg) = (N.1 1 0).2 2 v.toNatClampNeg from (hR.2.1.1.2.1.2.1 _ e2).2.1] at h2
      refine wm_ldc (q := 27) (-1000000002) hg dX5_moved_25 rfl ld_X5_59 ?_
      exact wm_irret hg hr dX5_moved_27 (by unfold fMov; rw [if_neg h1a, if_neg h1d, if_pos h2]) (by unfold fMov; rw [if_neg h1a, if_neg h1d, if_pos h2]; exact hR)
  · unfold isPM at h1; rw [hX0] at h1
    have hF : fMov N v b = (-1000000001, N) := by
      unfold fMov
      by_cases ha : wthn v 0 ((N.1 1 0).1 0 - 1) = 0
      · rw [if_pos ha]
      · rw [if_neg ha] at h1 ⊢
        have hp : isPsh b = 0 := by
          unfold isPsh
          by_cases hb0 : b = 0
          · rw [if_pos hb0]
          · rw [if_neg hb0] at h1 ⊢; by_cases hb4 : wthn b (-4) 4 = 0
            · rw [if_pos hb4]
            · rw [if_neg hb4] at h1; exact absurd h1 (by decide)
        rw [if_pos hp]
    refine wm_ldc (q := 11) (-1000000001) hg dX5_moved_9 rfl ld_X5_102 ?_
    exact wm_irret hg hr dX5_moved_11 (by rw [hF]) (by rw [hF]; exact hR)
