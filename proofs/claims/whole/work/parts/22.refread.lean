/-! ===== the reference: what reads ===== -/
set_option maxRecDepth 100000 in
set_option maxHeartbeats 4000000 in
theorem c_X5_isIn {Γ : GT} {M : Mem} {v lo hi : Int32} : Ct Γ yX5_isIn cX5_isIn 3 (some .boolean) 0 [.int v, .int lo, .int hi] M (some (.int (wthn v lo hi))) M := by
  refine ct_of (by decide) (Nat.le_of_ble_eq_true rfl) (fun K hg hr => ?_)
  show WM Γ K _ [(0, _), (1, _), (2, _)] 0 []
  refine wm_iload_n (q := 1) (i := 0) hg dX5_isIn_0 rfl rfl rfl ?_
  refine wm_iload_n (q := 2) (i := 1) hg dX5_isIn_1 rfl rfl rfl ?_
  refine wm_icmp_lt (q := 14) (q2 := 5) hg dX5_isIn_2 (by decide) rfl (fun h1 => ?_) (fun h1 => ?_)
  · refine wm_iconst (q := 15) 0 hg dX5_isIn_14 rfl (by decide) ?_
    exact wm_zret hg hr dX5_isIn_15 (by simp [wthn, h1]) (rfl) (by decide)
  · refine wm_iload_n (q := 6) (i := 0) hg dX5_isIn_5 rfl rfl rfl ?_
    refine wm_iload_n (q := 7) (i := 2) hg dX5_isIn_6 rfl rfl rfl ?_
    refine wm_icmp_gt (q := 14) (q2 := 10) hg dX5_isIn_7 (by decide) rfl (fun h2 => ?_) (fun h2 => ?_)
    · refine wm_iconst (q := 15) 0 hg dX5_isIn_14 rfl (by decide) ?_
      exact wm_zret hg hr dX5_isIn_15 (by simp [wthn, h1, h2]) (rfl) (by decide)
    · refine wm_iconst (q := 11) 1 hg dX5_isIn_10 rfl (by decide) ?_
      refine wm_goto (q := 15) hg dX5_isIn_11 (by decide) ?_
      exact wm_zret hg hr dX5_isIn_15 (by simp [wthn, h1, h2]) (rfl) (by decide)
theorem c_idx (k : Int32) : rem8 (rem8 k + 8) = nI (k.toBitVec.toNat % 2 ^ 3) := by
  have b1 := Int32.le_toInt k
  have b2 := Int32.toInt_lt k
  have h8 : (8 : Int32).toInt = 8 := by decide
  have hr := rem8_toInt k
  have hm1 : k.toInt.tmod 8 < 8 := Int.tmod_lt_of_pos _ (by decide)
  have hm2 := Int.lt_tmod_of_pos k.toInt (by decide : (0 : Int) < 8)
  have hd := Int.mul_tdiv_add_tmod k.toInt 8
  obtain ⟨n, hn, e⟩ : ∃ n : Nat, n < 16 ∧ rem8 k + 8 = nI n := by
    refine ⟨(k.toInt.tmod 8 + 8).toNat, by omega, ?_⟩
    apply Int32.toInt_inj.mp
    rw [nI_toInt (by omega), Int32.toInt_add, hr, h8, bm32 (by omega) (by omega)]
    omega
  rw [e, rem8_n (by omega)]
  refine congrArg nI ?_
  have h3 : (n : Int) = k.toInt.tmod 8 + 8 := by
    have h := congrArg Int32.toInt e
    rw [nI_toInt (by omega), Int32.toInt_add, hr, h8, bm32 (by omega) (by omega)] at h
    exact h.symm
  have h4 : k.toInt = if 2 * k.toBitVec.toNat < 2 ^ 32 then (k.toBitVec.toNat : Int) else (k.toBitVec.toNat : Int) - (2 ^ 32 : Nat) := BitVec.toInt_eq_toNat_cond k.toBitVec
  split at h4 <;> omega
set_option maxRecDepth 100000 in
set_option maxHeartbeats 4000000 in
theorem c_X5_c {Γ : GT} {M : Mem} {k : Int32} : Ct Γ yX5_c cX5_c 1 (some .int) 0 [.int k] M (some (.int (cosI k))) M := by
  refine ct_of (by decide) (Nat.le_of_ble_eq_true rfl) (fun K hg hr => ?_)
  show WM Γ K _ [(0, _)] 0 []
  refine wm_iload_n (q := 1) (i := 0) hg dX5_c_0 rfl rfl rfl ?_
  refine wm_bipush (q := 3) 8 hg dX5_c_1 rfl (by decide) ?_
  refine wm_irem (q := 4) hg dX5_c_3 rfl (by decide) ?_
  refine wm_bipush (q := 6) 8 hg dX5_c_4 rfl (by decide) ?_
  refine wm_iadd (q := 7) hg dX5_c_6 rfl ?_
  refine wm_bipush (q := 9) 8 hg dX5_c_7 rfl (by decide) ?_
  refine wm_irem (q := 10) hg dX5_c_9 rfl (by decide) ?_
  have e : (k - k / 8 * 8 + 8) - (k - k / 8 * 8 + 8) / 8 * 8 = nI (k.toBitVec.toNat % 2 ^ 3) := c_idx k
  rw [e]
  unfold cosI at hr
  have ht : k.toBitVec.toNat % 2 ^ 3 < 8 := Nat.mod_lt _ (by decide)
  generalize k.toBitVec.toNat % 2 ^ 3 = t at ht hr ⊢
  rcases (show t = 0 ∨ t = 1 ∨ t = 2 ∨ t = 3 ∨ t = 4 ∨ t = 5 ∨ t = 6 ∨ t = 7 by omega) with rfl | rfl | rfl | rfl | rfl | rfl | rfl | rfl
  · refine wm_tableIn (q := 52) hg dX5_c_10 (by decide) (by decide) rfl (by decide) ?_
    refine wm_bipush (q := 54) 10 hg dX5_c_52 rfl (by decide) ?_
    exact wm_iret hg hr dX5_c_54 (rfl) (rfl)
  · refine wm_tableIn (q := 55) hg dX5_c_10 (by decide) (by decide) rfl (by decide) ?_
    refine wm_bipush (q := 57) 7 hg dX5_c_55 rfl (by decide) ?_
    exact wm_iret hg hr dX5_c_57 (rfl) (rfl)
  · refine wm_tableIn (q := 58) hg dX5_c_10 (by decide) (by decide) rfl (by decide) ?_
    refine wm_iconst (q := 59) 0 hg dX5_c_58 rfl (by decide) ?_
    exact wm_iret hg hr dX5_c_59 (rfl) (rfl)
  · refine wm_tableIn (q := 60) hg dX5_c_10 (by decide) (by decide) rfl (by decide) ?_
    refine wm_bipush (q := 62) (-7) hg dX5_c_60 rfl (by decide) ?_
    exact wm_iret hg hr dX5_c_62 (rfl) (rfl)
  · refine wm_tableIn (q := 63) hg dX5_c_10 (by decide) (by decide) rfl (by decide) ?_
    refine wm_bipush (q := 65) (-10) hg dX5_c_63 rfl (by decide) ?_
    exact wm_iret hg hr dX5_c_65 (rfl) (rfl)
  · refine wm_tableIn (q := 66) hg dX5_c_10 (by decide) (by decide) rfl (by decide) ?_
    refine wm_bipush (q := 68) (-7) hg dX5_c_66 rfl (by decide) ?_
    exact wm_iret hg hr dX5_c_68 (rfl) (rfl)
  · refine wm_tableIn (q := 69) hg dX5_c_10 (by decide) (by decide) rfl (by decide) ?_
    refine wm_iconst (q := 70) 0 hg dX5_c_69 rfl (by decide) ?_
    exact wm_iret hg hr dX5_c_70 (rfl) (rfl)
  · refine wm_tableOut (q := 71) hg dX5_c_10 (by decide) (by decide) ?_
    refine wm_bipush (q := 73) 7 hg dX5_c_71 rfl (by decide) ?_
    exact wm_iret hg hr dX5_c_73 (rfl) (rfl)
set_option maxRecDepth 100000 in
set_option maxHeartbeats 4000000 in
theorem c_X5_pull {Γ : GT} {M : Mem} {a b : Int32} : Ct Γ yX5_pull cX5_pull 2 (some .int) 1 [.int a, .int b] M (some (.int (pull a b))) M := by
  refine ct_of (by decide) (Nat.le_of_ble_eq_true rfl) (fun K hg hr => ?_)
  show WM Γ K _ [(0, _), (1, _)] 0 []
  refine wm_bipush (q := 2) 10 hg dX5_pull_0 rfl (by decide) ?_
  refine wm_iload_n (q := 3) (i := 0) hg dX5_pull_2 rfl rfl rfl ?_
  refine wm_iload_n (q := 4) (i := 1) hg dX5_pull_3 rfl rfl rfl ?_
  refine wm_isub (q := 5) hg dX5_pull_4 rfl ?_
  refine wm_callS1 (q := 8) hg dX5_pull_5 rfl lk_X5_60 (by first | decide | omega) c_X5_c rfl rfl (Nat.le_of_ble_eq_true rfl) ?_
  refine wm_imul (q := 9) hg dX5_pull_8 rfl ?_
  refine wm_iconst (q := 10) 3 hg dX5_pull_9 rfl (by decide) ?_
  refine wm_iload_n (q := 11) (i := 0) hg dX5_pull_10 rfl rfl rfl ?_
  refine wm_callS1 (q := 14) hg dX5_pull_11 rfl lk_X5_60 (by first | decide | omega) c_X5_c rfl rfl (Nat.le_of_ble_eq_true rfl) ?_
  refine wm_imul (q := 15) hg dX5_pull_14 rfl ?_
  refine wm_iload_n (q := 16) (i := 1) hg dX5_pull_15 rfl rfl rfl ?_
  refine wm_callS1 (q := 19) hg dX5_pull_16 rfl lk_X5_60 (by first | decide | omega) c_X5_c rfl rfl (Nat.le_of_ble_eq_true rfl) ?_
  refine wm_imul (q := 20) hg dX5_pull_19 rfl ?_
  refine wm_isub (q := 21) hg dX5_pull_20 rfl ?_
  exact wm_iret hg hr dX5_pull_21 (rfl) (rfl)
set_option maxRecDepth 100000 in
set_option maxHeartbeats 4000000 in
theorem c_X5_turned {Γ : GT} {M : Mem} {a b : Int32} : Ct Γ yX5_turned cX5_turned 2 (some .int) 0 [.int a, .int b] M (some (.int (rem8 (a + b + 8)))) M := by
  refine ct_of (by decide) (Nat.le_of_ble_eq_true rfl) (fun K hg hr => ?_)
  show WM Γ K _ [(0, _), (1, _)] 0 []
  refine wm_iload_n (q := 1) (i := 0) hg dX5_turned_0 rfl rfl rfl ?_
  refine wm_iload_n (q := 2) (i := 1) hg dX5_turned_1 rfl rfl rfl ?_
  refine wm_iadd (q := 3) hg dX5_turned_2 rfl ?_
  refine wm_bipush (q := 5) 8 hg dX5_turned_3 rfl (by decide) ?_
  refine wm_iadd (q := 6) hg dX5_turned_5 rfl ?_
  refine wm_bipush (q := 8) 8 hg dX5_turned_6 rfl (by decide) ?_
  refine wm_irem (q := 9) hg dX5_turned_8 rfl (by decide) ?_
  exact wm_iret hg hr dX5_turned_9 (rfl) (rfl)
set_option maxRecDepth 100000 in
set_option maxHeartbeats 4000000 in
theorem c_X5_mirrored {Γ : GT} {M : Mem} {a : Int32} : Ct Γ yX5_mirrored cX5_mirrored 1 (some .int) 0 [.int a] M (some (.int (rem8 (12 - a)))) M := by
  refine ct_of (by decide) (Nat.le_of_ble_eq_true rfl) (fun K hg hr => ?_)
  show WM Γ K _ [(0, _)] 0 []
  refine wm_bipush (q := 2) 12 hg dX5_mirrored_0 rfl (by decide) ?_
  refine wm_iload_n (q := 3) (i := 0) hg dX5_mirrored_2 rfl rfl rfl ?_
  refine wm_isub (q := 4) hg dX5_mirrored_3 rfl ?_
  refine wm_bipush (q := 6) 8 hg dX5_mirrored_4 rfl (by decide) ?_
  refine wm_irem (q := 7) hg dX5_mirrored_6 rfl (by decide) ?_
  exact wm_iret hg hr dX5_mirrored_7 (rfl) (rfl)
set_option maxRecDepth 100000 in
set_option maxHeartbeats 4000000 in
theorem c_X5_isImage {Γ : GT} {M : Mem} {i : Int32} : Ct Γ yX5_isImage cX5_isImage 1 (some .boolean) 1 [.int i] M (some (.int (wthn i 0 1))) M := by
  refine ct_of (by decide) (Nat.le_of_ble_eq_true rfl) (fun K hg hr => ?_)
  show WM Γ K _ [(0, _)] 0 []
  refine wm_iload_n (q := 1) (i := 0) hg dX5_isImage_0 rfl rfl rfl ?_
  refine wm_iconst (q := 2) 0 hg dX5_isImage_1 rfl (by decide) ?_
  refine wm_iconst (q := 3) 1 hg dX5_isImage_2 rfl (by decide) ?_
  refine wm_callS1 (q := 6) hg dX5_isImage_3 rfl lk_X5_52 (by first | decide | omega) c_X5_isIn rfl rfl (Nat.le_of_ble_eq_true rfl) ?_
  exact wm_zret hg hr dX5_isImage_6 (rfl) (rfl) (wthn_01 _ _ _)
set_option maxRecDepth 100000 in
set_option maxHeartbeats 4000000 in
theorem c_X5_isMagnet {Γ : GT} {M : Mem} {R : OV} {i : Int32}  : Ct Γ yX5_isMagnet cX5_isMagnet 2 (some .boolean) 1 [.ref (ad Γ 5 0 0), .int i] (sR M R) (some (.int (wthn i 0 (R.2 0 0 - 1)))) (sR M R) := by
  refine ct_of (by decide) (Nat.le_of_ble_eq_true rfl) (fun K hg hr => ?_)
  show WM Γ K _ [(0, _), (1, _)] 0 []
  refine wm_iload_n (q := 1) (i := 1) hg dX5_isMagnet_0 rfl rfl rfl ?_
  refine wm_iconst (q := 2) 0 hg dX5_isMagnet_1 rfl (by decide) ?_
  refine wm_aload_n (q := 3) (i := 0) hg dX5_isMagnet_2 rfl rfl rfl ?_
  refine wm_get (q := 6) hg dX5_isMagnet_3 rfl fl_X5_7 (by first | assumption | decide | omega | (simp only [nO]; omega)) rfl ?_
  refine wm_iconst (q := 7) 0 hg dX5_isMagnet_6 rfl (by decide) ?_
  refine wm_rload (q := 8) 0 hg dX5_isMagnet_7 rfl rfl (rfl : (0 : Int32) = nI 0) (by simp only [alen]; omega) ?_
  refine wm_iconst (q := 9) 1 hg dX5_isMagnet_8 rfl (by decide) ?_
  refine wm_isub (q := 10) hg dX5_isMagnet_9 rfl ?_
  refine wm_callS1 (q := 13) hg dX5_isMagnet_10 rfl lk_X5_52 (by first | decide | omega) c_X5_isIn rfl rfl (Nat.le_of_ble_eq_true rfl) ?_
  exact wm_zret hg hr dX5_isMagnet_13 (rfl) (rfl) (wthn_01 _ _ _)
set_option maxRecDepth 100000 in
set_option maxHeartbeats 4000000 in
theorem c_X5_angle {Γ : GT} {M : Mem} {R : OV} {t : Nat} {x : Int32} (hx : x = nI t) (ht : t < 100) : Ct Γ yX5_angle cX5_angle 2 (some .int) 0 [.ref (ad Γ 5 0 0), .int x] (sR M R) (some (.int (R.2 0 (1 + t)))) (sR M R) := by
  refine ct_of (by decide) (Nat.le_of_ble_eq_true rfl) (fun K hg hr => ?_)
  show WM Γ K _ [(0, _), (1, _)] 0 []
  refine wm_aload_n (q := 1) (i := 0) hg dX5_angle_0 rfl rfl rfl ?_
  refine wm_get (q := 4) hg dX5_angle_1 rfl fl_X5_7 (by first | assumption | decide | omega | (simp only [nO]; omega)) rfl ?_
  refine wm_iconst (q := 5) 1 hg dX5_angle_4 rfl (by decide) ?_
  refine wm_iload_n (q := 6) (i := 1) hg dX5_angle_5 rfl rfl rfl ?_
  refine wm_iadd (q := 7) hg dX5_angle_6 rfl ?_
  refine wm_rload (q := 8) (1 + t) hg dX5_angle_7 rfl rfl (nadd (a := 1) (b := t) (rfl : (1 : Int32) = nI 1) hx) (by simp only [alen]; omega) ?_
  exact wm_iret hg hr dX5_angle_8 (rfl) (rfl)
set_option maxRecDepth 100000 in
set_option maxHeartbeats 4000000 in
theorem c_X5_field {Γ : GT} {M : Mem} {R : OV} {X : OV} {a : Int32} (hX : rwC (R.2 0) X) : Ct Γ yX5_field cX5_field 2 (some .int) 1 [.ref (ad Γ 5 0 0), .int a] (sR M R) (some (.int (pof X a))) (sR M R) := by
  refine ct_of (by decide) (Nat.le_of_ble_eq_true rfl) (fun K hg hr => ?_)
  show WM Γ K _ [(0, _), (1, _)] 0 []
  refine wm_aload_n (q := 1) (i := 0) hg dX5_field_0 rfl rfl rfl ?_
  refine wm_get (q := 4) hg dX5_field_1 rfl fl_X5_7 (by first | assumption | decide | omega | (simp only [nO]; omega)) rfl ?_
  refine wm_bipush (q := 6) 33 hg dX5_field_4 rfl (by decide) ?_
  refine wm_rload (q := 7) 33 hg dX5_field_6 rfl rfl (rfl : (33 : Int32) = nI 33) (by simp only [alen]; omega) ?_
  refine wm_ineg (q := 8) hg dX5_field_7 rfl ?_
  refine wm_iload_n (q := 9) (i := 1) hg dX5_field_8 rfl rfl rfl ?_
  refine wm_aload_n (q := 10) (i := 0) hg dX5_field_9 rfl rfl rfl ?_
  refine wm_get (q := 13) hg dX5_field_10 rfl fl_X5_7 (by first | assumption | decide | omega | (simp only [nO]; omega)) rfl ?_
  refine wm_bipush (q := 15) 34 hg dX5_field_13 rfl (by decide) ?_
  refine wm_rload (q := 16) 34 hg dX5_field_15 rfl rfl (rfl : (34 : Int32) = nI 34) (by simp only [alen]; omega) ?_
  refine wm_isub (q := 17) hg dX5_field_16 rfl ?_
  refine wm_callS1 (q := 20) hg dX5_field_17 rfl lk_X5_60 (by first | decide | omega) c_X5_c rfl rfl (Nat.le_of_ble_eq_true rfl) ?_
  refine wm_imul (q := 21) hg dX5_field_20 rfl ?_
  refine wm_bipush (q := 23) 10 hg dX5_field_21 rfl (by decide) ?_
  refine wm_imul (q := 24) hg dX5_field_23 rfl ?_
  exact wm_iret hg hr dX5_field_24 (hX.2.2.2.2 _) (rfl)
theorem pOn_out {X : OV} {a p : Int32} (hX : ok10 X) (h : wthn p 0 (X.1 0 - 1) = 0) : pOn X a p = 0 := by
  unfold pOn
  rw [wthn_iff] at h
  split
  · rfl
  · next h1 =>
    split
    · rfl
    · next h2 =>
      exfalso
      obtain ⟨k, hk, rfl⟩ := nI_of h1
      have h10 := hX.2
      rw [hX.1] at h h2
      rcases h with h | h
      · exact h1 h
      · have hlt : k < szN X := by
          rcases Nat.lt_or_ge k (szN X) with q | q
          · exact q
          · exact absurd (nI_le q hk) h2
        have e : nI (szN X) - 1 = nI (szN X - 1) := nsub rfl rfl (by omega)
        rw [e] at h
        exact absurd h (nI_nlt (a := szN X - 1) (b := k) (by omega) (by omega))
theorem pOn_in {X : OV} {a : Int32} {p : Nat} (hX : ok10 X) (h : p < szN X) : pOn X a (nI p) = pull a (X.2 1 p) := by
  have h10 := hX.2
  unfold pOn
  rw [if_neg (nI_pos (by omega)), if_neg (by rw [hX.1]; exact nI_ge h (by omega)), nI_clamp (by omega)]
set_option maxRecDepth 100000 in
set_option maxHeartbeats 4000000 in
theorem c_X5_pair_near {Γ : GT} {M : Mem} {R X : OV} {t : Nat} {x a o : Int32} (hz : ok10 X) (hX : rwC (R.2 0) X) (hx : x = nI t) (ht : t < 10) (ho : ∀ p : Nat, p < 10 → o = nI p → p + 1 = t ∨ p = t + 1) : Ct Γ yX5_pair cX5_pair 5 (some .int) 2 [.ref (ad Γ 5 0 0), .int x, .int a, .int o] (sR M R) (some (.int (X.1 4 * pOn X a o))) (sR M R) := by
  refine ct_of (by decide) (Nat.le_of_ble_eq_true rfl) (fun K hg hr => ?_)
  show WM Γ K _ [(0, _), (1, _), (2, _), (3, _)] 0 []
  subst hx
  refine wm_aload_n (q := 1) (i := 0) hg dX5_pair_0 rfl rfl rfl ?_
  refine wm_iload_n (q := 2) (i := 3) hg dX5_pair_1 rfl rfl rfl ?_
  refine wm_callV1 (q := 5) hg dX5_pair_2 rfl lk_X5_64 (by first | decide | omega) c_X5_isMagnet (by first | assumption | decide | omega | (simp only [nO]; omega)) ⟨rfl, by decide⟩ rfl rfl (Nat.le_of_ble_eq_true rfl) ?_
  refine wm_if_ne (q := 10) (q2 := 8) hg dX5_pair_5 (by decide) rfl (fun h1 => ?_) (fun h1 => ?_)
  · rw [hX.1] at h1
    obtain ⟨e1, e2, e3⟩ := wthn_sz hz h1
    obtain ⟨p, hp⟩ : ∃ p, p = o.toNatClampNeg := ⟨_, rfl⟩
    rw [← hp] at e1 e2 e3
    have hp1 := e1
    subst hp1
    have hp1 : nI p = nI p := rfl
    have ea := (hX.2.1 p e2).1
    have hc := ho p e3 rfl
    rcases hc with hc | hc
    · refine wm_iload_n (q := 11) (i := 1) hg dX5_pair_10 rfl rfl rfl ?_
      refine wm_iload_n (q := 12) (i := 3) hg dX5_pair_11 rfl rfl rfl ?_
      refine wm_icmp_le (q := 21) (q2 := 15) hg dX5_pair_12 (by decide) rfl (fun h2 => ?_) (fun h2 => ?_)
      · exact absurd h2 (nI_ge (a := p) (b := t) (by omega) (by omega))
      · refine wm_iload_n (q := 16) (i := 1) hg dX5_pair_15 rfl rfl rfl ?_
        refine wm_iload_n (q := 17) (i := 3) hg dX5_pair_16 rfl rfl rfl ?_
        refine wm_isub (q := 18) hg dX5_pair_17 rfl ?_
        refine wm_goto (q := 24) hg dX5_pair_18 (by decide) ?_
        refine wm_istore (q := 26) (i := 4) (L' := [(0, _), (1, _), (2, _), (3, _), (4, _)]) hg dX5_pair_24 rfl rfl rfl ?_
        refine wm_iload (q := 28) (i := 4) hg dX5_pair_26 rfl rfl ?_
        refine wm_iconst (q := 29) 1 hg dX5_pair_28 rfl (by decide) ?_
        refine wm_icmp_ne (q := 42) (q2 := 32) hg dX5_pair_29 (by decide) rfl (fun h3 => ?_) (fun h3 => ?_)
        · exact absurd (by rw [show nI t - nI p = nI (t - p) from pk_sub (by omega), show t - p = 1 by omega]; rfl) h3
        · refine wm_aload_n (q := 33) (i := 0) hg dX5_pair_32 rfl rfl rfl ?_
          refine wm_get (q := 36) hg dX5_pair_33 rfl fl_X5_7 (by first | assumption | decide | omega | (simp only [nO]; omega)) rfl ?_
          refine wm_bipush (q := 38) 31 hg dX5_pair_36 rfl (by decide) ?_
          refine wm_rload (q := 39) 31 hg dX5_pair_38 rfl rfl (rfl : (31 : Int32) = nI 31) (by simp only [alen]; omega) ?_
          refine wm_goto (q := 52) hg dX5_pair_39 (by decide) ?_
          refine wm_iload_n (q := 53) (i := 2) hg dX5_pair_52 rfl rfl rfl ?_
          refine wm_aload_n (q := 54) (i := 0) hg dX5_pair_53 rfl rfl rfl ?_
          refine wm_iload_n (q := 55) (i := 3) hg dX5_pair_54 rfl rfl rfl ?_
          refine wm_callV1 (q := 58) hg dX5_pair_55 rfl lk_X5_68 (by first | decide | omega) (c_X5_angle (t := p) hp1 (by omega)) (by first | assumption | decide | omega | (simp only [nO]; omega)) ⟨rfl, by decide⟩ rfl rfl (Nat.le_of_ble_eq_true rfl) ?_
          refine wm_callS1 (q := 61) hg dX5_pair_58 rfl lk_X5_71 (by first | decide | omega) c_X5_pull rfl rfl (Nat.le_of_ble_eq_true rfl) ?_
          refine wm_imul (q := 62) hg dX5_pair_61 rfl ?_
          exact wm_iret hg hr dX5_pair_62 (by rw [pOn_in hz e2, ← ea]; rw [hX.2.2.1]) (rfl)
    · refine wm_iload_n (q := 11) (i := 1) hg dX5_pair_10 rfl rfl rfl ?_
      refine wm_iload_n (q := 12) (i := 3) hg dX5_pair_11 rfl rfl rfl ?_
      refine wm_icmp_le (q := 21) (q2 := 15) hg dX5_pair_12 (by decide) rfl (fun h2 => ?_) (fun h2 => ?_)
      · refine wm_iload_n (q := 22) (i := 3) hg dX5_pair_21 rfl rfl rfl ?_
        refine wm_iload_n (q := 23) (i := 1) hg dX5_pair_22 rfl rfl rfl ?_
        refine wm_isub (q := 24) hg dX5_pair_23 rfl ?_
        refine wm_istore (q := 26) (i := 4) (L' := [(0, _), (1, _), (2, _), (3, _), (4, _)]) hg dX5_pair_24 rfl rfl rfl ?_
        refine wm_iload (q := 28) (i := 4) hg dX5_pair_26 rfl rfl ?_
        refine wm_iconst (q := 29) 1 hg dX5_pair_28 rfl (by decide) ?_
        refine wm_icmp_ne (q := 42) (q2 := 32) hg dX5_pair_29 (by decide) rfl (fun h3 => ?_) (fun h3 => ?_)
        · exact absurd (by rw [show nI p - nI t = nI (p - t) from pk_sub (by omega), show p - t = 1 by omega]; rfl) h3
        · refine wm_aload_n (q := 33) (i := 0) hg dX5_pair_32 rfl rfl rfl ?_
          refine wm_get (q := 36) hg dX5_pair_33 rfl fl_X5_7 (by first | assumption | decide | omega | (simp only [nO]; omega)) rfl ?_
          refine wm_bipush (q := 38) 31 hg dX5_pair_36 rfl (by decide) ?_
          refine wm_rload (q := 39) 31 hg dX5_pair_38 rfl rfl (rfl : (31 : Int32) = nI 31) (by simp only [alen]; omega) ?_
          refine wm_goto (q := 52) hg dX5_pair_39 (by decide) ?_
          refine wm_iload_n (q := 53) (i := 2) hg dX5_pair_52 rfl rfl rfl ?_
          refine wm_aload_n (q := 54) (i := 0) hg dX5_pair_53 rfl rfl rfl ?_
          refine wm_iload_n (q := 55) (i := 3) hg dX5_pair_54 rfl rfl rfl ?_
          refine wm_callV1 (q := 58) hg dX5_pair_55 rfl lk_X5_68 (by first | decide | omega) (c_X5_angle (t := p) hp1 (by omega)) (by first | assumption | decide | omega | (simp only [nO]; omega)) ⟨rfl, by decide⟩ rfl rfl (Nat.le_of_ble_eq_true rfl) ?_
          refine wm_callS1 (q := 61) hg dX5_pair_58 rfl lk_X5_71 (by first | decide | omega) c_X5_pull rfl rfl (Nat.le_of_ble_eq_true rfl) ?_
          refine wm_imul (q := 62) hg dX5_pair_61 rfl ?_
          exact wm_iret hg hr dX5_pair_62 (by rw [pOn_in hz e2, ← ea]; rw [hX.2.2.1]) (rfl)
      · exact absurd (nI_le (a := t) (b := p) (by omega) (by omega)) h2
  · rw [hX.1] at h1
    refine wm_iconst (q := 9) 0 hg dX5_pair_8 rfl (by decide) ?_
    exact wm_iret hg hr dX5_pair_9 (by rw [pOn_out hz h1]; simp) (rfl)
set_option maxRecDepth 100000 in
set_option maxHeartbeats 4000000 in
theorem c_X5_pair_far {Γ : GT} {M : Mem} {R X : OV} {t : Nat} {x a o : Int32} (hz : ok10 X) (hX : rwC (R.2 0) X) (hx : x = nI t) (ht : t < 10) (ho : ∀ p : Nat, p < 10 → o = nI p → p + 2 = t ∨ p = t + 2) : Ct Γ yX5_pair cX5_pair 5 (some .int) 2 [.ref (ad Γ 5 0 0), .int x, .int a, .int o] (sR M R) (some (.int ((X.1 4 / 8) * pOn X a o))) (sR M R) := by
  refine ct_of (by decide) (Nat.le_of_ble_eq_true rfl) (fun K hg hr => ?_)
  show WM Γ K _ [(0, _), (1, _), (2, _), (3, _)] 0 []
  subst hx
  refine wm_aload_n (q := 1) (i := 0) hg dX5_pair_0 rfl rfl rfl ?_
  refine wm_iload_n (q := 2) (i := 3) hg dX5_pair_1 rfl rfl rfl ?_
  refine wm_callV1 (q := 5) hg dX5_pair_2 rfl lk_X5_64 (by first | decide | omega) c_X5_isMagnet (by first | assumption | decide | omega | (simp only [nO]; omega)) ⟨rfl, by decide⟩ rfl rfl (Nat.le_of_ble_eq_true rfl) ?_
  refine wm_if_ne (q := 10) (q2 := 8) hg dX5_pair_5 (by decide) rfl (fun h1 => ?_) (fun h1 => ?_)
  · rw [hX.1] at h1
    obtain ⟨e1, e2, e3⟩ := wthn_sz hz h1
    obtain ⟨p, hp⟩ : ∃ p, p = o.toNatClampNeg := ⟨_, rfl⟩
    rw [← hp] at e1 e2 e3
    have hp1 := e1
    subst hp1
    have hp1 : nI p = nI p := rfl
    have ea := (hX.2.1 p e2).1
    have hc := ho p e3 rfl
    rcases hc with hc | hc
    · refine wm_iload_n (q := 11) (i := 1) hg dX5_pair_10 rfl rfl rfl ?_
      refine wm_iload_n (q := 12) (i := 3) hg dX5_pair_11 rfl rfl rfl ?_
      refine wm_icmp_le (q := 21) (q2 := 15) hg dX5_pair_12 (by decide) rfl (fun h2 => ?_) (fun h2 => ?_)
      · exact absurd h2 (nI_ge (a := p) (b := t) (by omega) (by omega))
      · refine wm_iload_n (q := 16) (i := 1) hg dX5_pair_15 rfl rfl rfl ?_
        refine wm_iload_n (q := 17) (i := 3) hg dX5_pair_16 rfl rfl rfl ?_
        refine wm_isub (q := 18) hg dX5_pair_17 rfl ?_
        refine wm_goto (q := 24) hg dX5_pair_18 (by decide) ?_
        refine wm_istore (q := 26) (i := 4) (L' := [(0, _), (1, _), (2, _), (3, _), (4, _)]) hg dX5_pair_24 rfl rfl rfl ?_
        refine wm_iload (q := 28) (i := 4) hg dX5_pair_26 rfl rfl ?_
        refine wm_iconst (q := 29) 1 hg dX5_pair_28 rfl (by decide) ?_
        refine wm_icmp_ne (q := 42) (q2 := 32) hg dX5_pair_29 (by decide) rfl (fun h3 => ?_) (fun h3 => ?_)
        · refine wm_aload_n (q := 43) (i := 0) hg dX5_pair_42 rfl rfl rfl ?_
          refine wm_get (q := 46) hg dX5_pair_43 rfl fl_X5_7 (by first | assumption | decide | omega | (simp only [nO]; omega)) rfl ?_
          refine wm_bipush (q := 48) 31 hg dX5_pair_46 rfl (by decide) ?_
          refine wm_rload (q := 49) 31 hg dX5_pair_48 rfl rfl (rfl : (31 : Int32) = nI 31) (by simp only [alen]; omega) ?_
          refine wm_bipush (q := 51) 8 hg dX5_pair_49 rfl (by decide) ?_
          refine wm_idiv (q := 52) hg dX5_pair_51 rfl (by decide) ?_
          refine wm_iload_n (q := 53) (i := 2) hg dX5_pair_52 rfl rfl rfl ?_
          refine wm_aload_n (q := 54) (i := 0) hg dX5_pair_53 rfl rfl rfl ?_
          refine wm_iload_n (q := 55) (i := 3) hg dX5_pair_54 rfl rfl rfl ?_
          refine wm_callV1 (q := 58) hg dX5_pair_55 rfl lk_X5_68 (by first | decide | omega) (c_X5_angle (t := p) hp1 (by omega)) (by first | assumption | decide | omega | (simp only [nO]; omega)) ⟨rfl, by decide⟩ rfl rfl (Nat.le_of_ble_eq_true rfl) ?_
          refine wm_callS1 (q := 61) hg dX5_pair_58 rfl lk_X5_71 (by first | decide | omega) c_X5_pull rfl rfl (Nat.le_of_ble_eq_true rfl) ?_
          refine wm_imul (q := 62) hg dX5_pair_61 rfl ?_
          exact wm_iret hg hr dX5_pair_62 (by rw [pOn_in hz e2, ← ea]; rw [hX.2.2.1]) (rfl)
        · exact absurd h3 (by rw [show nI t - nI p = nI (t - p) from pk_sub (by omega), show t - p = 2 by omega]; decide)
    · refine wm_iload_n (q := 11) (i := 1) hg dX5_pair_10 rfl rfl rfl ?_
      refine wm_iload_n (q := 12) (i := 3) hg dX5_pair_11 rfl rfl rfl ?_
      refine wm_icmp_le (q := 21) (q2 := 15) hg dX5_pair_12 (by decide) rfl (fun h2 => ?_) (fun h2 => ?_)
      · refine wm_iload_n (q := 22) (i := 3) hg dX5_pair_21 rfl rfl rfl ?_
        refine wm_iload_n (q := 23) (i := 1) hg dX5_pair_22 rfl rfl rfl ?_
        refine wm_isub (q := 24) hg dX5_pair_23 rfl ?_
        refine wm_istore (q := 26) (i := 4) (L' := [(0, _), (1, _), (2, _), (3, _), (4, _)]) hg dX5_pair_24 rfl rfl rfl ?_
        refine wm_iload (q := 28) (i := 4) hg dX5_pair_26 rfl rfl ?_
        refine wm_iconst (q := 29) 1 hg dX5_pair_28 rfl (by decide) ?_
        refine wm_icmp_ne (q := 42) (q2 := 32) hg dX5_pair_29 (by decide) rfl (fun h3 => ?_) (fun h3 => ?_)
        · refine wm_aload_n (q := 43) (i := 0) hg dX5_pair_42 rfl rfl rfl ?_
          refine wm_get (q := 46) hg dX5_pair_43 rfl fl_X5_7 (by first | assumption | decide | omega | (simp only [nO]; omega)) rfl ?_
          refine wm_bipush (q := 48) 31 hg dX5_pair_46 rfl (by decide) ?_
          refine wm_rload (q := 49) 31 hg dX5_pair_48 rfl rfl (rfl : (31 : Int32) = nI 31) (by simp only [alen]; omega) ?_
          refine wm_bipush (q := 51) 8 hg dX5_pair_49 rfl (by decide) ?_
          refine wm_idiv (q := 52) hg dX5_pair_51 rfl (by decide) ?_
          refine wm_iload_n (q := 53) (i := 2) hg dX5_pair_52 rfl rfl rfl ?_
          refine wm_aload_n (q := 54) (i := 0) hg dX5_pair_53 rfl rfl rfl ?_
          refine wm_iload_n (q := 55) (i := 3) hg dX5_pair_54 rfl rfl rfl ?_
          refine wm_callV1 (q := 58) hg dX5_pair_55 rfl lk_X5_68 (by first | decide | omega) (c_X5_angle (t := p) hp1 (by omega)) (by first | assumption | decide | omega | (simp only [nO]; omega)) ⟨rfl, by decide⟩ rfl rfl (Nat.le_of_ble_eq_true rfl) ?_
          refine wm_callS1 (q := 61) hg dX5_pair_58 rfl lk_X5_71 (by first | decide | omega) c_X5_pull rfl rfl (Nat.le_of_ble_eq_true rfl) ?_
          refine wm_imul (q := 62) hg dX5_pair_61 rfl ?_
          exact wm_iret hg hr dX5_pair_62 (by rw [pOn_in hz e2, ← ea]; rw [hX.2.2.1]) (rfl)
        · exact absurd h3 (by rw [show nI p - nI t = nI (p - t) from pk_sub (by omega), show p - t = 2 by omega]; decide)
      · exact absurd (nI_le (a := t) (b := p) (by omega) (by omega)) h2
  · rw [hX.1] at h1
    refine wm_iconst (q := 9) 0 hg dX5_pair_8 rfl (by decide) ?_
    exact wm_iret hg hr dX5_pair_9 (by rw [pOn_out hz h1]; simp) (rfl)
theorem near_m {t p k : Nat} (ht : t < 10) (hp : p < 10) (h : nI t - nI k = nI p) (hk : k < 3) : p + k = t := by
  have e : nI t = nI (p + k) := by rw [← nI_add, ← h, Int32.sub_add_cancel]
  exact ((nI_eq (by omega) (by omega)).mp e).symm
theorem near_p {t p k : Nat} (ht : t < 10) (hp : p < 10) (h : nI t + nI k = nI p) (hk : k < 3) : p = t + k := by
  rw [nI_add] at h
  exact ((nI_eq (by omega) (by omega)).mp h).symm
set_option maxRecDepth 100000 in
set_option maxHeartbeats 4000000 in
theorem c_X5_part {Γ : GT} {M : Mem} {R : OV} {X : OV} {t : Nat} {x a : Int32} (hz : ok10 X) (hX : rwC (R.2 0) X) (hx : x = nI t) (ht : t < 10) : Ct Γ yX5_part cX5_part 3 (some .int) 3 [.ref (ad Γ 5 0 0), .int x, .int a] (sR M R) (some (.int (part X (nI t) a))) (sR M R) := by
  refine ct_of (by decide) (Nat.le_of_ble_eq_true rfl) (fun K hg hr => ?_)
  show WM Γ K _ [(0, _), (1, _), (2, _)] 0 []
  subst hx
  refine wm_aload_n (q := 1) (i := 0) hg dX5_part_0 rfl rfl rfl ?_
  refine wm_iload_n (q := 2) (i := 1) hg dX5_part_1 rfl rfl rfl ?_
  refine wm_iload_n (q := 3) (i := 2) hg dX5_part_2 rfl rfl rfl ?_
  refine wm_iload_n (q := 4) (i := 1) hg dX5_part_3 rfl rfl rfl ?_
  refine wm_iconst (q := 5) 2 hg dX5_part_4 rfl (by decide) ?_
  refine wm_isub (q := 6) hg dX5_part_5 rfl ?_
  refine wm_callV1 (q := 9) hg dX5_part_6 rfl lk_X5_75 (by first | decide | omega) (c_X5_pair_far hz hX rfl (by omega) (fun p hp e => Or.inl (near_m (k := 2) (by omega) hp e (by decide)))) (by first | assumption | decide | omega | (simp only [nO]; omega)) ⟨rfl, by decide⟩ rfl rfl (Nat.le_of_ble_eq_true rfl) ?_
  refine wm_aload_n (q := 10) (i := 0) hg dX5_part_9 rfl rfl rfl ?_
  refine wm_iload_n (q := 11) (i := 1) hg dX5_part_10 rfl rfl rfl ?_
  refine wm_iload_n (q := 12) (i := 2) hg dX5_part_11 rfl rfl rfl ?_
  refine wm_iload_n (q := 13) (i := 1) hg dX5_part_12 rfl rfl rfl ?_
  refine wm_iconst (q := 14) 1 hg dX5_part_13 rfl (by decide) ?_
  refine wm_isub (q := 15) hg dX5_part_14 rfl ?_
  refine wm_callV1 (q := 18) hg dX5_part_15 rfl lk_X5_75 (by first | decide | omega) (c_X5_pair_near hz hX rfl (by omega) (fun p hp e => Or.inl (near_m (k := 1) (by omega) hp e (by decide)))) (by first | assumption | decide | omega | (simp only [nO]; omega)) ⟨rfl, by decide⟩ rfl rfl (Nat.le_of_ble_eq_true rfl) ?_
  refine wm_iadd (q := 19) hg dX5_part_18 rfl ?_
  refine wm_aload_n (q := 20) (i := 0) hg dX5_part_19 rfl rfl rfl ?_
  refine wm_iload_n (q := 21) (i := 1) hg dX5_part_20 rfl rfl rfl ?_
  refine wm_iload_n (q := 22) (i := 2) hg dX5_part_21 rfl rfl rfl ?_
  refine wm_iload_n (q := 23) (i := 1) hg dX5_part_22 rfl rfl rfl ?_
  refine wm_iconst (q := 24) 1 hg dX5_part_23 rfl (by decide) ?_
  refine wm_iadd (q := 25) hg dX5_part_24 rfl ?_
  refine wm_callV1 (q := 28) hg dX5_part_25 rfl lk_X5_75 (by first | decide | omega) (c_X5_pair_near hz hX rfl (by omega) (fun p hp e => Or.inr (near_p (k := 1) (by omega) hp e (by decide)))) (by first | assumption | decide | omega | (simp only [nO]; omega)) ⟨rfl, by decide⟩ rfl rfl (Nat.le_of_ble_eq_true rfl) ?_
  refine wm_iadd (q := 29) hg dX5_part_28 rfl ?_
  refine wm_aload_n (q := 30) (i := 0) hg dX5_part_29 rfl rfl rfl ?_
  refine wm_iload_n (q := 31) (i := 1) hg dX5_part_30 rfl rfl rfl ?_
  refine wm_iload_n (q := 32) (i := 2) hg dX5_part_31 rfl rfl rfl ?_
  refine wm_iload_n (q := 33) (i := 1) hg dX5_part_32 rfl rfl rfl ?_
  refine wm_iconst (q := 34) 2 hg dX5_part_33 rfl (by decide) ?_
  refine wm_iadd (q := 35) hg dX5_part_34 rfl ?_
  refine wm_callV1 (q := 38) hg dX5_part_35 rfl lk_X5_75 (by first | decide | omega) (c_X5_pair_far hz hX rfl (by omega) (fun p hp e => Or.inr (near_p (k := 2) (by omega) hp e (by decide)))) (by first | assumption | decide | omega | (simp only [nO]; omega)) ⟨rfl, by decide⟩ rfl rfl (Nat.le_of_ble_eq_true rfl) ?_
  refine wm_iadd (q := 39) hg dX5_part_38 rfl ?_
  refine wm_aload_n (q := 40) (i := 0) hg dX5_part_39 rfl rfl rfl ?_
  refine wm_iload_n (q := 41) (i := 2) hg dX5_part_40 rfl rfl rfl ?_
  refine wm_callV1 (q := 44) hg dX5_part_41 rfl lk_X5_79 (by first | decide | omega) (c_X5_field (by first | assumption | decide | omega)) (by first | assumption | decide | omega | (simp only [nO]; omega)) ⟨rfl, by decide⟩ rfl rfl (Nat.le_of_ble_eq_true rfl) ?_
  refine wm_iadd (q := 45) hg dX5_part_44 rfl ?_
  exact wm_iret hg hr dX5_part_45 (by unfold part; rw [Int32.mul_add, Int32.mul_add]; ac_rfl) (rfl)
set_option maxRecDepth 100000 in
set_option maxHeartbeats 4000000 in
theorem c_X5_energy {Γ : GT} {M : Mem} {R : OV} {X : OV} (hz : ok10 X) (hX : rwC (R.2 0) X) : Ct Γ yX5_energy cX5_energy 3 (some .int) 3 [.ref (ad Γ 5 0 0)] (sR M R) (some (.int (energy X))) (sR M R) := by
  refine ct_of (by decide) (Nat.le_of_ble_eq_true rfl) (fun K hg hr => ?_)
  show WM Γ K _ [(0, _)] 0 []
  have hz2 := hz.2
  have hw0 : R.2 0 0 = nI (szN X) := hX.1.trans hz.1
  refine wm_iconst (q := 1) 0 hg dX5_energy_0 rfl (by decide) ?_
  refine wm_istore_n (q := 2) (i := 1) (L' := [(0, _), (1, _)]) hg dX5_energy_1 rfl rfl rfl rfl ?_
  refine wm_iconst (q := 3) 0 hg dX5_energy_2 rfl (by decide) ?_
  refine wm_istore_n (q := 4) (i := 2) (L' := [(0, _), (1, _), (2, _)]) hg dX5_energy_3 rfl rfl rfl rfl ?_
  suffices hloop : ∀ (n i : Nat), i + n = (szN X) → WM Γ K (sR M R) [(0, .ref (ad Γ 5 0 0)), (1, .int (enS X i)), (2, .int (nI i))] 4 [] from hloop (szN X) 0 (by omega)
  intro n
  induction n with
  | zero =>
    intro i hi 
    refine wm_iload_n (q := 5) (i := 2) hg dX5_energy_4 rfl rfl rfl ?_
    refine wm_aload_n (q := 6) (i := 0) hg dX5_energy_5 rfl rfl rfl ?_
    refine wm_get (q := 9) hg dX5_energy_6 rfl fl_X5_7 (by first | assumption | decide | omega | (simp only [nO]; omega)) rfl ?_
    refine wm_iconst (q := 10) 0 hg dX5_energy_9 rfl (by decide) ?_
    refine wm_rload (q := 11) 0 hg dX5_energy_10 rfl rfl (rfl : (0 : Int32) = nI 0) (by simp only [alen]; omega) ?_
    refine wm_icmp_ge (q := 60) (q2 := 14) hg dX5_energy_11 (by decide) rfl (fun hb => ?_) (fun hb => ?_)
    · refine wm_iload_n (q := 61) (i := 1) hg dX5_energy_60 rfl rfl rfl ?_
      exact wm_iret hg hr dX5_energy_61 (by rw [show i = szN X from hi]; rfl) (rfl)
    · exact absurd (lpLe hw0 (by omega) (by omega)) hb
  | succ n ih =>
    intro i hi 
    refine wm_iload_n (q := 5) (i := 2) hg dX5_energy_4 rfl rfl rfl ?_
    refine wm_aload_n (q := 6) (i := 0) hg dX5_energy_5 rfl rfl rfl ?_
    refine wm_get (q := 9) hg dX5_energy_6 rfl fl_X5_7 (by first | assumption | decide | omega | (simp only [nO]; omega)) rfl ?_
    refine wm_iconst (q := 10) 0 hg dX5_energy_9 rfl (by decide) ?_
    refine wm_rload (q := 11) 0 hg dX5_energy_10 rfl rfl (rfl : (0 : Int32) = nI 0) (by simp only [alen]; omega) ?_
    refine wm_icmp_ge (q := 60) (q2 := 14) hg dX5_energy_11 (by decide) rfl (fun hb => ?_) (fun hb => ?_)
    · exact absurd hb (lpLt hw0 (by omega) (by omega))
    · refine wm_iload_n (q := 15) (i := 1) hg dX5_energy_14 rfl rfl rfl ?_
      refine wm_aload_n (q := 16) (i := 0) hg dX5_energy_15 rfl rfl rfl ?_
      refine wm_iload_n (q := 17) (i := 2) hg dX5_energy_16 rfl rfl rfl ?_
      refine wm_aload_n (q := 18) (i := 0) hg dX5_energy_17 rfl rfl rfl ?_
      refine wm_iload_n (q := 19) (i := 2) hg dX5_energy_18 rfl rfl rfl ?_
      refine wm_callV1 (q := 22) hg dX5_energy_19 rfl lk_X5_68 (by first | decide | omega) (c_X5_angle rfl (by omega)) (by first | assumption | decide | omega | (simp only [nO]; omega)) ⟨rfl, by decide⟩ rfl rfl (Nat.le_of_ble_eq_true rfl) ?_
      refine wm_iload_n (q := 23) (i := 2) hg dX5_energy_22 rfl rfl rfl ?_
      refine wm_iconst (q := 24) 1 hg dX5_energy_23 rfl (by decide) ?_
      refine wm_iadd (q := 25) hg dX5_energy_24 rfl ?_
      refine wm_callV1 (q := 28) hg dX5_energy_25 rfl lk_X5_75 (by first | decide | omega) (c_X5_pair_near hz hX rfl (by omega) (fun p hp e => Or.inr (near_p (k := 1) (by omega) hp e (by decide)))) (by first | assumption | decide | omega | (simp only [nO]; omega)) ⟨rfl, by decide⟩ rfl rfl (Nat.le_of_ble_eq_true rfl) ?_
      refine wm_aload_n (q := 29) (i := 0) hg dX5_energy_28 rfl rfl rfl ?_
      refine wm_iload_n (q := 30) (i := 2) hg dX5_energy_29 rfl rfl rfl ?_
      refine wm_aload_n (q := 31) (i := 0) hg dX5_energy_30 rfl rfl rfl ?_
      refine wm_iload_n (q := 32) (i := 2) hg dX5_energy_31 rfl rfl rfl ?_
      refine wm_callV1 (q := 35) hg dX5_energy_32 rfl lk_X5_68 (by first | decide | omega) (c_X5_angle rfl (by omega)) (by first | assumption | decide | omega | (simp only [nO]; omega)) ⟨rfl, by decide⟩ rfl rfl (Nat.le_of_ble_eq_true rfl) ?_
      refine wm_iload_n (q := 36) (i := 2) hg dX5_energy_35 rfl rfl rfl ?_
      refine wm_iconst (q := 37) 2 hg dX5_energy_36 rfl (by decide) ?_
      refine wm_iadd (q := 38) hg dX5_energy_37 rfl ?_
      refine wm_callV1 (q := 41) hg dX5_energy_38 rfl lk_X5_75 (by first | decide | omega) (c_X5_pair_far hz hX rfl (by omega) (fun p hp e => Or.inr (near_p (k := 2) (by omega) hp e (by decide)))) (by first | assumption | decide | omega | (simp only [nO]; omega)) ⟨rfl, by decide⟩ rfl rfl (Nat.le_of_ble_eq_true rfl) ?_
      refine wm_iadd (q := 42) hg dX5_energy_41 rfl ?_
      refine wm_aload_n (q := 43) (i := 0) hg dX5_energy_42 rfl rfl rfl ?_
      refine wm_aload_n (q := 44) (i := 0) hg dX5_energy_43 rfl rfl rfl ?_
      refine wm_iload_n (q := 45) (i := 2) hg dX5_energy_44 rfl rfl rfl ?_
      refine wm_callV1 (q := 48) hg dX5_energy_45 rfl lk_X5_68 (by first | decide | omega) (c_X5_angle rfl (by omega)) (by first | assumption | decide | omega | (simp only [nO]; omega)) ⟨rfl, by decide⟩ rfl rfl (Nat.le_of_ble_eq_true rfl) ?_
      refine wm_callV1 (q := 51) hg dX5_energy_48 rfl lk_X5_79 (by first | decide | omega) (c_X5_field (by first | assumption | decide | omega)) (by first | assumption | decide | omega | (simp only [nO]; omega)) ⟨rfl, by decide⟩ rfl rfl (Nat.le_of_ble_eq_true rfl) ?_
      refine wm_iadd (q := 52) hg dX5_energy_51 rfl ?_
      refine wm_iadd (q := 53) hg dX5_energy_52 rfl ?_
      refine wm_istore_n (q := 54) (i := 1) (L' := [(0, _), (1, _), (2, _)]) hg dX5_energy_53 rfl rfl rfl rfl ?_
      refine wm_iinc (q := 57) (L' := [(0, _), (1, _), (2, _)]) (nI (i + 1)) hg dX5_energy_54 rfl rfl (nadd rfl rfl) rfl rfl ?_
      refine wm_goto (q := 4) hg dX5_energy_57 (by decide) ?_
      have hh := (hX.2.1 i (by omega)).1
      refine wm_Leq ?_ (ih (i + 1) (by omega))
      simp only [enS, hh]; rfl
set_option maxRecDepth 100000 in
set_option maxHeartbeats 4000000 in
theorem c_X5_free {Γ : GT} {M : Mem} {R : OV} {X : OV} {t : Nat} {x d : Int32} (hrg : rgX X) (hX : rwC (R.2 0) X) (hx : x = nI t) (ht : t < szN X) (hd : -8 ≤ d.toInt ∧ d.toInt ≤ 8) : Ct Γ yX5_free cX5_free 3 (some .int) 4 [.ref (ad Γ 5 0 0), .int x, .int d] (sR M R) (some (.int (freed X t d))) (sR M R) := by
  refine ct_of (by decide) (Nat.le_of_ble_eq_true rfl) (fun K hg hr => ?_)
  show WM Γ K _ [(0, _), (1, _), (2, _)] 0 []
  subst hx
  have hz := hrg.1
  have hz2 := hz.2
  obtain ⟨⟨a, ha, ea⟩, -, -⟩ := hrg.2.2 t ht
  have eA := (hX.2.1 t ht).1
  refine wm_aload_n (q := 1) (i := 0) hg dX5_free_0 rfl rfl rfl ?_
  refine wm_iload_n (q := 2) (i := 1) hg dX5_free_1 rfl rfl rfl ?_
  refine wm_aload_n (q := 3) (i := 0) hg dX5_free_2 rfl rfl rfl ?_
  refine wm_iload_n (q := 4) (i := 1) hg dX5_free_3 rfl rfl rfl ?_
  refine wm_callV1 (q := 7) hg dX5_free_4 rfl lk_X5_68 (by first | decide | omega) (c_X5_angle rfl (by omega)) (by first | assumption | decide | omega | (simp only [nO]; omega)) ⟨rfl, by decide⟩ rfl rfl (Nat.le_of_ble_eq_true rfl) ?_
  refine wm_callV1 (q := 10) hg dX5_free_7 rfl lk_X5_82 (by first | decide | omega) (c_X5_part (by first | assumption | decide | omega) (by first | assumption | decide | omega) rfl (by omega)) (by first | assumption | decide | omega | (simp only [nO]; omega)) ⟨rfl, by decide⟩ rfl rfl (Nat.le_of_ble_eq_true rfl) ?_
  refine wm_aload_n (q := 11) (i := 0) hg dX5_free_10 rfl rfl rfl ?_
  refine wm_iload_n (q := 12) (i := 1) hg dX5_free_11 rfl rfl rfl ?_
  refine wm_aload_n (q := 13) (i := 0) hg dX5_free_12 rfl rfl rfl ?_
  refine wm_iload_n (q := 14) (i := 1) hg dX5_free_13 rfl rfl rfl ?_
  refine wm_callV1 (q := 17) hg dX5_free_14 rfl lk_X5_68 (by first | decide | omega) (c_X5_angle rfl (by omega)) (by first | assumption | decide | omega | (simp only [nO]; omega)) ⟨rfl, by decide⟩ rfl rfl (Nat.le_of_ble_eq_true rfl) ?_
  refine wm_iload_n (q := 18) (i := 2) hg dX5_free_17 rfl rfl rfl ?_
  refine wm_callS1 (q := 21) hg dX5_free_18 rfl lk_X5_85 (by first | decide | omega) c_X5_turned rfl rfl (Nat.le_of_ble_eq_true rfl) ?_
  refine wm_callV1 (q := 24) hg dX5_free_21 rfl lk_X5_82 (by first | decide | omega) (c_X5_part (by first | assumption | decide | omega) (by first | assumption | decide | omega) rfl (by omega)) (by first | assumption | decide | omega | (simp only [nO]; omega)) ⟨rfl, by decide⟩ rfl rfl (Nat.le_of_ble_eq_true rfl) ?_
  refine wm_isub (q := 25) hg dX5_free_24 rfl ?_
  exact wm_iret hg hr dX5_free_25 (by unfold freed; rw [eA, ea, turned_and ha hd, part_m8 _ (m8_and (nI a + d))]) (rfl)
set_option maxRecDepth 100000 in
set_option maxHeartbeats 4000000 in
theorem c_X5_unsolved {Γ : GT} {M : Mem} {R : OV} {X : OV} (hz : ok10 X) (hX : rwC (R.2 0) X) : Ct Γ yX5_unsolved cX5_unsolved 3 (some .int) 1 [.ref (ad Γ 5 0 0)] (sR M R) (some (.int (gmS X (szN X)))) (sR M R) := by
  refine ct_of (by decide) (Nat.le_of_ble_eq_true rfl) (fun K hg hr => ?_)
  show WM Γ K _ [(0, _)] 0 []
  have hz2 := hz.2
  have hw0 : R.2 0 0 = nI (szN X) := hX.1.trans hz.1
  refine wm_iconst (q := 1) 0 hg dX5_unsolved_0 rfl (by decide) ?_
  refine wm_istore_n (q := 2) (i := 1) (L' := [(0, _), (1, _)]) hg dX5_unsolved_1 rfl rfl rfl rfl ?_
  refine wm_iconst (q := 3) 0 hg dX5_unsolved_2 rfl (by decide) ?_
  refine wm_istore_n (q := 4) (i := 2) (L' := [(0, _), (1, _), (2, _)]) hg dX5_unsolved_3 rfl rfl rfl rfl ?_
  suffices hloop : ∀ (n i : Nat), i + n = (szN X) → WM Γ K (sR M R) [(0, .ref (ad Γ 5 0 0)), (1, .int (gmS X i)), (2, .int (nI i))] 4 [] from hloop (szN X) 0 (by omega)
  intro n
  induction n with
  | zero =>
    intro i hi 
    refine wm_iload_n (q := 5) (i := 2) hg dX5_unsolved_4 rfl rfl rfl ?_
    refine wm_aload_n (q := 6) (i := 0) hg dX5_unsolved_5 rfl rfl rfl ?_
    refine wm_get (q := 9) hg dX5_unsolved_6 rfl fl_X5_7 (by first | assumption | decide | omega | (simp only [nO]; omega)) rfl ?_
    refine wm_iconst (q := 10) 0 hg dX5_unsolved_9 rfl (by decide) ?_
    refine wm_rload (q := 11) 0 hg dX5_unsolved_10 rfl rfl (rfl : (0 : Int32) = nI 0) (by simp only [alen]; omega) ?_
    refine wm_icmp_ge (q := 59) (q2 := 14) hg dX5_unsolved_11 (by decide) rfl (fun hb => ?_) (fun hb => ?_)
    · refine wm_iload_n (q := 60) (i := 1) hg dX5_unsolved_59 rfl rfl rfl ?_
      exact wm_iret hg hr dX5_unsolved_60 (by rw [show i = szN X from hi]) (rfl)
    · exact absurd (lpLe hw0 (by omega) (by omega)) hb
  | succ n ih =>
    intro i hi 
    refine wm_iload_n (q := 5) (i := 2) hg dX5_unsolved_4 rfl rfl rfl ?_
    refine wm_aload_n (q := 6) (i := 0) hg dX5_unsolved_5 rfl rfl rfl ?_
    refine wm_get (q := 9) hg dX5_unsolved_6 rfl fl_X5_7 (by first | assumption | decide | omega | (simp only [nO]; omega)) rfl ?_
    refine wm_iconst (q := 10) 0 hg dX5_unsolved_9 rfl (by decide) ?_
    refine wm_rload (q := 11) 0 hg dX5_unsolved_10 rfl rfl (rfl : (0 : Int32) = nI 0) (by simp only [alen]; omega) ?_
    refine wm_icmp_ge (q := 59) (q2 := 14) hg dX5_unsolved_11 (by decide) rfl (fun hb => ?_) (fun hb => ?_)
    · exact absurd hb (lpLt hw0 (by omega) (by omega))
    · refine wm_iload_n (q := 15) (i := 1) hg dX5_unsolved_14 rfl rfl rfl ?_
      refine wm_aload_n (q := 16) (i := 0) hg dX5_unsolved_15 rfl rfl rfl ?_
      refine wm_get (q := 19) hg dX5_unsolved_16 rfl fl_X5_7 (by first | assumption | decide | omega | (simp only [nO]; omega)) rfl ?_
      refine wm_bipush (q := 21) 21 hg dX5_unsolved_19 rfl (by decide) ?_
      refine wm_iload_n (q := 22) (i := 2) hg dX5_unsolved_21 rfl rfl rfl ?_
      refine wm_iadd (q := 23) hg dX5_unsolved_22 rfl ?_
      refine wm_rload (q := 24) (21 + i) hg dX5_unsolved_23 rfl rfl (nadd (a := 21) (b := i) (rfl : (21 : Int32) = nI 21) rfl) (by simp only [alen]; omega) ?_
      refine wm_ldc (q := 26) (-1000000009) hg dX5_unsolved_24 rfl ld_X5_25 ?_
      refine wm_icmp_eq (q := 50) (q2 := 29) hg dX5_unsolved_26 (by decide) rfl (fun h1 => ?_) (fun h1 => ?_)
      · refine wm_iconst (q := 51) 0 hg dX5_unsolved_50 rfl (by decide) ?_
        refine wm_iadd (q := 52) hg dX5_unsolved_51 rfl ?_
        refine wm_istore_n (q := 53) (i := 1) (L' := [(0, _), (1, _), (2, _)]) hg dX5_unsolved_52 rfl rfl rfl rfl ?_
        refine wm_iinc (q := 56) (L' := [(0, _), (1, _), (2, _)]) (nI (i + 1)) hg dX5_unsolved_53 rfl rfl (nadd rfl rfl) rfl rfl ?_
        refine wm_goto (q := 4) hg dX5_unsolved_56 (by decide) ?_
        have hh := hX.2.1 i (by omega)
        simp only [hh.1, hh.2.2] at *
        refine wm_Leq ?_ (ih (i + 1) (by omega))
        simp [gmS, *]
      · refine wm_aload_n (q := 30) (i := 0) hg dX5_unsolved_29 rfl rfl rfl ?_
        refine wm_get (q := 33) hg dX5_unsolved_30 rfl fl_X5_7 (by first | assumption | decide | omega | (simp only [nO]; omega)) rfl ?_
        refine wm_bipush (q := 35) 21 hg dX5_unsolved_33 rfl (by decide) ?_
        refine wm_iload_n (q := 36) (i := 2) hg dX5_unsolved_35 rfl rfl rfl ?_
        refine wm_iadd (q := 37) hg dX5_unsolved_36 rfl ?_
        refine wm_rload (q := 38) (21 + i) hg dX5_unsolved_37 rfl rfl (nadd (a := 21) (b := i) (rfl : (21 : Int32) = nI 21) rfl) (by simp only [alen]; omega) ?_
        refine wm_aload_n (q := 39) (i := 0) hg dX5_unsolved_38 rfl rfl rfl ?_
        refine wm_iload_n (q := 40) (i := 2) hg dX5_unsolved_39 rfl rfl rfl ?_
        refine wm_callV1 (q := 43) hg dX5_unsolved_40 rfl lk_X5_68 (by first | decide | omega) (c_X5_angle rfl (by omega)) (by first | assumption | decide | omega | (simp only [nO]; omega)) ⟨rfl, by decide⟩ rfl rfl (Nat.le_of_ble_eq_true rfl) ?_
        refine wm_icmp_eq (q := 50) (q2 := 46) hg dX5_unsolved_43 (by decide) rfl (fun h2 => ?_) (fun h2 => ?_)
        · refine wm_iconst (q := 51) 0 hg dX5_unsolved_50 rfl (by decide) ?_
          refine wm_iadd (q := 52) hg dX5_unsolved_51 rfl ?_
          refine wm_istore_n (q := 53) (i := 1) (L' := [(0, _), (1, _), (2, _)]) hg dX5_unsolved_52 rfl rfl rfl rfl ?_
          refine wm_iinc (q := 56) (L' := [(0, _), (1, _), (2, _)]) (nI (i + 1)) hg dX5_unsolved_53 rfl rfl (nadd rfl rfl) rfl rfl ?_
          refine wm_goto (q := 4) hg dX5_unsolved_56 (by decide) ?_
          have hh := hX.2.1 i (by omega)
          simp only [hh.1, hh.2.2] at *
          refine wm_Leq ?_ (ih (i + 1) (by omega))
          simp [gmS, *]
        · refine wm_iconst (q := 47) 1 hg dX5_unsolved_46 rfl (by decide) ?_
          refine wm_goto (q := 51) hg dX5_unsolved_47 (by decide) ?_
          refine wm_iadd (q := 52) hg dX5_unsolved_51 rfl ?_
          refine wm_istore_n (q := 53) (i := 1) (L' := [(0, _), (1, _), (2, _)]) hg dX5_unsolved_52 rfl rfl rfl rfl ?_
          refine wm_iinc (q := 56) (L' := [(0, _), (1, _), (2, _)]) (nI (i + 1)) hg dX5_unsolved_53 rfl rfl (nadd rfl rfl) rfl rfl ?_
          refine wm_goto (q := 4) hg dX5_unsolved_56 (by decide) ?_
          have hh := hX.2.1 i (by omega)
          simp only [hh.1, hh.2.2] at *
          refine wm_Leq ?_ (ih (i + 1) (by omega))
          simp [gmS, *]
set_option maxRecDepth 100000 in
set_option maxHeartbeats 4000000 in
theorem c_X5_walls {Γ : GT} {M : Mem} {R : OV} {X : OV} (hz : ok10 X) (hX : rwC (R.2 0) X) : Ct Γ yX5_walls cX5_walls 3 (some .int) 1 [.ref (ad Γ 5 0 0)] (sR M R) (some (.int (waS X (szN X - 1)))) (sR M R) := by
  refine ct_of (by decide) (Nat.le_of_ble_eq_true rfl) (fun K hg hr => ?_)
  show WM Γ K _ [(0, _)] 0 []
  have hz2 := hz.2
  have hw0 : R.2 0 0 = nI (szN X) := hX.1.trans hz.1
  refine wm_iconst (q := 1) 0 hg dX5_walls_0 rfl (by decide) ?_
  refine wm_istore_n (q := 2) (i := 1) (L' := [(0, _), (1, _)]) hg dX5_walls_1 rfl rfl rfl rfl ?_
  refine wm_iconst (q := 3) 1 hg dX5_walls_2 rfl (by decide) ?_
  refine wm_istore_n (q := 4) (i := 2) (L' := [(0, _), (1, _), (2, _)]) hg dX5_walls_3 rfl rfl rfl rfl ?_
  suffices hloop : ∀ (n i : Nat), i + n = (szN X - 1) → WM Γ K (sR M R) [(0, .ref (ad Γ 5 0 0)), (1, .int (waS X i)), (2, .int (nI (i + 1)))] 4 [] from hloop (szN X - 1) 0 (by omega)
  intro n
  induction n with
  | zero =>
    intro i hi 
    refine wm_iload_n (q := 5) (i := 2) hg dX5_walls_4 rfl rfl rfl ?_
    refine wm_aload_n (q := 6) (i := 0) hg dX5_walls_5 rfl rfl rfl ?_
    refine wm_get (q := 9) hg dX5_walls_6 rfl fl_X5_7 (by first | assumption | decide | omega | (simp only [nO]; omega)) rfl ?_
    refine wm_iconst (q := 10) 0 hg dX5_walls_9 rfl (by decide) ?_
    refine wm_rload (q := 11) 0 hg dX5_walls_10 rfl rfl (rfl : (0 : Int32) = nI 0) (by simp only [alen]; omega) ?_
    refine wm_icmp_ge (q := 43) (q2 := 14) hg dX5_walls_11 (by decide) rfl (fun hb => ?_) (fun hb => ?_)
    · refine wm_iload_n (q := 44) (i := 1) hg dX5_walls_43 rfl rfl rfl ?_
      exact wm_iret hg hr dX5_walls_44 (by rw [show i = szN X - 1 from hi]) (rfl)
    · exact absurd (lpLe hw0 (by omega) (by omega)) hb
  | succ n ih =>
    intro i hi 
    refine wm_iload_n (q := 5) (i := 2) hg dX5_walls_4 rfl rfl rfl ?_
    refine wm_aload_n (q := 6) (i := 0) hg dX5_walls_5 rfl rfl rfl ?_
    refine wm_get (q := 9) hg dX5_walls_6 rfl fl_X5_7 (by first | assumption | decide | omega | (simp only [nO]; omega)) rfl ?_
    refine wm_iconst (q := 10) 0 hg dX5_walls_9 rfl (by decide) ?_
    refine wm_rload (q := 11) 0 hg dX5_walls_10 rfl rfl (rfl : (0 : Int32) = nI 0) (by simp only [alen]; omega) ?_
    refine wm_icmp_ge (q := 43) (q2 := 14) hg dX5_walls_11 (by decide) rfl (fun hb => ?_) (fun hb => ?_)
    · exact absurd hb (lpLt hw0 (by omega) (by omega))
    · refine wm_iload_n (q := 15) (i := 1) hg dX5_walls_14 rfl rfl rfl ?_
      refine wm_aload_n (q := 16) (i := 0) hg dX5_walls_15 rfl rfl rfl ?_
      refine wm_iload_n (q := 17) (i := 2) hg dX5_walls_16 rfl rfl rfl ?_
      refine wm_callV1 (q := 20) hg dX5_walls_17 rfl lk_X5_68 (by first | decide | omega) (c_X5_angle rfl (by omega)) (by first | assumption | decide | omega | (simp only [nO]; omega)) ⟨rfl, by decide⟩ rfl rfl (Nat.le_of_ble_eq_true rfl) ?_
      refine wm_aload_n (q := 21) (i := 0) hg dX5_walls_20 rfl rfl rfl ?_
      refine wm_iload_n (q := 22) (i := 2) hg dX5_walls_21 rfl rfl rfl ?_
      refine wm_iconst (q := 23) 1 hg dX5_walls_22 rfl (by decide) ?_
      refine wm_isub (q := 24) hg dX5_walls_23 rfl ?_
      refine wm_callV1 (q := 27) hg dX5_walls_24 rfl lk_X5_68 (by first | decide | omega) (c_X5_angle (nsub (a := (i + 1)) (b := 1) rfl (rfl : (1 : Int32) = nI 1) (by omega)) (by omega)) (by first | assumption | decide | omega | (simp only [nO]; omega)) ⟨rfl, by decide⟩ rfl rfl (Nat.le_of_ble_eq_true rfl) ?_
      refine wm_icmp_eq (q := 34) (q2 := 30) hg dX5_walls_27 (by decide) rfl (fun h1 => ?_) (fun h1 => ?_)
      · refine wm_iconst (q := 35) 0 hg dX5_walls_34 rfl (by decide) ?_
        refine wm_iadd (q := 36) hg dX5_walls_35 rfl ?_
        refine wm_istore_n (q := 37) (i := 1) (L' := [(0, _), (1, _), (2, _)]) hg dX5_walls_36 rfl rfl rfl rfl ?_
        refine wm_iinc (q := 40) (L' := [(0, _), (1, _), (2, _)]) (nI ((i + 1) + 1)) hg dX5_walls_37 rfl rfl (nadd rfl rfl) rfl rfl ?_
        refine wm_goto (q := 4) hg dX5_walls_40 (by decide) ?_
        have hh := hX.2.1 i (by omega)
        have hh2 := hX.2.1 (i + 1) (by omega)
        simp only [Nat.add_sub_cancel, hh.1, hh2.1] at *
        refine wm_Leq ?_ (ih (i + 1) (by omega))
        rcases Decidable.em (X.2 1 i = X.2 1 (i + 1)) with hq | hq
        · first | exact absurd hq.symm h1 | (simp [waS, if_pos hq]; done)
        · first | exact absurd h1.symm hq | (simp [waS, if_neg hq]; done)
      · refine wm_iconst (q := 31) 1 hg dX5_walls_30 rfl (by decide) ?_
        refine wm_goto (q := 35) hg dX5_walls_31 (by decide) ?_
        refine wm_iadd (q := 36) hg dX5_walls_35 rfl ?_
        refine wm_istore_n (q := 37) (i := 1) (L' := [(0, _), (1, _), (2, _)]) hg dX5_walls_36 rfl rfl rfl rfl ?_
        refine wm_iinc (q := 40) (L' := [(0, _), (1, _), (2, _)]) (nI ((i + 1) + 1)) hg dX5_walls_37 rfl rfl (nadd rfl rfl) rfl rfl ?_
        refine wm_goto (q := 4) hg dX5_walls_40 (by decide) ?_
        have hh := hX.2.1 i (by omega)
        have hh2 := hX.2.1 (i + 1) (by omega)
        simp only [Nat.add_sub_cancel, hh.1, hh2.1] at *
        refine wm_Leq ?_ (ih (i + 1) (by omega))
        rcases Decidable.em (X.2 1 i = X.2 1 (i + 1)) with hq | hq
        · first | exact absurd hq.symm h1 | (simp [waS, if_pos hq]; done)
        · first | exact absurd h1.symm hq | (simp [waS, if_neg hq]; done)
set_option maxRecDepth 100000 in
set_option maxHeartbeats 4000000 in
theorem c_X5_held {Γ : GT} {M : Mem} {R : OV} {X : OV} (hz : ok10 X) (hX : rwC (R.2 0) X) : Ct Γ yX5_held cX5_held 3 (some .int) 0 [.ref (ad Γ 5 0 0)] (sR M R) (some (.int (heS X (szN X)))) (sR M R) := by
  refine ct_of (by decide) (Nat.le_of_ble_eq_true rfl) (fun K hg hr => ?_)
  show WM Γ K _ [(0, _)] 0 []
  have hz2 := hz.2
  have hw0 : R.2 0 0 = nI (szN X) := hX.1.trans hz.1
  refine wm_iconst (q := 1) 0 hg dX5_held_0 rfl (by decide) ?_
  refine wm_istore_n (q := 2) (i := 1) (L' := [(0, _), (1, _)]) hg dX5_held_1 rfl rfl rfl rfl ?_
  refine wm_iconst (q := 3) 0 hg dX5_held_2 rfl (by decide) ?_
  refine wm_istore_n (q := 4) (i := 2) (L' := [(0, _), (1, _), (2, _)]) hg dX5_held_3 rfl rfl rfl rfl ?_
  suffices hloop : ∀ (n i : Nat), i + n = (szN X) → WM Γ K (sR M R) [(0, .ref (ad Γ 5 0 0)), (1, .int (heS X i)), (2, .int (nI i))] 4 [] from hloop (szN X) 0 (by omega)
  intro n
  induction n with
  | zero =>
    intro i hi 
    refine wm_iload_n (q := 5) (i := 2) hg dX5_held_4 rfl rfl rfl ?_
    refine wm_aload_n (q := 6) (i := 0) hg dX5_held_5 rfl rfl rfl ?_
    refine wm_get (q := 9) hg dX5_held_6 rfl fl_X5_7 (by first | assumption | decide | omega | (simp only [nO]; omega)) rfl ?_
    refine wm_iconst (q := 10) 0 hg dX5_held_9 rfl (by decide) ?_
    refine wm_rload (q := 11) 0 hg dX5_held_10 rfl rfl (rfl : (0 : Int32) = nI 0) (by simp only [alen]; omega) ?_
    refine wm_icmp_ge (q := 32) (q2 := 14) hg dX5_held_11 (by decide) rfl (fun hb => ?_) (fun hb => ?_)
    · refine wm_iload_n (q := 33) (i := 1) hg dX5_held_32 rfl rfl rfl ?_
      exact wm_iret hg hr dX5_held_33 (by rw [show i = szN X from hi]) (rfl)
    · exact absurd (lpLe hw0 (by omega) (by omega)) hb
  | succ n ih =>
    intro i hi 
    refine wm_iload_n (q := 5) (i := 2) hg dX5_held_4 rfl rfl rfl ?_
    refine wm_aload_n (q := 6) (i := 0) hg dX5_held_5 rfl rfl rfl ?_
    refine wm_get (q := 9) hg dX5_held_6 rfl fl_X5_7 (by first | assumption | decide | omega | (simp only [nO]; omega)) rfl ?_
    refine wm_iconst (q := 10) 0 hg dX5_held_9 rfl (by decide) ?_
    refine wm_rload (q := 11) 0 hg dX5_held_10 rfl rfl (rfl : (0 : Int32) = nI 0) (by simp only [alen]; omega) ?_
    refine wm_icmp_ge (q := 32) (q2 := 14) hg dX5_held_11 (by decide) rfl (fun hb => ?_) (fun hb => ?_)
    · exact absurd hb (lpLt hw0 (by omega) (by omega))
    · refine wm_iload_n (q := 15) (i := 1) hg dX5_held_14 rfl rfl rfl ?_
      refine wm_aload_n (q := 16) (i := 0) hg dX5_held_15 rfl rfl rfl ?_
      refine wm_get (q := 19) hg dX5_held_16 rfl fl_X5_7 (by first | assumption | decide | omega | (simp only [nO]; omega)) rfl ?_
      refine wm_bipush (q := 21) 11 hg dX5_held_19 rfl (by decide) ?_
      refine wm_iload_n (q := 22) (i := 2) hg dX5_held_21 rfl rfl rfl ?_
      refine wm_iadd (q := 23) hg dX5_held_22 rfl ?_
      refine wm_rload (q := 24) (11 + i) hg dX5_held_23 rfl rfl (nadd (a := 11) (b := i) (rfl : (11 : Int32) = nI 11) rfl) (by simp only [alen]; omega) ?_
      refine wm_iadd (q := 25) hg dX5_held_24 rfl ?_
      refine wm_istore_n (q := 26) (i := 1) (L' := [(0, _), (1, _), (2, _)]) hg dX5_held_25 rfl rfl rfl rfl ?_
      refine wm_iinc (q := 29) (L' := [(0, _), (1, _), (2, _)]) (nI (i + 1)) hg dX5_held_26 rfl rfl (nadd rfl rfl) rfl rfl ?_
      refine wm_goto (q := 4) hg dX5_held_29 (by decide) ?_
      have hh := hX.2.1 i (by omega)
      refine wm_Leq ?_ (ih (i + 1) (by omega))
      simp only [heS, hh.2.1]
set_option maxRecDepth 100000 in
set_option maxHeartbeats 4000000 in
theorem c_X5_pointsTo {Γ : GT} {M : Mem} {R : OV} {X : OV} {s : Int32} (hz : ok10 X) (hX : rwC (R.2 0) X) : Ct Γ yX5_pointsTo cX5_pointsTo 4 (some .int) 1 [.ref (ad Γ 5 0 0), .int s] (sR M R) (some (.int (ptS X s (szN X)))) (sR M R) := by
  refine ct_of (by decide) (Nat.le_of_ble_eq_true rfl) (fun K hg hr => ?_)
  show WM Γ K _ [(0, _), (1, _)] 0 []
  have hz2 := hz.2
  have hw0 : R.2 0 0 = nI (szN X) := hX.1.trans hz.1
  refine wm_iconst (q := 1) 0 hg dX5_pointsTo_0 rfl (by decide) ?_
  refine wm_istore_n (q := 2) (i := 2) (L' := [(0, _), (1, _), (2, _)]) hg dX5_pointsTo_1 rfl rfl rfl rfl ?_
  refine wm_iconst (q := 3) 0 hg dX5_pointsTo_2 rfl (by decide) ?_
  refine wm_istore_n (q := 4) (i := 3) (L' := [(0, _), (1, _), (2, _), (3, _)]) hg dX5_pointsTo_3 rfl rfl rfl rfl ?_
  suffices hloop : ∀ (n i : Nat), i + n = (szN X) → WM Γ K (sR M R) [(0, .ref (ad Γ 5 0 0)), (1, .int s), (2, .int (ptS X s i)), (3, .int (nI i))] 4 [] from hloop (szN X) 0 (by omega)
  intro n
  induction n with
  | zero =>
    intro i hi 
    refine wm_iload_n (q := 5) (i := 3) hg dX5_pointsTo_4 rfl rfl rfl ?_
    refine wm_aload_n (q := 6) (i := 0) hg dX5_pointsTo_5 rfl rfl rfl ?_
    refine wm_get (q := 9) hg dX5_pointsTo_6 rfl fl_X5_7 (by first | assumption | decide | omega | (simp only [nO]; omega)) rfl ?_
    refine wm_iconst (q := 10) 0 hg dX5_pointsTo_9 rfl (by decide) ?_
    refine wm_rload (q := 11) 0 hg dX5_pointsTo_10 rfl rfl (rfl : (0 : Int32) = nI 0) (by simp only [alen]; omega) ?_
    refine wm_icmp_ge (q := 33) (q2 := 14) hg dX5_pointsTo_11 (by decide) rfl (fun hb => ?_) (fun hb => ?_)
    · refine wm_iload_n (q := 34) (i := 2) hg dX5_pointsTo_33 rfl rfl rfl ?_
      exact wm_iret hg hr dX5_pointsTo_34 (by rw [show i = szN X from hi]) (rfl)
    · exact absurd (lpLe hw0 (by omega) (by omega)) hb
  | succ n ih =>
    intro i hi 
    refine wm_iload_n (q := 5) (i := 3) hg dX5_pointsTo_4 rfl rfl rfl ?_
    refine wm_aload_n (q := 6) (i := 0) hg dX5_pointsTo_5 rfl rfl rfl ?_
    refine wm_get (q := 9) hg dX5_pointsTo_6 rfl fl_X5_7 (by first | assumption | decide | omega | (simp only [nO]; omega)) rfl ?_
    refine wm_iconst (q := 10) 0 hg dX5_pointsTo_9 rfl (by decide) ?_
    refine wm_rload (q := 11) 0 hg dX5_pointsTo_10 rfl rfl (rfl : (0 : Int32) = nI 0) (by simp only [alen]; omega) ?_
    refine wm_icmp_ge (q := 33) (q2 := 14) hg dX5_pointsTo_11 (by decide) rfl (fun hb => ?_) (fun hb => ?_)
    · exact absurd hb (lpLt hw0 (by omega) (by omega))
    · refine wm_iload_n (q := 15) (i := 2) hg dX5_pointsTo_14 rfl rfl rfl ?_
      refine wm_aload_n (q := 16) (i := 0) hg dX5_pointsTo_15 rfl rfl rfl ?_
      refine wm_iload_n (q := 17) (i := 3) hg dX5_pointsTo_16 rfl rfl rfl ?_
      refine wm_callV1 (q := 20) hg dX5_pointsTo_17 rfl lk_X5_68 (by first | decide | omega) (c_X5_angle rfl (by omega)) (by first | assumption | decide | omega | (simp only [nO]; omega)) ⟨rfl, by decide⟩ rfl rfl (Nat.le_of_ble_eq_true rfl) ?_
      refine wm_iload_n (q := 21) (i := 1) hg dX5_pointsTo_20 rfl rfl rfl ?_
      refine wm_isub (q := 22) hg dX5_pointsTo_21 rfl ?_
      refine wm_callS1 (q := 25) hg dX5_pointsTo_22 rfl lk_X5_60 (by first | decide | omega) c_X5_c rfl rfl (Nat.le_of_ble_eq_true rfl) ?_
      refine wm_iadd (q := 26) hg dX5_pointsTo_25 rfl ?_
      refine wm_istore_n (q := 27) (i := 2) (L' := [(0, _), (1, _), (2, _), (3, _)]) hg dX5_pointsTo_26 rfl rfl rfl rfl ?_
      refine wm_iinc (q := 30) (L' := [(0, _), (1, _), (2, _), (3, _)]) (nI (i + 1)) hg dX5_pointsTo_27 rfl rfl (nadd rfl rfl) rfl rfl ?_
      refine wm_goto (q := 4) hg dX5_pointsTo_30 (by decide) ?_
      have hh := hX.2.1 i (by omega)
      refine wm_Leq ?_ (ih (i + 1) (by omega))
      simp only [ptS, hh.1]
