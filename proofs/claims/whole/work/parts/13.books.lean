/-! ===== copies of chains and books; the books ===== -/
set_option maxRecDepth 100000 in
set_option maxHeartbeats 4000000 in
theorem c_X1_takeAngles {Γ : GT} {M : Mem} {c o : Nat} (hc : c < 15) (ho : o < 15) : Ct Γ yX1_takeAngles cX1_takeAngles 2 none 1 [.ref (ad Γ 1 c 0), .ref (ad Γ 1 o 0)] M none (sO M 1 c (oA (M.1 1 c) 1 ((M.1 1 o).2 1))) := by
  refine ct_of (by decide) (Nat.le_of_ble_eq_true rfl) (fun K hg hr => ?_)
  show WM Γ K _ [(0, _), (1, _)] 0 []
  refine wm_aload_n (q := 1) (i := 1) hg dX1_takeAngles_0 rfl rfl rfl ?_
  refine wm_get (q := 4) hg dX1_takeAngles_1 rfl fl_X1_15 (by first | assumption | decide | omega | (simp only [nO]; omega)) rfl ?_
  refine wm_iconst (q := 5) 0 hg dX1_takeAngles_4 rfl (by decide) ?_
  refine wm_aload_n (q := 6) (i := 0) hg dX1_takeAngles_5 rfl rfl rfl ?_
  refine wm_get (q := 9) hg dX1_takeAngles_6 rfl fl_X1_15 (by first | assumption | decide | omega | (simp only [nO]; omega)) rfl ?_
  refine wm_iconst (q := 10) 0 hg dX1_takeAngles_9 rfl (by decide) ?_
  refine wm_bipush (q := 12) 10 hg dX1_takeAngles_10 rfl (by decide) ?_
  refine wm_arraycopy (q := 15) 0 0 10 hg dX1_takeAngles_12 rfl ml_X1_51 (by decide) (by first | assumption | decide | omega | (simp only [nO]; omega)) rfl (by first | assumption | decide | omega | (simp only [nO]; omega)) rfl (rfl : (0 : Int32) = nI 0) (rfl : (0 : Int32) = nI 0) (rfl : (10 : Int32) = nI 10) (by simp only [alen]; omega) (by simp only [alen]; omega) (Nat.le_of_ble_eq_true rfl) ?_
  refine wm_meq (M' := (sO M 1 c (oA (M.1 1 c) 1 ((M.1 1 o).2 1)))) ?_ (wm_vret hg hr dX1_takeAngles_15 rfl)
  refine meq_sO (meq.rf M) ⟨fun j _ => rfl, fun s hs k hk => ?_, fun h => absurd h (by decide)⟩
  simp only [oA]
  by_cases h : s = 1
  · subst h; simp only [alen] at hk; rw [updA_same, updA_same, cpy0 hk]
  · rw [updA_ne _ _ h, updA_ne _ _ h]
set_option maxRecDepth 100000 in
set_option maxHeartbeats 4000000 in
theorem c_X1_takeMagnets {Γ : GT} {M : Mem} {c o : Nat} (hc : c < 15) (ho : o < 15) (hne : c ≠ o) : Ct Γ yX1_takeMagnets cX1_takeMagnets 2 none 2 [.ref (ad Γ 1 c 0), .ref (ad Γ 1 o 0)] M none (sO M 1 c (tmX (M.1 1 c) (M.1 1 o))) := by
  refine ct_of (by decide) (Nat.le_of_ble_eq_true rfl) (fun K hg hr => ?_)
  show WM Γ K _ [(0, _), (1, _)] 0 []
  refine wm_aload_n (q := 1) (i := 0) hg dX1_takeMagnets_0 rfl rfl rfl ?_
  refine wm_aload_n (q := 2) (i := 1) hg dX1_takeMagnets_1 rfl rfl rfl ?_
  refine wm_get (q := 5) hg dX1_takeMagnets_2 rfl fl_X1_9 (by first | assumption | decide | omega | (simp only [nO]; omega)) rfl ?_
  refine wm_put (q := 8) hg dX1_takeMagnets_5 rfl fl_X1_9 (by first | assumption | decide | omega | (simp only [nO]; omega)) rfl ?_
  refine wm_aload_n (q := 9) (i := 0) hg dX1_takeMagnets_8 rfl rfl rfl ?_
  refine wm_aload_n (q := 10) (i := 1) hg dX1_takeMagnets_9 rfl rfl rfl ?_
  refine wm_callV0 (q := 13) hg dX1_takeMagnets_10 rfl lk_X1_48 (by first | decide | omega) (c_X1_takeAngles (by first | assumption | decide | omega) (by first | assumption | decide | omega)) (by first | assumption | decide | omega | (simp only [nO]; omega)) ⟨rfl, by decide⟩ rfl rfl (Nat.le_of_ble_eq_true rfl) ?_
  refine wm_aload_n (q := 14) (i := 1) hg dX1_takeMagnets_13 rfl rfl rfl ?_
  refine wm_get (q := 17) hg dX1_takeMagnets_14 rfl fl_X1_19 (by first | assumption | decide | omega | (simp only [nO]; omega)) rfl ?_
  refine wm_iconst (q := 18) 0 hg dX1_takeMagnets_17 rfl (by decide) ?_
  refine wm_aload_n (q := 19) (i := 0) hg dX1_takeMagnets_18 rfl rfl rfl ?_
  refine wm_get (q := 22) hg dX1_takeMagnets_19 rfl fl_X1_19 (by first | assumption | decide | omega | (simp only [nO]; omega)) rfl ?_
  refine wm_iconst (q := 23) 0 hg dX1_takeMagnets_22 rfl (by decide) ?_
  refine wm_bipush (q := 25) 10 hg dX1_takeMagnets_23 rfl (by decide) ?_
  refine wm_arraycopy (q := 28) 0 0 10 hg dX1_takeMagnets_25 rfl ml_X1_51 (by decide) (by first | assumption | decide | omega | (simp only [nO]; omega)) rfl (by first | assumption | decide | omega | (simp only [nO]; omega)) rfl (rfl : (0 : Int32) = nI 0) (rfl : (0 : Int32) = nI 0) (rfl : (10 : Int32) = nI 10) (by simp only [alen]; omega) (by simp only [alen]; omega) (Nat.le_of_ble_eq_true rfl) ?_
  refine wm_aload_n (q := 29) (i := 1) hg dX1_takeMagnets_28 rfl rfl rfl ?_
  refine wm_get (q := 32) hg dX1_takeMagnets_29 rfl fl_X1_22 (by first | assumption | decide | omega | (simp only [nO]; omega)) rfl ?_
  refine wm_iconst (q := 33) 0 hg dX1_takeMagnets_32 rfl (by decide) ?_
  refine wm_aload_n (q := 34) (i := 0) hg dX1_takeMagnets_33 rfl rfl rfl ?_
  refine wm_get (q := 37) hg dX1_takeMagnets_34 rfl fl_X1_22 (by first | assumption | decide | omega | (simp only [nO]; omega)) rfl ?_
  refine wm_iconst (q := 38) 0 hg dX1_takeMagnets_37 rfl (by decide) ?_
  refine wm_bipush (q := 40) 10 hg dX1_takeMagnets_38 rfl (by decide) ?_
  refine wm_arraycopy (q := 43) 0 0 10 hg dX1_takeMagnets_40 rfl ml_X1_51 (by decide) (by first | assumption | decide | omega | (simp only [nO]; omega)) rfl (by first | assumption | decide | omega | (simp only [nO]; omega)) rfl (rfl : (0 : Int32) = nI 0) (rfl : (0 : Int32) = nI 0) (rfl : (10 : Int32) = nI 10) (by simp only [alen]; omega) (by simp only [alen]; omega) (Nat.le_of_ble_eq_true rfl) ?_
  refine wm_meq (M' := (sO M 1 c (tmX (M.1 1 c) (M.1 1 o)))) ?_ (wm_vret hg hr dX1_takeMagnets_43 rfl)
  have hne2 := Ne.symm hne
  simp only [sO_same, sO_sO, sO_idx M 1 1 _ hne2]
  refine meq_sO (meq.rf M) ⟨fun j _ => by simp [tmX, sO_same, sO_sO, oI, oA, updA_same, updA_ne, updA_updA, upd_same, upd_ne, sO_idx, hne2], fun s hs k hk => ?_, fun h => absurd h (by decide)⟩
  simp only [alen] at hk
  simp only [isA, Bool.or_eq_true, Nat.beq_eq] at hs
  rcases hs with (rfl | rfl) | rfl <;> simp [tmX, sO_same, sO_sO, oI, oA, updA_same, updA_ne, updA_updA, upd_same, upd_ne, sO_idx, hne2, cpy0 hk]
set_option maxRecDepth 100000 in
set_option maxHeartbeats 4000000 in
theorem c_X1_takeFrom {Γ : GT} {M : Mem} {c o : Nat} (hc : c < 15) (ho : o < 15) (hne : c ≠ o) : Ct Γ yX1_takeFrom cX1_takeFrom 2 none 3 [.ref (ad Γ 1 c 0), .ref (ad Γ 1 o 0)] M none (sO M 1 c (M.1 1 o)) := by
  refine ct_of (by decide) (Nat.le_of_ble_eq_true rfl) (fun K hg hr => ?_)
  show WM Γ K _ [(0, _), (1, _)] 0 []
  refine wm_aload_n (q := 1) (i := 0) hg dX1_takeFrom_0 rfl rfl rfl ?_
  refine wm_aload_n (q := 2) (i := 1) hg dX1_takeFrom_1 rfl rfl rfl ?_
  refine wm_callV0 (q := 5) hg dX1_takeFrom_2 rfl lk_X1_44 (by first | decide | omega) (c_X1_takeMagnets (by first | assumption | decide | omega) (by first | assumption | decide | omega) (by first | assumption | decide | omega)) (by first | assumption | decide | omega | (simp only [nO]; omega)) ⟨rfl, by decide⟩ rfl rfl (Nat.le_of_ble_eq_true rfl) ?_
  refine wm_aload_n (q := 6) (i := 0) hg dX1_takeFrom_5 rfl rfl rfl ?_
  refine wm_aload_n (q := 7) (i := 1) hg dX1_takeFrom_6 rfl rfl rfl ?_
  refine wm_get (q := 10) hg dX1_takeFrom_7 rfl fl_X1_25 (by first | assumption | decide | omega | (simp only [nO]; omega)) rfl ?_
  refine wm_put (q := 13) hg dX1_takeFrom_10 rfl fl_X1_25 (by first | assumption | decide | omega | (simp only [nO]; omega)) rfl ?_
  refine wm_aload_n (q := 14) (i := 0) hg dX1_takeFrom_13 rfl rfl rfl ?_
  refine wm_aload_n (q := 15) (i := 1) hg dX1_takeFrom_14 rfl rfl rfl ?_
  refine wm_get (q := 18) hg dX1_takeFrom_15 rfl fl_X1_28 (by first | assumption | decide | omega | (simp only [nO]; omega)) rfl ?_
  refine wm_put (q := 21) hg dX1_takeFrom_18 rfl fl_X1_28 (by first | assumption | decide | omega | (simp only [nO]; omega)) rfl ?_
  refine wm_aload_n (q := 22) (i := 0) hg dX1_takeFrom_21 rfl rfl rfl ?_
  refine wm_aload_n (q := 23) (i := 1) hg dX1_takeFrom_22 rfl rfl rfl ?_
  refine wm_get (q := 26) hg dX1_takeFrom_23 rfl fl_X1_31 (by first | assumption | decide | omega | (simp only [nO]; omega)) rfl ?_
  refine wm_put (q := 29) hg dX1_takeFrom_26 rfl fl_X1_31 (by first | assumption | decide | omega | (simp only [nO]; omega)) rfl ?_
  refine wm_aload_n (q := 30) (i := 0) hg dX1_takeFrom_29 rfl rfl rfl ?_
  refine wm_aload_n (q := 31) (i := 1) hg dX1_takeFrom_30 rfl rfl rfl ?_
  refine wm_get (q := 34) hg dX1_takeFrom_31 rfl fl_X1_34 (by first | assumption | decide | omega | (simp only [nO]; omega)) rfl ?_
  refine wm_put (q := 37) hg dX1_takeFrom_34 rfl fl_X1_34 (by first | assumption | decide | omega | (simp only [nO]; omega)) rfl ?_
  refine wm_meq (M' := (sO M 1 c (M.1 1 o))) ?_ (wm_vret hg hr dX1_takeFrom_37 rfl)
  have hne2 := Ne.symm hne
  simp only [sO_same, sO_sO, sO_idx M 1 1 _ hne2]
  refine meq_sO (meq.rf M) ⟨fun j hj => ?_, fun s hs k hk => ?_, fun h => absurd h (by decide)⟩
  · simp only [isI, Bool.or_eq_true, Nat.beq_eq] at hj
    rcases hj with (((rfl | rfl) | rfl) | rfl) | rfl <;> simp [tmX, sO_same, sO_sO, oI, oA, updA_same, updA_ne, updA_updA, upd_same, upd_ne, sO_idx, hne2]
  · simp only [isA, Bool.or_eq_true, Nat.beq_eq] at hs
    rcases hs with (rfl | rfl) | rfl <;> simp [tmX, sO_same, sO_sO, oI, oA, updA_same, updA_ne, updA_updA, upd_same, upd_ne, sO_idx, hne2]
set_option maxRecDepth 100000 in
set_option maxHeartbeats 4000000 in
theorem c_X0_clear {Γ : GT} {M : Mem} {c : Nat} (hc : c < 11) : Ct Γ yX0_clear cX0_clear 1 none 0 [.ref (ad Γ 0 c 0)] M none (sO M 0 c (clX (M.1 0 c))) := by
  refine ct_of (by decide) (Nat.le_of_ble_eq_true rfl) (fun K hg hr => ?_)
  show WM Γ K _ [(0, _)] 0 []
  refine wm_aload_n (q := 1) (i := 0) hg dX0_clear_0 rfl rfl rfl ?_
  refine wm_iconst (q := 2) 0 hg dX0_clear_1 rfl (by decide) ?_
  refine wm_put (q := 5) hg dX0_clear_2 rfl fl_X0_9 (by first | assumption | decide | omega | (simp only [nO]; omega)) rfl ?_
  refine wm_aload_n (q := 6) (i := 0) hg dX0_clear_5 rfl rfl rfl ?_
  refine wm_iconst (q := 7) 0 hg dX0_clear_6 rfl (by decide) ?_
  refine wm_put (q := 10) hg dX0_clear_7 rfl fl_X0_15 (by first | assumption | decide | omega | (simp only [nO]; omega)) rfl ?_
  refine wm_aload_n (q := 11) (i := 0) hg dX0_clear_10 rfl rfl rfl ?_
  refine wm_iconst (q := 12) 0 hg dX0_clear_11 rfl (by decide) ?_
  refine wm_put (q := 15) hg dX0_clear_12 rfl fl_X0_18 (by first | assumption | decide | omega | (simp only [nO]; omega)) rfl ?_
  refine wm_aload_n (q := 16) (i := 0) hg dX0_clear_15 rfl rfl rfl ?_
  refine wm_iconst (q := 17) 0 hg dX0_clear_16 rfl (by decide) ?_
  refine wm_put (q := 20) hg dX0_clear_17 rfl fl_X0_21 (by first | assumption | decide | omega | (simp only [nO]; omega)) rfl ?_
  refine wm_aload_n (q := 21) (i := 0) hg dX0_clear_20 rfl rfl rfl ?_
  refine wm_iconst (q := 22) 0 hg dX0_clear_21 rfl (by decide) ?_
  refine wm_put (q := 25) hg dX0_clear_22 rfl fl_X0_24 (by first | assumption | decide | omega | (simp only [nO]; omega)) rfl ?_
  exact wm_vret hg hr dX0_clear_25 (by simp [clX, sO_same, sO_sO, oI, oA, updA_same, updA_ne, updA_updA, upd_same, upd_ne])
set_option maxRecDepth 100000 in
set_option maxHeartbeats 4000000 in
theorem c_X0_takeFrom {Γ : GT} {M : Mem} {c o : Nat} (hc : c < 11) (ho : o < 11) (hne : c ≠ o) : Ct Γ yX0_takeFrom cX0_takeFrom 2 none 1 [.ref (ad Γ 0 c 0), .ref (ad Γ 0 o 0)] M none (sO M 0 c (M.1 0 o)) := by
  refine ct_of (by decide) (Nat.le_of_ble_eq_true rfl) (fun K hg hr => ?_)
  show WM Γ K _ [(0, _), (1, _)] 0 []
  refine wm_aload_n (q := 1) (i := 0) hg dX0_takeFrom_0 rfl rfl rfl ?_
  refine wm_aload_n (q := 2) (i := 1) hg dX0_takeFrom_1 rfl rfl rfl ?_
  refine wm_get (q := 5) hg dX0_takeFrom_2 rfl fl_X0_9 (by first | assumption | decide | omega | (simp only [nO]; omega)) rfl ?_
  refine wm_put (q := 8) hg dX0_takeFrom_5 rfl fl_X0_9 (by first | assumption | decide | omega | (simp only [nO]; omega)) rfl ?_
  refine wm_aload_n (q := 9) (i := 0) hg dX0_takeFrom_8 rfl rfl rfl ?_
  refine wm_aload_n (q := 10) (i := 1) hg dX0_takeFrom_9 rfl rfl rfl ?_
  refine wm_get (q := 13) hg dX0_takeFrom_10 rfl fl_X0_15 (by first | assumption | decide | omega | (simp only [nO]; omega)) rfl ?_
  refine wm_put (q := 16) hg dX0_takeFrom_13 rfl fl_X0_15 (by first | assumption | decide | omega | (simp only [nO]; omega)) rfl ?_
  refine wm_aload_n (q := 17) (i := 0) hg dX0_takeFrom_16 rfl rfl rfl ?_
  refine wm_aload_n (q := 18) (i := 1) hg dX0_takeFrom_17 rfl rfl rfl ?_
  refine wm_get (q := 21) hg dX0_takeFrom_18 rfl fl_X0_18 (by first | assumption | decide | omega | (simp only [nO]; omega)) rfl ?_
  refine wm_put (q := 24) hg dX0_takeFrom_21 rfl fl_X0_18 (by first | assumption | decide | omega | (simp only [nO]; omega)) rfl ?_
  refine wm_aload_n (q := 25) (i := 0) hg dX0_takeFrom_24 rfl rfl rfl ?_
  refine wm_aload_n (q := 26) (i := 1) hg dX0_takeFrom_25 rfl rfl rfl ?_
  refine wm_get (q := 29) hg dX0_takeFrom_26 rfl fl_X0_21 (by first | assumption | decide | omega | (simp only [nO]; omega)) rfl ?_
  refine wm_put (q := 32) hg dX0_takeFrom_29 rfl fl_X0_21 (by first | assumption | decide | omega | (simp only [nO]; omega)) rfl ?_
  refine wm_aload_n (q := 33) (i := 0) hg dX0_takeFrom_32 rfl rfl rfl ?_
  refine wm_aload_n (q := 34) (i := 1) hg dX0_takeFrom_33 rfl rfl rfl ?_
  refine wm_get (q := 37) hg dX0_takeFrom_34 rfl fl_X0_24 (by first | assumption | decide | omega | (simp only [nO]; omega)) rfl ?_
  refine wm_put (q := 40) hg dX0_takeFrom_37 rfl fl_X0_24 (by first | assumption | decide | omega | (simp only [nO]; omega)) rfl ?_
  refine wm_aload_n (q := 41) (i := 1) hg dX0_takeFrom_40 rfl rfl rfl ?_
  refine wm_get (q := 44) hg dX0_takeFrom_41 rfl fl_X0_27 (by first | assumption | decide | omega | (simp only [nO]; omega)) rfl ?_
  refine wm_iconst (q := 45) 0 hg dX0_takeFrom_44 rfl (by decide) ?_
  refine wm_aload_n (q := 46) (i := 0) hg dX0_takeFrom_45 rfl rfl rfl ?_
  refine wm_get (q := 49) hg dX0_takeFrom_46 rfl fl_X0_27 (by first | assumption | decide | omega | (simp only [nO]; omega)) rfl ?_
  refine wm_iconst (q := 50) 0 hg dX0_takeFrom_49 rfl (by decide) ?_
  refine wm_bipush (q := 52) 30 hg dX0_takeFrom_50 rfl (by decide) ?_
  refine wm_arraycopy (q := 55) 0 0 30 hg dX0_takeFrom_52 rfl ml_X0_37 (by decide) (by first | assumption | decide | omega | (simp only [nO]; omega)) rfl (by first | assumption | decide | omega | (simp only [nO]; omega)) rfl (rfl : (0 : Int32) = nI 0) (rfl : (0 : Int32) = nI 0) (rfl : (30 : Int32) = nI 30) (by simp only [alen]; omega) (by simp only [alen]; omega) (Nat.le_of_ble_eq_true rfl) ?_
  refine wm_aload_n (q := 56) (i := 1) hg dX0_takeFrom_55 rfl rfl rfl ?_
  refine wm_get (q := 59) hg dX0_takeFrom_56 rfl fl_X0_31 (by first | assumption | decide | omega | (simp only [nO]; omega)) rfl ?_
  refine wm_iconst (q := 60) 0 hg dX0_takeFrom_59 rfl (by decide) ?_
  refine wm_aload_n (q := 61) (i := 0) hg dX0_takeFrom_60 rfl rfl rfl ?_
  refine wm_get (q := 64) hg dX0_takeFrom_61 rfl fl_X0_31 (by first | assumption | decide | omega | (simp only [nO]; omega)) rfl ?_
  refine wm_iconst (q := 65) 0 hg dX0_takeFrom_64 rfl (by decide) ?_
  refine wm_bipush (q := 67) 30 hg dX0_takeFrom_65 rfl (by decide) ?_
  refine wm_arraycopy (q := 70) 0 0 30 hg dX0_takeFrom_67 rfl ml_X0_37 (by decide) (by first | assumption | decide | omega | (simp only [nO]; omega)) rfl (by first | assumption | decide | omega | (simp only [nO]; omega)) rfl (rfl : (0 : Int32) = nI 0) (rfl : (0 : Int32) = nI 0) (rfl : (30 : Int32) = nI 30) (by simp only [alen]; omega) (by simp only [alen]; omega) (Nat.le_of_ble_eq_true rfl) ?_
  refine wm_aload_n (q := 71) (i := 1) hg dX0_takeFrom_70 rfl rfl rfl ?_
  refine wm_get (q := 74) hg dX0_takeFrom_71 rfl fl_X0_34 (by first | assumption | decide | omega | (simp only [nO]; omega)) rfl ?_
  refine wm_iconst (q := 75) 0 hg dX0_takeFrom_74 rfl (by decide) ?_
  refine wm_aload_n (q := 76) (i := 0) hg dX0_takeFrom_75 rfl rfl rfl ?_
  refine wm_get (q := 79) hg dX0_takeFrom_76 rfl fl_X0_34 (by first | assumption | decide | omega | (simp only [nO]; omega)) rfl ?_
  refine wm_iconst (q := 80) 0 hg dX0_takeFrom_79 rfl (by decide) ?_
  refine wm_bipush (q := 82) 30 hg dX0_takeFrom_80 rfl (by decide) ?_
  refine wm_arraycopy (q := 85) 0 0 30 hg dX0_takeFrom_82 rfl ml_X0_37 (by decide) (by first | assumption | decide | omega | (simp only [nO]; omega)) rfl (by first | assumption | decide | omega | (simp only [nO]; omega)) rfl (rfl : (0 : Int32) = nI 0) (rfl : (0 : Int32) = nI 0) (rfl : (30 : Int32) = nI 30) (by simp only [alen]; omega) (by simp only [alen]; omega) (Nat.le_of_ble_eq_true rfl) ?_
  refine wm_meq (M' := (sO M 0 c (M.1 0 o))) ?_ (wm_vret hg hr dX0_takeFrom_85 rfl)
  have hne2 := Ne.symm hne
  simp only [sO_same, sO_sO, sO_idx M 0 0 _ hne2]
  refine meq_sO (meq.rf M) ⟨fun j hj => ?_, fun s hs k hk => ?_, fun h => absurd h (by decide)⟩
  · have hj2 : j < 5 := Nat.blt_eq.mp hj
    rcases (show j = 0 ∨ j = 1 ∨ j = 2 ∨ j = 3 ∨ j = 4 by omega) with rfl | rfl | rfl | rfl | rfl <;> simp [sO_same, sO_sO, oI, oA, updA_same, updA_ne, updA_updA, upd_same, upd_ne, sO_idx, hne2]
  · simp only [isA, Bool.or_eq_true, Nat.beq_eq] at hs
    simp only [alen] at hk
    rcases hs with (rfl | rfl) | rfl <;> simp [sO_same, sO_sO, oI, oA, updA_same, updA_ne, updA_updA, upd_same, upd_ne, sO_idx, hne2, cpy0 hk]
set_option maxRecDepth 100000 in
set_option maxHeartbeats 4000000 in
theorem c_X0_dropOldestTurn {Γ : GT} {M : Mem} {c : Nat} (hc : c < 11) : Ct Γ yX0_dropOldestTurn cX0_dropOldestTurn 1 none 1 [.ref (ad Γ 0 c 0)] M none (sO M 0 c (doX (M.1 0 c))) := by
  refine ct_of (by decide) (Nat.le_of_ble_eq_true rfl) (fun K hg hr => ?_)
  show WM Γ K _ [(0, _)] 0 []
  refine wm_aload_n (q := 1) (i := 0) hg dX0_dropOldestTurn_0 rfl rfl rfl ?_
  refine wm_bipush (q := 3) 29 hg dX0_dropOldestTurn_1 rfl (by decide) ?_
  refine wm_put (q := 6) hg dX0_dropOldestTurn_3 rfl fl_X0_24 (by first | assumption | decide | omega | (simp only [nO]; omega)) rfl ?_
  refine wm_aload_n (q := 7) (i := 0) hg dX0_dropOldestTurn_6 rfl rfl rfl ?_
  refine wm_get (q := 10) hg dX0_dropOldestTurn_7 rfl fl_X0_27 (by first | assumption | decide | omega | (simp only [nO]; omega)) rfl ?_
  refine wm_iconst (q := 11) 1 hg dX0_dropOldestTurn_10 rfl (by decide) ?_
  refine wm_aload_n (q := 12) (i := 0) hg dX0_dropOldestTurn_11 rfl rfl rfl ?_
  refine wm_get (q := 15) hg dX0_dropOldestTurn_12 rfl fl_X0_27 (by first | assumption | decide | omega | (simp only [nO]; omega)) rfl ?_
  refine wm_iconst (q := 16) 0 hg dX0_dropOldestTurn_15 rfl (by decide) ?_
  refine wm_aload_n (q := 17) (i := 0) hg dX0_dropOldestTurn_16 rfl rfl rfl ?_
  refine wm_get (q := 20) hg dX0_dropOldestTurn_17 rfl fl_X0_24 (by first | assumption | decide | omega | (simp only [nO]; omega)) rfl ?_
  refine wm_arraycopy (q := 23) 1 0 29 hg dX0_dropOldestTurn_20 rfl ml_X0_37 (by decide) (by first | assumption | decide | omega | (simp only [nO]; omega)) rfl (by first | assumption | decide | omega | (simp only [nO]; omega)) rfl rfl rfl (by simp [sO_same, sO_sO, oI, oA, updA_same, updA_ne, updA_updA, upd_same, upd_ne]; rfl) (by simp only [alen]; omega) (by simp only [alen]; omega) (Nat.le_of_ble_eq_true rfl) ?_
  refine wm_aload_n (q := 24) (i := 0) hg dX0_dropOldestTurn_23 rfl rfl rfl ?_
  refine wm_get (q := 27) hg dX0_dropOldestTurn_24 rfl fl_X0_31 (by first | assumption | decide | omega | (simp only [nO]; omega)) rfl ?_
  refine wm_iconst (q := 28) 1 hg dX0_dropOldestTurn_27 rfl (by decide) ?_
  refine wm_aload_n (q := 29) (i := 0) hg dX0_dropOldestTurn_28 rfl rfl rfl ?_
  refine wm_get (q := 32) hg dX0_dropOldestTurn_29 rfl fl_X0_31 (by first | assumption | decide | omega | (simp only [nO]; omega)) rfl ?_
  refine wm_iconst (q := 33) 0 hg dX0_dropOldestTurn_32 rfl (by decide) ?_
  refine wm_aload_n (q := 34) (i := 0) hg dX0_dropOldestTurn_33 rfl rfl rfl ?_
  refine wm_get (q := 37) hg dX0_dropOldestTurn_34 rfl fl_X0_24 (by first | assumption | decide | omega | (simp only [nO]; omega)) rfl ?_
  refine wm_arraycopy (q := 40) 1 0 29 hg dX0_dropOldestTurn_37 rfl ml_X0_37 (by decide) (by first | assumption | decide | omega | (simp only [nO]; omega)) rfl (by first | assumption | decide | omega | (simp only [nO]; omega)) rfl rfl rfl (by simp [sO_same, sO_sO, oI, oA, updA_same, updA_ne, updA_updA, upd_same, upd_ne]; rfl) (by simp only [alen]; omega) (by simp only [alen]; omega) (Nat.le_of_ble_eq_true rfl) ?_
  refine wm_aload_n (q := 41) (i := 0) hg dX0_dropOldestTurn_40 rfl rfl rfl ?_
  refine wm_get (q := 44) hg dX0_dropOldestTurn_41 rfl fl_X0_34 (by first | assumption | decide | omega | (simp only [nO]; omega)) rfl ?_
  refine wm_iconst (q := 45) 1 hg dX0_dropOldestTurn_44 rfl (by decide) ?_
  refine wm_aload_n (q := 46) (i := 0) hg dX0_dropOldestTurn_45 rfl rfl rfl ?_
  refine wm_get (q := 49) hg dX0_dropOldestTurn_46 rfl fl_X0_34 (by first | assumption | decide | omega | (simp only [nO]; omega)) rfl ?_
  refine wm_iconst (q := 50) 0 hg dX0_dropOldestTurn_49 rfl (by decide) ?_
  refine wm_aload_n (q := 51) (i := 0) hg dX0_dropOldestTurn_50 rfl rfl rfl ?_
  refine wm_get (q := 54) hg dX0_dropOldestTurn_51 rfl fl_X0_24 (by first | assumption | decide | omega | (simp only [nO]; omega)) rfl ?_
  refine wm_arraycopy (q := 57) 1 0 29 hg dX0_dropOldestTurn_54 rfl ml_X0_37 (by decide) (by first | assumption | decide | omega | (simp only [nO]; omega)) rfl (by first | assumption | decide | omega | (simp only [nO]; omega)) rfl rfl rfl (by simp [sO_same, sO_sO, oI, oA, updA_same, updA_ne, updA_updA, upd_same, upd_ne]; rfl) (by simp only [alen]; omega) (by simp only [alen]; omega) (Nat.le_of_ble_eq_true rfl) ?_
  refine wm_meq (M' := (sO M 0 c (doX (M.1 0 c)))) ?_ (wm_vret hg hr dX0_dropOldestTurn_57 rfl)
  simp only [sO_same, sO_sO]
  refine meq_sO (meq.rf M) ⟨fun j hj => by simp [doX, sO_same, sO_sO, oI, oA, updA_same, updA_ne, updA_updA, upd_same, upd_ne], fun s hs k hk => ?_, fun h => absurd h (by decide)⟩
  simp only [isA, Bool.or_eq_true, Nat.beq_eq] at hs
  rcases hs with (rfl | rfl) | rfl <;> simp [doX, shF, va_cpy, sO_same, sO_sO, oI, oA, updA_same, updA_ne, updA_updA, upd_same, upd_ne]
set_option maxRecDepth 100000 in
set_option maxHeartbeats 4000000 in
theorem c_X0_enter {Γ : GT} {M : Mem} {c : Nat} {m d f : Int32} (hc : c < 11) (hb : okB (M.1 0 c)) : Ct Γ yX0_enter cX0_enter 4 none 2 [.ref (ad Γ 0 c 0), .int m, .int d, .int f] M none (sO M 0 c (enX (M.1 0 c) m d f)) := by
  refine ct_of (by decide) (Nat.le_of_ble_eq_true rfl) (fun K hg hr => ?_)
  show WM Γ K _ [(0, _), (1, _), (2, _), (3, _)] 0 []
  refine wm_aload_n (q := 1) (i := 0) hg dX0_enter_0 rfl rfl rfl ?_
  refine wm_get (q := 4) hg dX0_enter_1 rfl fl_X0_24 (by first | assumption | decide | omega | (simp only [nO]; omega)) rfl ?_
  refine wm_bipush (q := 6) 30 hg dX0_enter_4 rfl (by decide) ?_
  refine wm_icmp_lt (q := 13) (q2 := 9) hg dX0_enter_6 (by decide) rfl (fun h1 => ?_) (fun h1 => ?_)
  · have hlt : lgN (M.1 0 c) < 30 := by
      rcases Nat.lt_or_ge (lgN (M.1 0 c)) 30 with q | q
      · exact q
      · exact absurd h1 (by rw [hb.1]; exact nI_nlt q (by have := hb.2; omega))
    refine wm_aload_n (q := 14) (i := 0) hg dX0_enter_13 rfl rfl rfl ?_
    refine wm_get (q := 17) hg dX0_enter_14 rfl fl_X0_27 (by first | assumption | decide | omega | (simp only [nO]; omega)) rfl ?_
    refine wm_aload_n (q := 18) (i := 0) hg dX0_enter_17 rfl rfl rfl ?_
    refine wm_get (q := 21) hg dX0_enter_18 rfl fl_X0_24 (by first | assumption | decide | omega | (simp only [nO]; omega)) rfl ?_
    refine wm_iload_n (q := 22) (i := 1) hg dX0_enter_21 rfl rfl rfl ?_
    refine wm_iastore (q := 23) (lgN (M.1 0 c)) hg dX0_enter_22 rfl (by first | assumption | decide | omega | (simp only [nO]; omega)) rfl (by first | exact hb.1 | (simp [sO_same, sO_sO, oI, oA, updA_same, updA_ne, updA_updA, upd_same, upd_ne] <;> exact hb.1)) hlt ?_
    refine wm_aload_n (q := 24) (i := 0) hg dX0_enter_23 rfl rfl rfl ?_
    refine wm_get (q := 27) hg dX0_enter_24 rfl fl_X0_31 (by first | assumption | decide | omega | (simp only [nO]; omega)) rfl ?_
    refine wm_aload_n (q := 28) (i := 0) hg dX0_enter_27 rfl rfl rfl ?_
    refine wm_get (q := 31) hg dX0_enter_28 rfl fl_X0_24 (by first | assumption | decide | omega | (simp only [nO]; omega)) rfl ?_
    refine wm_iload_n (q := 32) (i := 2) hg dX0_enter_31 rfl rfl rfl ?_
    refine wm_iastore (q := 33) (lgN (M.1 0 c)) hg dX0_enter_32 rfl (by first | assumption | decide | omega | (simp only [nO]; omega)) rfl (by first | exact hb.1 | (simp [sO_same, sO_sO, oI, oA, updA_same, updA_ne, updA_updA, upd_same, upd_ne] <;> exact hb.1)) hlt ?_
    refine wm_aload_n (q := 34) (i := 0) hg dX0_enter_33 rfl rfl rfl ?_
    refine wm_get (q := 37) hg dX0_enter_34 rfl fl_X0_34 (by first | assumption | decide | omega | (simp only [nO]; omega)) rfl ?_
    refine wm_aload_n (q := 38) (i := 0) hg dX0_enter_37 rfl rfl rfl ?_
    refine wm_get (q := 41) hg dX0_enter_38 rfl fl_X0_24 (by first | assumption | decide | omega | (simp only [nO]; omega)) rfl ?_
    refine wm_iload_n (q := 42) (i := 3) hg dX0_enter_41 rfl rfl rfl ?_
    refine wm_iastore (q := 43) (lgN (M.1 0 c)) hg dX0_enter_42 rfl (by first | assumption | decide | omega | (simp only [nO]; omega)) rfl (by first | exact hb.1 | (simp [sO_same, sO_sO, oI, oA, updA_same, updA_ne, updA_updA, upd_same, upd_ne] <;> exact hb.1)) hlt ?_
    refine wm_aload_n (q := 44) (i := 0) hg dX0_enter_43 rfl rfl rfl ?_
    refine wm_dup (q := 45) hg dX0_enter_44 rfl rfl ?_
    refine wm_get (q := 48) hg dX0_enter_45 rfl fl_X0_24 (by first | assumption | decide | omega | (simp only [nO]; omega)) rfl ?_
    refine wm_iconst (q := 49) 1 hg dX0_enter_48 rfl (by decide) ?_
    refine wm_iadd (q := 50) hg dX0_enter_49 rfl ?_
    refine wm_put (q := 53) hg dX0_enter_50 rfl fl_X0_24 (by first | assumption | decide | omega | (simp only [nO]; omega)) rfl ?_
    refine wm_aload_n (q := 54) (i := 0) hg dX0_enter_53 rfl rfl rfl ?_
    refine wm_dup (q := 55) hg dX0_enter_54 rfl rfl ?_
    refine wm_get (q := 58) hg dX0_enter_55 rfl fl_X0_18 (by first | assumption | decide | omega | (simp only [nO]; omega)) rfl ?_
    refine wm_iconst (q := 59) 1 hg dX0_enter_58 rfl (by decide) ?_
    refine wm_iadd (q := 60) hg dX0_enter_59 rfl ?_
    refine wm_put (q := 63) hg dX0_enter_60 rfl fl_X0_18 (by first | assumption | decide | omega | (simp only [nO]; omega)) rfl ?_
    refine wm_aload_n (q := 64) (i := 0) hg dX0_enter_63 rfl rfl rfl ?_
    refine wm_dup (q := 65) hg dX0_enter_64 rfl rfl ?_
    refine wm_get (q := 68) hg dX0_enter_65 rfl fl_X0_15 (by first | assumption | decide | omega | (simp only [nO]; omega)) rfl ?_
    refine wm_iload_n (q := 69) (i := 3) hg dX0_enter_68 rfl rfl rfl ?_
    refine wm_iadd (q := 70) hg dX0_enter_69 rfl ?_
    refine wm_put (q := 73) hg dX0_enter_70 rfl fl_X0_15 (by first | assumption | decide | omega | (simp only [nO]; omega)) rfl ?_
    exact wm_vret hg hr dX0_enter_73 (by simp [enX, enY, h1, sO_same, sO_sO, oI, oA, updA_same, updA_ne, updA_updA, upd_same, upd_ne])
  · refine wm_aload_n (q := 10) (i := 0) hg dX0_enter_9 rfl rfl rfl ?_
    refine wm_callV0 (q := 13) hg dX0_enter_10 rfl lk_X0_43 (by first | decide | omega) (c_X0_dropOldestTurn (by first | assumption | decide | omega)) (by first | assumption | decide | omega | (simp only [nO]; omega)) ⟨rfl, by decide⟩ rfl rfl (Nat.le_of_ble_eq_true rfl) ?_
    refine wm_aload_n (q := 14) (i := 0) hg dX0_enter_13 rfl rfl rfl ?_
    refine wm_get (q := 17) hg dX0_enter_14 rfl fl_X0_27 (by first | assumption | decide | omega | (simp only [nO]; omega)) rfl ?_
    refine wm_aload_n (q := 18) (i := 0) hg dX0_enter_17 rfl rfl rfl ?_
    refine wm_get (q := 21) hg dX0_enter_18 rfl fl_X0_24 (by first | assumption | decide | omega | (simp only [nO]; omega)) rfl ?_
    refine wm_iload_n (q := 22) (i := 1) hg dX0_enter_21 rfl rfl rfl ?_
    refine wm_iastore (q := 23) 29 hg dX0_enter_22 rfl (by first | assumption | decide | omega | (simp only [nO]; omega)) rfl (by first | exact rfl | (simp [sO_same, sO_sO, oI, oA, updA_same, updA_ne, updA_updA, upd_same, upd_ne] <;> exact rfl)) (by decide) ?_
    refine wm_aload_n (q := 24) (i := 0) hg dX0_enter_23 rfl rfl rfl ?_
    refine wm_get (q := 27) hg dX0_enter_24 rfl fl_X0_31 (by first | assumption | decide | omega | (simp only [nO]; omega)) rfl ?_
    refine wm_aload_n (q := 28) (i := 0) hg dX0_enter_27 rfl rfl rfl ?_
    refine wm_get (q := 31) hg dX0_enter_28 rfl fl_X0_24 (by first | assumption | decide | omega | (simp only [nO]; omega)) rfl ?_
    refine wm_iload_n (q := 32) (i := 2) hg dX0_enter_31 rfl rfl rfl ?_
    refine wm_iastore (q := 33) 29 hg dX0_enter_32 rfl (by first | assumption | decide | omega | (simp only [nO]; omega)) rfl (by first | exact rfl | (simp [sO_same, sO_sO, oI, oA, updA_same, updA_ne, updA_updA, upd_same, upd_ne] <;> exact rfl)) (by decide) ?_
    refine wm_aload_n (q := 34) (i := 0) hg dX0_enter_33 rfl rfl rfl ?_
    refine wm_get (q := 37) hg dX0_enter_34 rfl fl_X0_34 (by first | assumption | decide | omega | (simp only [nO]; omega)) rfl ?_
    refine wm_aload_n (q := 38) (i := 0) hg dX0_enter_37 rfl rfl rfl ?_
    refine wm_get (q := 41) hg dX0_enter_38 rfl fl_X0_24 (by first | assumption | decide | omega | (simp only [nO]; omega)) rfl ?_
    refine wm_iload_n (q := 42) (i := 3) hg dX0_enter_41 rfl rfl rfl ?_
    refine wm_iastore (q := 43) 29 hg dX0_enter_42 rfl (by first | assumption | decide | omega | (simp only [nO]; omega)) rfl (by first | exact rfl | (simp [sO_same, sO_sO, oI, oA, updA_same, updA_ne, updA_updA, upd_same, upd_ne] <;> exact rfl)) (by decide) ?_
    refine wm_aload_n (q := 44) (i := 0) hg dX0_enter_43 rfl rfl rfl ?_
    refine wm_dup (q := 45) hg dX0_enter_44 rfl rfl ?_
    refine wm_get (q := 48) hg dX0_enter_45 rfl fl_X0_24 (by first | assumption | decide | omega | (simp only [nO]; omega)) rfl ?_
    refine wm_iconst (q := 49) 1 hg dX0_enter_48 rfl (by decide) ?_
    refine wm_iadd (q := 50) hg dX0_enter_49 rfl ?_
    refine wm_put (q := 53) hg dX0_enter_50 rfl fl_X0_24 (by first | assumption | decide | omega | (simp only [nO]; omega)) rfl ?_
    refine wm_aload_n (q := 54) (i := 0) hg dX0_enter_53 rfl rfl rfl ?_
    refine wm_dup (q := 55) hg dX0_enter_54 rfl rfl ?_
    refine wm_get (q := 58) hg dX0_enter_55 rfl fl_X0_18 (by first | assumption | decide | omega | (simp only [nO]; omega)) rfl ?_
    refine wm_iconst (q := 59) 1 hg dX0_enter_58 rfl (by decide) ?_
    refine wm_iadd (q := 60) hg dX0_enter_59 rfl ?_
    refine wm_put (q := 63) hg dX0_enter_60 rfl fl_X0_18 (by first | assumption | decide | omega | (simp only [nO]; omega)) rfl ?_
    refine wm_aload_n (q := 64) (i := 0) hg dX0_enter_63 rfl rfl rfl ?_
    refine wm_dup (q := 65) hg dX0_enter_64 rfl rfl ?_
    refine wm_get (q := 68) hg dX0_enter_65 rfl fl_X0_15 (by first | assumption | decide | omega | (simp only [nO]; omega)) rfl ?_
    refine wm_iload_n (q := 69) (i := 3) hg dX0_enter_68 rfl rfl rfl ?_
    refine wm_iadd (q := 70) hg dX0_enter_69 rfl ?_
    refine wm_put (q := 73) hg dX0_enter_70 rfl fl_X0_15 (by first | assumption | decide | omega | (simp only [nO]; omega)) rfl ?_
    exact wm_vret hg hr dX0_enter_73 (by simp [enX, enY, h1, lgN_do, sO_same, sO_sO, oI, oA, updA_same, updA_ne, updA_updA, upd_same, upd_ne] <;> simp [doX, sO_same, sO_sO, oI, oA, updA_same, updA_ne, updA_updA, upd_same, upd_ne])
set_option maxRecDepth 100000 in
set_option maxHeartbeats 4000000 in
theorem c_X2_takeFrom {Γ : GT} {M : Mem} {c o : Nat} (hc : c < 11) (ho : o < 11) (hne : c ≠ o) : Ct Γ yX2_takeFrom cX2_takeFrom 2 none 4 [.ref (ad Γ 2 c 0), .ref (ad Γ 2 o 0)] M none (sO (sO M 1 c (M.1 1 o)) 0 c (M.1 0 o)) := by
  refine ct_of (by decide) (Nat.le_of_ble_eq_true rfl) (fun K hg hr => ?_)
  show WM Γ K _ [(0, _), (1, _)] 0 []
  refine wm_aload_n (q := 1) (i := 0) hg dX2_takeFrom_0 rfl rfl rfl ?_
  refine wm_get (q := 4) hg dX2_takeFrom_1 rfl fl_X2_10 (by first | assumption | decide | omega | (simp only [nO]; omega)) rfl ?_
  refine wm_aload_n (q := 5) (i := 1) hg dX2_takeFrom_4 rfl rfl rfl ?_
  refine wm_get (q := 8) hg dX2_takeFrom_5 rfl fl_X2_10 (by first | assumption | decide | omega | (simp only [nO]; omega)) rfl ?_
  refine wm_callV0 (q := 11) hg dX2_takeFrom_8 rfl lk_X2_23 (by first | decide | omega) (c_X1_takeFrom (by omega) (by omega) hne) (by first | assumption | decide | omega | (simp only [nO]; omega)) ⟨rfl, by decide⟩ rfl rfl (Nat.le_of_ble_eq_true rfl) ?_
  refine wm_aload_n (q := 12) (i := 0) hg dX2_takeFrom_11 rfl rfl rfl ?_
  refine wm_get (q := 15) hg dX2_takeFrom_12 rfl fl_X2_19 (by first | assumption | decide | omega | (simp only [nO]; omega)) rfl ?_
  refine wm_aload_n (q := 16) (i := 1) hg dX2_takeFrom_15 rfl rfl rfl ?_
  refine wm_get (q := 19) hg dX2_takeFrom_16 rfl fl_X2_19 (by first | assumption | decide | omega | (simp only [nO]; omega)) rfl ?_
  refine wm_callV0 (q := 22) hg dX2_takeFrom_19 rfl lk_X2_27 (by first | decide | omega) (c_X0_takeFrom (by first | assumption | decide | omega) (by first | assumption | decide | omega) (by first | assumption | decide | omega)) (by first | assumption | decide | omega | (simp only [nO]; omega)) ⟨rfl, by decide⟩ rfl rfl (Nat.le_of_ble_eq_true rfl) ?_
  exact wm_vret hg hr dX2_takeFrom_22 (rfl)
