/-! ===== MagnetChain.Chain: what reads ===== -/
set_option maxRecDepth 100000 in
set_option maxHeartbeats 4000000 in
theorem c_X1_pullOn {Γ : GT} {M : Mem} {c : Nat} {a p : Int32} (hc : c < 15) (hz : ok10 (M.1 1 c)) : Ct Γ yX1_pullOn cX1_pullOn 3 (some .int) 1 [.ref (ad Γ 1 c 0), .int a, .int p] M (some (.int (pOn (M.1 1 c) a p))) M := by
  refine ct_of (by decide) (Nat.le_of_ble_eq_true rfl) (fun K hg hr => ?_)
  show WM Γ K _ [(0, _), (1, _), (2, _)] 0 []
  refine wm_iload_n (q := 1) (i := 2) hg dX1_pullOn_0 rfl rfl rfl ?_
  refine wm_if_lt (q := 25) (q2 := 4) hg dX1_pullOn_1 (by decide) rfl (fun h1 => ?_) (fun h1 => ?_)
  · refine wm_iconst (q := 26) 0 hg dX1_pullOn_25 rfl (by decide) ?_
    exact wm_iret hg hr dX1_pullOn_26 (by simp [pOn, h1]) (rfl)
  · refine wm_iload_n (q := 5) (i := 2) hg dX1_pullOn_4 rfl rfl rfl ?_
    refine wm_aload_n (q := 6) (i := 0) hg dX1_pullOn_5 rfl rfl rfl ?_
    refine wm_get (q := 9) hg dX1_pullOn_6 rfl fl_X1_9 (by first | assumption | decide | omega | (simp only [nO]; omega)) rfl ?_
    refine wm_icmp_ge (q := 25) (q2 := 12) hg dX1_pullOn_9 (by decide) rfl (fun h2 => ?_) (fun h2 => ?_)
    · refine wm_iconst (q := 26) 0 hg dX1_pullOn_25 rfl (by decide) ?_
      exact wm_iret hg hr dX1_pullOn_26 (by simp [pOn, h1, h2]) (rfl)
    · refine wm_iload_n (q := 13) (i := 1) hg dX1_pullOn_12 rfl rfl rfl ?_
      refine wm_aload_n (q := 14) (i := 0) hg dX1_pullOn_13 rfl rfl rfl ?_
      refine wm_get (q := 17) hg dX1_pullOn_14 rfl fl_X1_15 (by first | assumption | decide | omega | (simp only [nO]; omega)) rfl ?_
      refine wm_iload_n (q := 18) (i := 2) hg dX1_pullOn_17 rfl rfl rfl ?_
      refine wm_iaload (q := 19) p.toNatClampNeg hg dX1_pullOn_18 rfl (by first | assumption | decide | omega | (simp only [nO]; omega)) rfl (nI_self h1) (Nat.lt_of_lt_of_le (clampLt hz.1 (by have := hz.2; omega) h1 h2) hz.2) ?_
      refine wm_callN1 (q := 22) hg dX1_pullOn_19 rfl lkN_X4_pull (fun h => h.1) (by first | decide | omega) c_X4_pull rfl rfl (Nat.le_of_ble_eq_true rfl) ?_
      refine wm_goto (q := 26) hg dX1_pullOn_22 (by decide) ?_
      exact wm_iret hg hr dX1_pullOn_26 (by simp [pOn, h1, h2]) (rfl)
set_option maxRecDepth 100000 in
set_option maxHeartbeats 4000000 in
theorem c_X1_partOfField {Γ : GT} {M : Mem} {c : Nat} {a : Int32} (hc : c < 15) (hz : ok10 (M.1 1 c)) : Ct Γ yX1_partOfField cX1_partOfField 2 (some .int) 1 [.ref (ad Γ 1 c 0), .int a] M (some (.int (pof (M.1 1 c) a))) M := by
  refine ct_of (by decide) (Nat.le_of_ble_eq_true rfl) (fun K hg hr => ?_)
  show WM Γ K _ [(0, _), (1, _)] 0 []
  refine wm_aload_n (q := 1) (i := 0) hg dX1_partOfField_0 rfl rfl rfl ?_
  refine wm_get (q := 4) hg dX1_partOfField_1 rfl fl_X1_31 (by first | assumption | decide | omega | (simp only [nO]; omega)) rfl ?_
  refine wm_ineg (q := 5) hg dX1_partOfField_4 rfl ?_
  refine wm_iload_n (q := 6) (i := 1) hg dX1_partOfField_5 rfl rfl rfl ?_
  refine wm_aload_n (q := 7) (i := 0) hg dX1_partOfField_6 rfl rfl rfl ?_
  refine wm_get (q := 10) hg dX1_partOfField_7 rfl fl_X1_34 (by first | assumption | decide | omega | (simp only [nO]; omega)) rfl ?_
  refine wm_isub (q := 11) hg dX1_partOfField_10 rfl ?_
  refine wm_callN1 (q := 14) hg dX1_partOfField_11 rfl lkN_X4_cosine (fun h => h.2.1) (by first | decide | omega) c_X4_cosine rfl rfl (Nat.le_of_ble_eq_true rfl) ?_
  refine wm_imul (q := 15) hg dX1_partOfField_14 rfl ?_
  refine wm_bipush (q := 17) 10 hg dX1_partOfField_15 rfl (by decide) ?_
  refine wm_imul (q := 18) hg dX1_partOfField_17 rfl ?_
  exact wm_iret hg hr dX1_partOfField_18 (rfl) (rfl)
set_option maxRecDepth 100000 in
set_option maxHeartbeats 4000000 in
theorem c_X1_partOf {Γ : GT} {M : Mem} {c : Nat} {i a : Int32} (hc : c < 15) (hz : ok10 (M.1 1 c)) : Ct Γ yX1_partOf cX1_partOf 3 (some .int) 2 [.ref (ad Γ 1 c 0), .int i, .int a] M (some (.int (part (M.1 1 c) i a))) M := by
  refine ct_of (by decide) (Nat.le_of_ble_eq_true rfl) (fun K hg hr => ?_)
  show WM Γ K _ [(0, _), (1, _), (2, _)] 0 []
  refine wm_aload_n (q := 1) (i := 0) hg dX1_partOf_0 rfl rfl rfl ?_
  refine wm_get (q := 4) hg dX1_partOf_1 rfl fl_X1_25 (by first | assumption | decide | omega | (simp only [nO]; omega)) rfl ?_
  refine wm_aload_n (q := 5) (i := 0) hg dX1_partOf_4 rfl rfl rfl ?_
  refine wm_iload_n (q := 6) (i := 2) hg dX1_partOf_5 rfl rfl rfl ?_
  refine wm_iload_n (q := 7) (i := 1) hg dX1_partOf_6 rfl rfl rfl ?_
  refine wm_iconst (q := 8) 1 hg dX1_partOf_7 rfl (by decide) ?_
  refine wm_isub (q := 9) hg dX1_partOf_8 rfl ?_
  refine wm_callV1 (q := 12) hg dX1_partOf_9 rfl lk_X1_61 (by first | decide | omega) (c_X1_pullOn (by first | assumption | decide | omega) (by first | assumption | decide | omega)) (by first | assumption | decide | omega | (simp only [nO]; omega)) ⟨rfl, by decide⟩ rfl rfl (Nat.le_of_ble_eq_true rfl) ?_
  refine wm_aload_n (q := 13) (i := 0) hg dX1_partOf_12 rfl rfl rfl ?_
  refine wm_iload_n (q := 14) (i := 2) hg dX1_partOf_13 rfl rfl rfl ?_
  refine wm_iload_n (q := 15) (i := 1) hg dX1_partOf_14 rfl rfl rfl ?_
  refine wm_iconst (q := 16) 1 hg dX1_partOf_15 rfl (by decide) ?_
  refine wm_iadd (q := 17) hg dX1_partOf_16 rfl ?_
  refine wm_callV1 (q := 20) hg dX1_partOf_17 rfl lk_X1_61 (by first | decide | omega) (c_X1_pullOn (by first | assumption | decide | omega) (by first | assumption | decide | omega)) (by first | assumption | decide | omega | (simp only [nO]; omega)) ⟨rfl, by decide⟩ rfl rfl (Nat.le_of_ble_eq_true rfl) ?_
  refine wm_iadd (q := 21) hg dX1_partOf_20 rfl ?_
  refine wm_imul (q := 22) hg dX1_partOf_21 rfl ?_
  refine wm_aload_n (q := 23) (i := 0) hg dX1_partOf_22 rfl rfl rfl ?_
  refine wm_get (q := 26) hg dX1_partOf_23 rfl fl_X1_25 (by first | assumption | decide | omega | (simp only [nO]; omega)) rfl ?_
  refine wm_bipush (q := 28) 8 hg dX1_partOf_26 rfl (by decide) ?_
  refine wm_idiv (q := 29) hg dX1_partOf_28 rfl (by decide) ?_
  refine wm_aload_n (q := 30) (i := 0) hg dX1_partOf_29 rfl rfl rfl ?_
  refine wm_iload_n (q := 31) (i := 2) hg dX1_partOf_30 rfl rfl rfl ?_
  refine wm_iload_n (q := 32) (i := 1) hg dX1_partOf_31 rfl rfl rfl ?_
  refine wm_iconst (q := 33) 2 hg dX1_partOf_32 rfl (by decide) ?_
  refine wm_isub (q := 34) hg dX1_partOf_33 rfl ?_
  refine wm_callV1 (q := 37) hg dX1_partOf_34 rfl lk_X1_61 (by first | decide | omega) (c_X1_pullOn (by first | assumption | decide | omega) (by first | assumption | decide | omega)) (by first | assumption | decide | omega | (simp only [nO]; omega)) ⟨rfl, by decide⟩ rfl rfl (Nat.le_of_ble_eq_true rfl) ?_
  refine wm_aload_n (q := 38) (i := 0) hg dX1_partOf_37 rfl rfl rfl ?_
  refine wm_iload_n (q := 39) (i := 2) hg dX1_partOf_38 rfl rfl rfl ?_
  refine wm_iload_n (q := 40) (i := 1) hg dX1_partOf_39 rfl rfl rfl ?_
  refine wm_iconst (q := 41) 2 hg dX1_partOf_40 rfl (by decide) ?_
  refine wm_iadd (q := 42) hg dX1_partOf_41 rfl ?_
  refine wm_callV1 (q := 45) hg dX1_partOf_42 rfl lk_X1_61 (by first | decide | omega) (c_X1_pullOn (by first | assumption | decide | omega) (by first | assumption | decide | omega)) (by first | assumption | decide | omega | (simp only [nO]; omega)) ⟨rfl, by decide⟩ rfl rfl (Nat.le_of_ble_eq_true rfl) ?_
  refine wm_iadd (q := 46) hg dX1_partOf_45 rfl ?_
  refine wm_imul (q := 47) hg dX1_partOf_46 rfl ?_
  refine wm_iadd (q := 48) hg dX1_partOf_47 rfl ?_
  refine wm_aload_n (q := 49) (i := 0) hg dX1_partOf_48 rfl rfl rfl ?_
  refine wm_iload_n (q := 50) (i := 2) hg dX1_partOf_49 rfl rfl rfl ?_
  refine wm_callV1 (q := 53) hg dX1_partOf_50 rfl lk_X1_65 (by first | decide | omega) (c_X1_partOfField (by first | assumption | decide | omega) (by first | assumption | decide | omega)) (by first | assumption | decide | omega | (simp only [nO]; omega)) ⟨rfl, by decide⟩ rfl rfl (Nat.le_of_ble_eq_true rfl) ?_
  refine wm_iadd (q := 54) hg dX1_partOf_53 rfl ?_
  exact wm_iret hg hr dX1_partOf_54 (rfl) (rfl)
set_option maxRecDepth 100000 in
set_option maxHeartbeats 4000000 in
theorem c_X1_freedBy {Γ : GT} {M : Mem} {c : Nat} {t : Nat} {x d : Int32} (hc : c < 15) (hz : ok10 (M.1 1 c)) (hx : x = nI t) (ht : t < 10) : Ct Γ yX1_freedBy cX1_freedBy 3 (some .int) 3 [.ref (ad Γ 1 c 0), .int x, .int d] M (some (.int (freed (M.1 1 c) t d))) M := by
  refine ct_of (by decide) (Nat.le_of_ble_eq_true rfl) (fun K hg hr => ?_)
  show WM Γ K _ [(0, _), (1, _), (2, _)] 0 []
  subst hx
  refine wm_aload_n (q := 1) (i := 0) hg dX1_freedBy_0 rfl rfl rfl ?_
  refine wm_iload_n (q := 2) (i := 1) hg dX1_freedBy_1 rfl rfl rfl ?_
  refine wm_aload_n (q := 3) (i := 0) hg dX1_freedBy_2 rfl rfl rfl ?_
  refine wm_get (q := 6) hg dX1_freedBy_3 rfl fl_X1_15 (by first | assumption | decide | omega | (simp only [nO]; omega)) rfl ?_
  refine wm_iload_n (q := 7) (i := 1) hg dX1_freedBy_6 rfl rfl rfl ?_
  refine wm_iaload (q := 8) t hg dX1_freedBy_7 rfl (by first | assumption | decide | omega | (simp only [nO]; omega)) rfl rfl (by simp only [alen]; omega) ?_
  refine wm_callV1 (q := 11) hg dX1_freedBy_8 rfl lk_X1_69 (by first | decide | omega) (c_X1_partOf (by first | assumption | decide | omega) (by first | assumption | decide | omega)) (by first | assumption | decide | omega | (simp only [nO]; omega)) ⟨rfl, by decide⟩ rfl rfl (Nat.le_of_ble_eq_true rfl) ?_
  refine wm_aload_n (q := 12) (i := 0) hg dX1_freedBy_11 rfl rfl rfl ?_
  refine wm_iload_n (q := 13) (i := 1) hg dX1_freedBy_12 rfl rfl rfl ?_
  refine wm_aload_n (q := 14) (i := 0) hg dX1_freedBy_13 rfl rfl rfl ?_
  refine wm_get (q := 17) hg dX1_freedBy_14 rfl fl_X1_15 (by first | assumption | decide | omega | (simp only [nO]; omega)) rfl ?_
  refine wm_iload_n (q := 18) (i := 1) hg dX1_freedBy_17 rfl rfl rfl ?_
  refine wm_iaload (q := 19) t hg dX1_freedBy_18 rfl (by first | assumption | decide | omega | (simp only [nO]; omega)) rfl rfl (by simp only [alen]; omega) ?_
  refine wm_iload_n (q := 20) (i := 2) hg dX1_freedBy_19 rfl rfl rfl ?_
  refine wm_iadd (q := 21) hg dX1_freedBy_20 rfl ?_
  refine wm_callV1 (q := 24) hg dX1_freedBy_21 rfl lk_X1_69 (by first | decide | omega) (c_X1_partOf (by first | assumption | decide | omega) (by first | assumption | decide | omega)) (by first | assumption | decide | omega | (simp only [nO]; omega)) ⟨rfl, by decide⟩ rfl rfl (Nat.le_of_ble_eq_true rfl) ?_
  refine wm_isub (q := 25) hg dX1_freedBy_24 rfl ?_
  exact wm_iret hg hr dX1_freedBy_25 (rfl) (rfl)
set_option maxRecDepth 100000 in
set_option maxHeartbeats 4000000 in
theorem c_X1_pullOfNeighbors {Γ : GT} {M : Mem} {c : Nat} {t : Nat} {x : Int32} (hc : c < 15) (hz : ok10 (M.1 1 c)) (hx : x = nI t) (ht : t < 10) : Ct Γ yX1_pullOfNeighbors cX1_pullOfNeighbors 2 (some .int) 2 [.ref (ad Γ 1 c 0), .int x] M (some (.int (pNb (M.1 1 c) t))) M := by
  refine ct_of (by decide) (Nat.le_of_ble_eq_true rfl) (fun K hg hr => ?_)
  show WM Γ K _ [(0, _), (1, _)] 0 []
  subst hx
  refine wm_aload_n (q := 1) (i := 0) hg dX1_pullOfNeighbors_0 rfl rfl rfl ?_
  refine wm_get (q := 4) hg dX1_pullOfNeighbors_1 rfl fl_X1_25 (by first | assumption | decide | omega | (simp only [nO]; omega)) rfl ?_
  refine wm_aload_n (q := 5) (i := 0) hg dX1_pullOfNeighbors_4 rfl rfl rfl ?_
  refine wm_aload_n (q := 6) (i := 0) hg dX1_pullOfNeighbors_5 rfl rfl rfl ?_
  refine wm_get (q := 9) hg dX1_pullOfNeighbors_6 rfl fl_X1_15 (by first | assumption | decide | omega | (simp only [nO]; omega)) rfl ?_
  refine wm_iload_n (q := 10) (i := 1) hg dX1_pullOfNeighbors_9 rfl rfl rfl ?_
  refine wm_iaload (q := 11) t hg dX1_pullOfNeighbors_10 rfl (by first | assumption | decide | omega | (simp only [nO]; omega)) rfl rfl (by simp only [alen]; omega) ?_
  refine wm_iload_n (q := 12) (i := 1) hg dX1_pullOfNeighbors_11 rfl rfl rfl ?_
  refine wm_iconst (q := 13) 1 hg dX1_pullOfNeighbors_12 rfl (by decide) ?_
  refine wm_isub (q := 14) hg dX1_pullOfNeighbors_13 rfl ?_
  refine wm_callV1 (q := 17) hg dX1_pullOfNeighbors_14 rfl lk_X1_61 (by first | decide | omega) (c_X1_pullOn (by first | assumption | decide | omega) (by first | assumption | decide | omega)) (by first | assumption | decide | omega | (simp only [nO]; omega)) ⟨rfl, by decide⟩ rfl rfl (Nat.le_of_ble_eq_true rfl) ?_
  refine wm_aload_n (q := 18) (i := 0) hg dX1_pullOfNeighbors_17 rfl rfl rfl ?_
  refine wm_aload_n (q := 19) (i := 0) hg dX1_pullOfNeighbors_18 rfl rfl rfl ?_
  refine wm_get (q := 22) hg dX1_pullOfNeighbors_19 rfl fl_X1_15 (by first | assumption | decide | omega | (simp only [nO]; omega)) rfl ?_
  refine wm_iload_n (q := 23) (i := 1) hg dX1_pullOfNeighbors_22 rfl rfl rfl ?_
  refine wm_iaload (q := 24) t hg dX1_pullOfNeighbors_23 rfl (by first | assumption | decide | omega | (simp only [nO]; omega)) rfl rfl (by simp only [alen]; omega) ?_
  refine wm_iload_n (q := 25) (i := 1) hg dX1_pullOfNeighbors_24 rfl rfl rfl ?_
  refine wm_iconst (q := 26) 1 hg dX1_pullOfNeighbors_25 rfl (by decide) ?_
  refine wm_iadd (q := 27) hg dX1_pullOfNeighbors_26 rfl ?_
  refine wm_callV1 (q := 30) hg dX1_pullOfNeighbors_27 rfl lk_X1_61 (by first | decide | omega) (c_X1_pullOn (by first | assumption | decide | omega) (by first | assumption | decide | omega)) (by first | assumption | decide | omega | (simp only [nO]; omega)) ⟨rfl, by decide⟩ rfl rfl (Nat.le_of_ble_eq_true rfl) ?_
  refine wm_iadd (q := 31) hg dX1_pullOfNeighbors_30 rfl ?_
  refine wm_imul (q := 32) hg dX1_pullOfNeighbors_31 rfl ?_
  exact wm_iret hg hr dX1_pullOfNeighbors_32 (rfl) (rfl)
set_option maxRecDepth 100000 in
set_option maxHeartbeats 4000000 in
theorem c_X1_energy {Γ : GT} {M : Mem} {c : Nat}  (hc : c < 15) (hz : ok10 (M.1 1 c)) : Ct Γ yX1_energy cX1_energy 4 (some .int) 2 [.ref (ad Γ 1 c 0)] M (some (.int (enS (M.1 1 c) (szN (M.1 1 c))))) M := by
  refine ct_of (by decide) (Nat.le_of_ble_eq_true rfl) (fun K hg hr => ?_)
  show WM Γ K _ [(0, _)] 0 []
  refine wm_iconst (q := 1) 0 hg dX1_energy_0 rfl (by decide) ?_
  refine wm_istore_n (q := 2) (i := 1) (L' := [(0, _), (1, _)]) hg dX1_energy_1 rfl rfl rfl rfl ?_
  refine wm_iconst (q := 3) 0 hg dX1_energy_2 rfl (by decide) ?_
  refine wm_istore_n (q := 4) (i := 2) (L' := [(0, _), (1, _), (2, _)]) hg dX1_energy_3 rfl rfl rfl rfl ?_
  suffices hloop : ∀ (n i : Nat), i + n = (szN (M.1 1 c)) → WM Γ K M [(0, .ref (ad Γ 1 c 0)), (1, .int (enS (M.1 1 c) i)), (2, .int (nI i))] 4 [] from hloop (szN (M.1 1 c)) 0 (by omega)
  intro n
  induction n with
  | zero =>
    intro i hi 
    have hz2 := hz.2
    refine wm_iload_n (q := 5) (i := 2) hg dX1_energy_4 rfl rfl rfl ?_
    refine wm_aload_n (q := 6) (i := 0) hg dX1_energy_5 rfl rfl rfl ?_
    refine wm_get (q := 9) hg dX1_energy_6 rfl fl_X1_9 (by first | assumption | decide | omega | (simp only [nO]; omega)) rfl ?_
    refine wm_icmp_ge (q := 64) (q2 := 12) hg dX1_energy_9 (by decide) rfl (fun hb => ?_) (fun hb => ?_)
    · refine wm_iload_n (q := 65) (i := 1) hg dX1_energy_64 rfl rfl rfl ?_
      exact wm_iret hg hr dX1_energy_65 (by rw [show i = (szN (M.1 1 c)) from hi]) (rfl)
    · exact absurd hb (fun h => h (lpLe hz.1 (by omega) (by omega)))
  | succ n ih =>
    intro i hi 
    have hz2 := hz.2
    refine wm_iload_n (q := 5) (i := 2) hg dX1_energy_4 rfl rfl rfl ?_
    refine wm_aload_n (q := 6) (i := 0) hg dX1_energy_5 rfl rfl rfl ?_
    refine wm_get (q := 9) hg dX1_energy_6 rfl fl_X1_9 (by first | assumption | decide | omega | (simp only [nO]; omega)) rfl ?_
    refine wm_icmp_ge (q := 64) (q2 := 12) hg dX1_energy_9 (by decide) rfl (fun hb => ?_) (fun hb => ?_)
    · exact absurd hb (lpLt hz.1 (by omega) (by omega))
    · refine wm_aload_n (q := 13) (i := 0) hg dX1_energy_12 rfl rfl rfl ?_
      refine wm_get (q := 16) hg dX1_energy_13 rfl fl_X1_15 (by first | assumption | decide | omega | (simp only [nO]; omega)) rfl ?_
      refine wm_iload_n (q := 17) (i := 2) hg dX1_energy_16 rfl rfl rfl ?_
      refine wm_iaload (q := 18) i hg dX1_energy_17 rfl (by first | assumption | decide | omega | (simp only [nO]; omega)) rfl rfl (by simp only [alen]; omega) ?_
      refine wm_istore_n (q := 19) (i := 3) (L' := [(0, _), (1, _), (2, _), (3, _)]) hg dX1_energy_18 rfl rfl rfl rfl ?_
      refine wm_iload_n (q := 20) (i := 1) hg dX1_energy_19 rfl rfl rfl ?_
      refine wm_aload_n (q := 21) (i := 0) hg dX1_energy_20 rfl rfl rfl ?_
      refine wm_get (q := 24) hg dX1_energy_21 rfl fl_X1_25 (by first | assumption | decide | omega | (simp only [nO]; omega)) rfl ?_
      refine wm_aload_n (q := 25) (i := 0) hg dX1_energy_24 rfl rfl rfl ?_
      refine wm_iload_n (q := 26) (i := 3) hg dX1_energy_25 rfl rfl rfl ?_
      refine wm_iload_n (q := 27) (i := 2) hg dX1_energy_26 rfl rfl rfl ?_
      refine wm_iconst (q := 28) 1 hg dX1_energy_27 rfl (by decide) ?_
      refine wm_iadd (q := 29) hg dX1_energy_28 rfl ?_
      refine wm_callV1 (q := 32) hg dX1_energy_29 rfl lk_X1_61 (by first | decide | omega) (c_X1_pullOn (by first | assumption | decide | omega) (by first | assumption | decide | omega)) (by first | assumption | decide | omega | (simp only [nO]; omega)) ⟨rfl, by decide⟩ rfl rfl (Nat.le_of_ble_eq_true rfl) ?_
      refine wm_imul (q := 33) hg dX1_energy_32 rfl ?_
      refine wm_aload_n (q := 34) (i := 0) hg dX1_energy_33 rfl rfl rfl ?_
      refine wm_get (q := 37) hg dX1_energy_34 rfl fl_X1_25 (by first | assumption | decide | omega | (simp only [nO]; omega)) rfl ?_
      refine wm_bipush (q := 39) 8 hg dX1_energy_37 rfl (by decide) ?_
      refine wm_idiv (q := 40) hg dX1_energy_39 rfl (by decide) ?_
      refine wm_aload_n (q := 41) (i := 0) hg dX1_energy_40 rfl rfl rfl ?_
      refine wm_iload_n (q := 42) (i := 3) hg dX1_energy_41 rfl rfl rfl ?_
      refine wm_iload_n (q := 43) (i := 2) hg dX1_energy_42 rfl rfl rfl ?_
      refine wm_iconst (q := 44) 2 hg dX1_energy_43 rfl (by decide) ?_
      refine wm_iadd (q := 45) hg dX1_energy_44 rfl ?_
      refine wm_callV1 (q := 48) hg dX1_energy_45 rfl lk_X1_61 (by first | decide | omega) (c_X1_pullOn (by first | assumption | decide | omega) (by first | assumption | decide | omega)) (by first | assumption | decide | omega | (simp only [nO]; omega)) ⟨rfl, by decide⟩ rfl rfl (Nat.le_of_ble_eq_true rfl) ?_
      refine wm_imul (q := 49) hg dX1_energy_48 rfl ?_
      refine wm_iadd (q := 50) hg dX1_energy_49 rfl ?_
      refine wm_aload_n (q := 51) (i := 0) hg dX1_energy_50 rfl rfl rfl ?_
      refine wm_iload_n (q := 52) (i := 3) hg dX1_energy_51 rfl rfl rfl ?_
      refine wm_callV1 (q := 55) hg dX1_energy_52 rfl lk_X1_65 (by first | decide | omega) (c_X1_partOfField (by first | assumption | decide | omega) (by first | assumption | decide | omega)) (by first | assumption | decide | omega | (simp only [nO]; omega)) ⟨rfl, by decide⟩ rfl rfl (Nat.le_of_ble_eq_true rfl) ?_
      refine wm_iadd (q := 56) hg dX1_energy_55 rfl ?_
      refine wm_iadd (q := 57) hg dX1_energy_56 rfl ?_
      refine wm_istore_n (q := 58) (i := 1) (L' := [(0, _), (1, _), (2, _), (3, _)]) hg dX1_energy_57 rfl rfl rfl rfl ?_
      refine wm_iinc (q := 61) (L' := [(0, _), (1, _), (2, _), (3, _)]) (nI (i + 1)) hg dX1_energy_58 rfl rfl (nadd rfl rfl) rfl rfl ?_
      refine wm_goto (q := 4) hg dX1_energy_61 (by decide) ?_
      refine wm_L (L' := [(0, _), (1, _), (2, _)]) [0, 1, 2] rfl ?_
      exact ih (i + 1) (by omega)
set_option maxRecDepth 100000 in
set_option maxHeartbeats 4000000 in
theorem c_X1_pointsTo {Γ : GT} {M : Mem} {c : Nat} {s : Int32} (hc : c < 15) (hz : ok10 (M.1 1 c)) : Ct Γ yX1_pointsTo cX1_pointsTo 4 (some .int) 1 [.ref (ad Γ 1 c 0), .int s] M (some (.int (ptS (M.1 1 c) s (szN (M.1 1 c))))) M := by
  refine ct_of (by decide) (Nat.le_of_ble_eq_true rfl) (fun K hg hr => ?_)
  show WM Γ K _ [(0, _), (1, _)] 0 []
  refine wm_iconst (q := 1) 0 hg dX1_pointsTo_0 rfl (by decide) ?_
  refine wm_istore_n (q := 2) (i := 2) (L' := [(0, _), (1, _), (2, _)]) hg dX1_pointsTo_1 rfl rfl rfl rfl ?_
  refine wm_iconst (q := 3) 0 hg dX1_pointsTo_2 rfl (by decide) ?_
  refine wm_istore_n (q := 4) (i := 3) (L' := [(0, _), (1, _), (2, _), (3, _)]) hg dX1_pointsTo_3 rfl rfl rfl rfl ?_
  suffices hloop : ∀ (n i : Nat), i + n = (szN (M.1 1 c)) → WM Γ K M [(0, .ref (ad Γ 1 c 0)), (1, .int s), (2, .int (ptS (M.1 1 c) s i)), (3, .int (nI i))] 4 [] from hloop (szN (M.1 1 c)) 0 (by omega)
  intro n
  induction n with
  | zero =>
    intro i hi 
    have hz2 := hz.2
    refine wm_iload_n (q := 5) (i := 3) hg dX1_pointsTo_4 rfl rfl rfl ?_
    refine wm_aload_n (q := 6) (i := 0) hg dX1_pointsTo_5 rfl rfl rfl ?_
    refine wm_get (q := 9) hg dX1_pointsTo_6 rfl fl_X1_9 (by first | assumption | decide | omega | (simp only [nO]; omega)) rfl ?_
    refine wm_icmp_ge (q := 32) (q2 := 12) hg dX1_pointsTo_9 (by decide) rfl (fun hb => ?_) (fun hb => ?_)
    · refine wm_iload_n (q := 33) (i := 2) hg dX1_pointsTo_32 rfl rfl rfl ?_
      exact wm_iret hg hr dX1_pointsTo_33 (by rw [show i = (szN (M.1 1 c)) from hi]) (rfl)
    · exact absurd hb (fun h => h (lpLe hz.1 (by omega) (by omega)))
  | succ n ih =>
    intro i hi 
    have hz2 := hz.2
    refine wm_iload_n (q := 5) (i := 3) hg dX1_pointsTo_4 rfl rfl rfl ?_
    refine wm_aload_n (q := 6) (i := 0) hg dX1_pointsTo_5 rfl rfl rfl ?_
    refine wm_get (q := 9) hg dX1_pointsTo_6 rfl fl_X1_9 (by first | assumption | decide | omega | (simp only [nO]; omega)) rfl ?_
    refine wm_icmp_ge (q := 32) (q2 := 12) hg dX1_pointsTo_9 (by decide) rfl (fun hb => ?_) (fun hb => ?_)
    · exact absurd hb (lpLt hz.1 (by omega) (by omega))
    · refine wm_iload_n (q := 13) (i := 2) hg dX1_pointsTo_12 rfl rfl rfl ?_
      refine wm_aload_n (q := 14) (i := 0) hg dX1_pointsTo_13 rfl rfl rfl ?_
      refine wm_get (q := 17) hg dX1_pointsTo_14 rfl fl_X1_15 (by first | assumption | decide | omega | (simp only [nO]; omega)) rfl ?_
      refine wm_iload_n (q := 18) (i := 3) hg dX1_pointsTo_17 rfl rfl rfl ?_
      refine wm_iaload (q := 19) i hg dX1_pointsTo_18 rfl (by first | assumption | decide | omega | (simp only [nO]; omega)) rfl rfl (by simp only [alen]; omega) ?_
      refine wm_iload_n (q := 20) (i := 1) hg dX1_pointsTo_19 rfl rfl rfl ?_
      refine wm_isub (q := 21) hg dX1_pointsTo_20 rfl ?_
      refine wm_callN1 (q := 24) hg dX1_pointsTo_21 rfl lkN_X4_cosine (fun h => h.2.1) (by first | decide | omega) c_X4_cosine rfl rfl (Nat.le_of_ble_eq_true rfl) ?_
      refine wm_iadd (q := 25) hg dX1_pointsTo_24 rfl ?_
      refine wm_istore_n (q := 26) (i := 2) (L' := [(0, _), (1, _), (2, _), (3, _)]) hg dX1_pointsTo_25 rfl rfl rfl rfl ?_
      refine wm_iinc (q := 29) (L' := [(0, _), (1, _), (2, _), (3, _)]) (nI (i + 1)) hg dX1_pointsTo_26 rfl rfl (nadd rfl rfl) rfl rfl ?_
      refine wm_goto (q := 4) hg dX1_pointsTo_29 (by decide) ?_
      exact ih (i + 1) (by omega)
set_option maxRecDepth 100000 in
set_option maxHeartbeats 4000000 in
theorem c_X1_heldOnes {Γ : GT} {M : Mem} {c : Nat}  (hc : c < 15) (hz : ok10 (M.1 1 c)) : Ct Γ yX1_heldOnes cX1_heldOnes 3 (some .int) 0 [.ref (ad Γ 1 c 0)] M (some (.int (heS (M.1 1 c) (szN (M.1 1 c))))) M := by
  refine ct_of (by decide) (Nat.le_of_ble_eq_true rfl) (fun K hg hr => ?_)
  show WM Γ K _ [(0, _)] 0 []
  refine wm_iconst (q := 1) 0 hg dX1_heldOnes_0 rfl (by decide) ?_
  refine wm_istore_n (q := 2) (i := 1) (L' := [(0, _), (1, _)]) hg dX1_heldOnes_1 rfl rfl rfl rfl ?_
  refine wm_iconst (q := 3) 0 hg dX1_heldOnes_2 rfl (by decide) ?_
  refine wm_istore_n (q := 4) (i := 2) (L' := [(0, _), (1, _), (2, _)]) hg dX1_heldOnes_3 rfl rfl rfl rfl ?_
  suffices hloop : ∀ (n i : Nat), i + n = (szN (M.1 1 c)) → WM Γ K M [(0, .ref (ad Γ 1 c 0)), (1, .int (heS (M.1 1 c) i)), (2, .int (nI i))] 4 [] from hloop (szN (M.1 1 c)) 0 (by omega)
  intro n
  induction n with
  | zero =>
    intro i hi 
    have hz2 := hz.2
    refine wm_iload_n (q := 5) (i := 2) hg dX1_heldOnes_4 rfl rfl rfl ?_
    refine wm_aload_n (q := 6) (i := 0) hg dX1_heldOnes_5 rfl rfl rfl ?_
    refine wm_get (q := 9) hg dX1_heldOnes_6 rfl fl_X1_9 (by first | assumption | decide | omega | (simp only [nO]; omega)) rfl ?_
    refine wm_icmp_ge (q := 27) (q2 := 12) hg dX1_heldOnes_9 (by decide) rfl (fun hb => ?_) (fun hb => ?_)
    · refine wm_iload_n (q := 28) (i := 1) hg dX1_heldOnes_27 rfl rfl rfl ?_
      exact wm_iret hg hr dX1_heldOnes_28 (by rw [show i = (szN (M.1 1 c)) from hi]) (rfl)
    · exact absurd hb (fun h => h (lpLe hz.1 (by omega) (by omega)))
  | succ n ih =>
    intro i hi 
    have hz2 := hz.2
    refine wm_iload_n (q := 5) (i := 2) hg dX1_heldOnes_4 rfl rfl rfl ?_
    refine wm_aload_n (q := 6) (i := 0) hg dX1_heldOnes_5 rfl rfl rfl ?_
    refine wm_get (q := 9) hg dX1_heldOnes_6 rfl fl_X1_9 (by first | assumption | decide | omega | (simp only [nO]; omega)) rfl ?_
    refine wm_icmp_ge (q := 27) (q2 := 12) hg dX1_heldOnes_9 (by decide) rfl (fun hb => ?_) (fun hb => ?_)
    · exact absurd hb (lpLt hz.1 (by omega) (by omega))
    · refine wm_iload_n (q := 13) (i := 1) hg dX1_heldOnes_12 rfl rfl rfl ?_
      refine wm_aload_n (q := 14) (i := 0) hg dX1_heldOnes_13 rfl rfl rfl ?_
      refine wm_get (q := 17) hg dX1_heldOnes_14 rfl fl_X1_19 (by first | assumption | decide | omega | (simp only [nO]; omega)) rfl ?_
      refine wm_iload_n (q := 18) (i := 2) hg dX1_heldOnes_17 rfl rfl rfl ?_
      refine wm_iaload (q := 19) i hg dX1_heldOnes_18 rfl (by first | assumption | decide | omega | (simp only [nO]; omega)) rfl rfl (by simp only [alen]; omega) ?_
      refine wm_iadd (q := 20) hg dX1_heldOnes_19 rfl ?_
      refine wm_istore_n (q := 21) (i := 1) (L' := [(0, _), (1, _), (2, _)]) hg dX1_heldOnes_20 rfl rfl rfl rfl ?_
      refine wm_iinc (q := 24) (L' := [(0, _), (1, _), (2, _)]) (nI (i + 1)) hg dX1_heldOnes_21 rfl rfl (nadd rfl rfl) rfl rfl ?_
      refine wm_goto (q := 4) hg dX1_heldOnes_24 (by decide) ?_
      exact ih (i + 1) (by omega)
set_option maxRecDepth 100000 in
set_option maxHeartbeats 4000000 in
theorem c_X1_goalsMissed {Γ : GT} {M : Mem} {c : Nat}  (hc : c < 15) (hz : ok10 (M.1 1 c)) : Ct Γ yX1_goalsMissed cX1_goalsMissed 3 (some .int) 0 [.ref (ad Γ 1 c 0)] M (some (.int (gmS (M.1 1 c) (szN (M.1 1 c))))) M := by
  refine ct_of (by decide) (Nat.le_of_ble_eq_true rfl) (fun K hg hr => ?_)
  show WM Γ K _ [(0, _)] 0 []
  refine wm_iconst (q := 1) 0 hg dX1_goalsMissed_0 rfl (by decide) ?_
  refine wm_istore_n (q := 2) (i := 1) (L' := [(0, _), (1, _)]) hg dX1_goalsMissed_1 rfl rfl rfl rfl ?_
  refine wm_iconst (q := 3) 0 hg dX1_goalsMissed_2 rfl (by decide) ?_
  refine wm_istore_n (q := 4) (i := 2) (L' := [(0, _), (1, _), (2, _)]) hg dX1_goalsMissed_3 rfl rfl rfl rfl ?_
  suffices hloop : ∀ (n i : Nat), i + n = (szN (M.1 1 c)) → WM Γ K M [(0, .ref (ad Γ 1 c 0)), (1, .int (gmS (M.1 1 c) i)), (2, .int (nI i))] 4 [] from hloop (szN (M.1 1 c)) 0 (by omega)
  intro n
  induction n with
  | zero =>
    intro i hi 
    have hz2 := hz.2
    refine wm_iload_n (q := 5) (i := 2) hg dX1_goalsMissed_4 rfl rfl rfl ?_
    refine wm_aload_n (q := 6) (i := 0) hg dX1_goalsMissed_5 rfl rfl rfl ?_
    refine wm_get (q := 9) hg dX1_goalsMissed_6 rfl fl_X1_9 (by first | assumption | decide | omega | (simp only [nO]; omega)) rfl ?_
    refine wm_icmp_ge (q := 52) (q2 := 12) hg dX1_goalsMissed_9 (by decide) rfl (fun hb => ?_) (fun hb => ?_)
    · refine wm_iload_n (q := 53) (i := 1) hg dX1_goalsMissed_52 rfl rfl rfl ?_
      exact wm_iret hg hr dX1_goalsMissed_53 (by rw [show i = (szN (M.1 1 c)) from hi]) (rfl)
    · exact absurd hb (fun h => h (lpLe hz.1 (by omega) (by omega)))
  | succ n ih =>
    intro i hi 
    have hz2 := hz.2
    refine wm_iload_n (q := 5) (i := 2) hg dX1_goalsMissed_4 rfl rfl rfl ?_
    refine wm_aload_n (q := 6) (i := 0) hg dX1_goalsMissed_5 rfl rfl rfl ?_
    refine wm_get (q := 9) hg dX1_goalsMissed_6 rfl fl_X1_9 (by first | assumption | decide | omega | (simp only [nO]; omega)) rfl ?_
    refine wm_icmp_ge (q := 52) (q2 := 12) hg dX1_goalsMissed_9 (by decide) rfl (fun hb => ?_) (fun hb => ?_)
    · exact absurd hb (lpLt hz.1 (by omega) (by omega))
    · refine wm_iload_n (q := 13) (i := 1) hg dX1_goalsMissed_12 rfl rfl rfl ?_
      refine wm_aload_n (q := 14) (i := 0) hg dX1_goalsMissed_13 rfl rfl rfl ?_
      refine wm_get (q := 17) hg dX1_goalsMissed_14 rfl fl_X1_22 (by first | assumption | decide | omega | (simp only [nO]; omega)) rfl ?_
      refine wm_iload_n (q := 18) (i := 2) hg dX1_goalsMissed_17 rfl rfl rfl ?_
      refine wm_iaload (q := 19) i hg dX1_goalsMissed_18 rfl (by first | assumption | decide | omega | (simp only [nO]; omega)) rfl rfl (by simp only [alen]; omega) ?_
      refine wm_ldc (q := 21) (-1000000009) hg dX1_goalsMissed_19 rfl ld_X1_37 ?_
      refine wm_icmp_eq (q := 43) (q2 := 24) hg dX1_goalsMissed_21 (by decide) rfl (fun h1 => ?_) (fun h1 => ?_)
      · refine wm_iconst (q := 44) 0 hg dX1_goalsMissed_43 rfl (by decide) ?_
        refine wm_iadd (q := 45) hg dX1_goalsMissed_44 rfl ?_
        refine wm_istore_n (q := 46) (i := 1) (L' := [(0, _), (1, _), (2, _)]) hg dX1_goalsMissed_45 rfl rfl rfl rfl ?_
        refine wm_iinc (q := 49) (L' := [(0, _), (1, _), (2, _)]) (nI (i + 1)) hg dX1_goalsMissed_46 rfl rfl (nadd rfl rfl) rfl rfl ?_
        refine wm_goto (q := 4) hg dX1_goalsMissed_49 (by decide) ?_
        exact wm_Leq (by simp [gmS, *]) (ih (i + 1) (by omega))
      · refine wm_aload_n (q := 25) (i := 0) hg dX1_goalsMissed_24 rfl rfl rfl ?_
        refine wm_get (q := 28) hg dX1_goalsMissed_25 rfl fl_X1_22 (by first | assumption | decide | omega | (simp only [nO]; omega)) rfl ?_
        refine wm_iload_n (q := 29) (i := 2) hg dX1_goalsMissed_28 rfl rfl rfl ?_
        refine wm_iaload (q := 30) i hg dX1_goalsMissed_29 rfl (by first | assumption | decide | omega | (simp only [nO]; omega)) rfl rfl (by simp only [alen]; omega) ?_
        refine wm_aload_n (q := 31) (i := 0) hg dX1_goalsMissed_30 rfl rfl rfl ?_
        refine wm_get (q := 34) hg dX1_goalsMissed_31 rfl fl_X1_15 (by first | assumption | decide | omega | (simp only [nO]; omega)) rfl ?_
        refine wm_iload_n (q := 35) (i := 2) hg dX1_goalsMissed_34 rfl rfl rfl ?_
        refine wm_iaload (q := 36) i hg dX1_goalsMissed_35 rfl (by first | assumption | decide | omega | (simp only [nO]; omega)) rfl rfl (by simp only [alen]; omega) ?_
        refine wm_icmp_eq (q := 43) (q2 := 39) hg dX1_goalsMissed_36 (by decide) rfl (fun h2 => ?_) (fun h2 => ?_)
        · refine wm_iconst (q := 44) 0 hg dX1_goalsMissed_43 rfl (by decide) ?_
          refine wm_iadd (q := 45) hg dX1_goalsMissed_44 rfl ?_
          refine wm_istore_n (q := 46) (i := 1) (L' := [(0, _), (1, _), (2, _)]) hg dX1_goalsMissed_45 rfl rfl rfl rfl ?_
          refine wm_iinc (q := 49) (L' := [(0, _), (1, _), (2, _)]) (nI (i + 1)) hg dX1_goalsMissed_46 rfl rfl (nadd rfl rfl) rfl rfl ?_
          refine wm_goto (q := 4) hg dX1_goalsMissed_49 (by decide) ?_
          exact wm_Leq (by simp [gmS, *]) (ih (i + 1) (by omega))
        · refine wm_iconst (q := 40) 1 hg dX1_goalsMissed_39 rfl (by decide) ?_
          refine wm_goto (q := 44) hg dX1_goalsMissed_40 (by decide) ?_
          refine wm_iadd (q := 45) hg dX1_goalsMissed_44 rfl ?_
          refine wm_istore_n (q := 46) (i := 1) (L' := [(0, _), (1, _), (2, _)]) hg dX1_goalsMissed_45 rfl rfl rfl rfl ?_
          refine wm_iinc (q := 49) (L' := [(0, _), (1, _), (2, _)]) (nI (i + 1)) hg dX1_goalsMissed_46 rfl rfl (nadd rfl rfl) rfl rfl ?_
          refine wm_goto (q := 4) hg dX1_goalsMissed_49 (by decide) ?_
          exact wm_Leq (by simp [gmS, *]) (ih (i + 1) (by omega))
set_option maxRecDepth 100000 in
set_option maxHeartbeats 4000000 in
theorem c_X1_walls {Γ : GT} {M : Mem} {c : Nat}  (hc : c < 15) (hz : ok10 (M.1 1 c)) : Ct Γ yX1_walls cX1_walls 3 (some .int) 0 [.ref (ad Γ 1 c 0)] M (some (.int (waS (M.1 1 c) (szN (M.1 1 c) - 1)))) M := by
  refine ct_of (by decide) (Nat.le_of_ble_eq_true rfl) (fun K hg hr => ?_)
  show WM Γ K _ [(0, _)] 0 []
  refine wm_iconst (q := 1) 0 hg dX1_walls_0 rfl (by decide) ?_
  refine wm_istore_n (q := 2) (i := 1) (L' := [(0, _), (1, _)]) hg dX1_walls_1 rfl rfl rfl rfl ?_
  refine wm_iconst (q := 3) 1 hg dX1_walls_2 rfl (by decide) ?_
  refine wm_istore_n (q := 4) (i := 2) (L' := [(0, _), (1, _), (2, _)]) hg dX1_walls_3 rfl rfl rfl rfl ?_
  suffices hloop : ∀ (n i : Nat), i + n = (szN (M.1 1 c) - 1) → WM Γ K M [(0, .ref (ad Γ 1 c 0)), (1, .int (waS (M.1 1 c) i)), (2, .int (nI (i + 1)))] 4 [] from hloop (szN (M.1 1 c) - 1) 0 (by omega)
  intro n
  induction n with
  | zero =>
    intro i hi 
    have hz2 := hz.2
    refine wm_iload_n (q := 5) (i := 2) hg dX1_walls_4 rfl rfl rfl ?_
    refine wm_aload_n (q := 6) (i := 0) hg dX1_walls_5 rfl rfl rfl ?_
    refine wm_get (q := 9) hg dX1_walls_6 rfl fl_X1_9 (by first | assumption | decide | omega | (simp only [nO]; omega)) rfl ?_
    refine wm_icmp_ge (q := 43) (q2 := 12) hg dX1_walls_9 (by decide) rfl (fun hb => ?_) (fun hb => ?_)
    · refine wm_iload_n (q := 44) (i := 1) hg dX1_walls_43 rfl rfl rfl ?_
      exact wm_iret hg hr dX1_walls_44 (by rw [show i = szN (M.1 1 c) - 1 from hi]) (rfl)
    · exact absurd hb (fun h => h (lpLe hz.1 (by omega) (by omega)))
  | succ n ih =>
    intro i hi 
    have hz2 := hz.2
    refine wm_iload_n (q := 5) (i := 2) hg dX1_walls_4 rfl rfl rfl ?_
    refine wm_aload_n (q := 6) (i := 0) hg dX1_walls_5 rfl rfl rfl ?_
    refine wm_get (q := 9) hg dX1_walls_6 rfl fl_X1_9 (by first | assumption | decide | omega | (simp only [nO]; omega)) rfl ?_
    refine wm_icmp_ge (q := 43) (q2 := 12) hg dX1_walls_9 (by decide) rfl (fun hb => ?_) (fun hb => ?_)
    · exact absurd hb (lpLt hz.1 (by omega) (by omega))
    · refine wm_iload_n (q := 13) (i := 1) hg dX1_walls_12 rfl rfl rfl ?_
      refine wm_aload_n (q := 14) (i := 0) hg dX1_walls_13 rfl rfl rfl ?_
      refine wm_get (q := 17) hg dX1_walls_14 rfl fl_X1_15 (by first | assumption | decide | omega | (simp only [nO]; omega)) rfl ?_
      refine wm_iload_n (q := 18) (i := 2) hg dX1_walls_17 rfl rfl rfl ?_
      refine wm_iconst (q := 19) 1 hg dX1_walls_18 rfl (by decide) ?_
      refine wm_isub (q := 20) hg dX1_walls_19 rfl ?_
      refine wm_iaload (q := 21) i hg dX1_walls_20 rfl (by first | assumption | decide | omega | (simp only [nO]; omega)) rfl (nsub (a := i + 1) (b := 1) rfl rfl (by omega)) (by simp only [alen]; omega) ?_
      refine wm_aload_n (q := 22) (i := 0) hg dX1_walls_21 rfl rfl rfl ?_
      refine wm_get (q := 25) hg dX1_walls_22 rfl fl_X1_15 (by first | assumption | decide | omega | (simp only [nO]; omega)) rfl ?_
      refine wm_iload_n (q := 26) (i := 2) hg dX1_walls_25 rfl rfl rfl ?_
      refine wm_iaload (q := 27) (i + 1) hg dX1_walls_26 rfl (by first | assumption | decide | omega | (simp only [nO]; omega)) rfl rfl (by simp only [alen]; omega) ?_
      refine wm_icmp_eq (q := 34) (q2 := 30) hg dX1_walls_27 (by decide) rfl (fun h1 => ?_) (fun h1 => ?_)
      · refine wm_iconst (q := 35) 0 hg dX1_walls_34 rfl (by decide) ?_
        refine wm_iadd (q := 36) hg dX1_walls_35 rfl ?_
        refine wm_istore_n (q := 37) (i := 1) (L' := [(0, _), (1, _), (2, _)]) hg dX1_walls_36 rfl rfl rfl rfl ?_
        refine wm_iinc (q := 40) (L' := [(0, _), (1, _), (2, _)]) (nI ((i + 1) + 1)) hg dX1_walls_37 rfl rfl (nadd rfl rfl) rfl rfl ?_
        refine wm_goto (q := 4) hg dX1_walls_40 (by decide) ?_
        exact wm_Leq (by simp [waS, *]) (ih (i + 1) (by omega))
      · refine wm_iconst (q := 31) 1 hg dX1_walls_30 rfl (by decide) ?_
        refine wm_goto (q := 35) hg dX1_walls_31 (by decide) ?_
        refine wm_iadd (q := 36) hg dX1_walls_35 rfl ?_
        refine wm_istore_n (q := 37) (i := 1) (L' := [(0, _), (1, _), (2, _)]) hg dX1_walls_36 rfl rfl rfl rfl ?_
        refine wm_iinc (q := 40) (L' := [(0, _), (1, _), (2, _)]) (nI ((i + 1) + 1)) hg dX1_walls_37 rfl rfl (nadd rfl rfl) rfl rfl ?_
        refine wm_goto (q := 4) hg dX1_walls_40 (by decide) ?_
        exact wm_Leq (by simp [waS, *]) (ih (i + 1) (by omega))
set_option maxRecDepth 100000 in
set_option maxHeartbeats 4000000 in
theorem c_X1_differencesFrom {Γ : GT} {M : Mem} {c : Nat} {o : Nat} (hc : c < 15) (hz : ok10 (M.1 1 c)) (ho : o < 15) : Ct Γ yX1_differencesFrom cX1_differencesFrom 4 (some .int) 0 [.ref (ad Γ 1 c 0), .ref (ad Γ 1 o 0)] M (some (.int (dfS (M.1 1 c) (M.1 1 o) (szN (M.1 1 c))))) M := by
  refine ct_of (by decide) (Nat.le_of_ble_eq_true rfl) (fun K hg hr => ?_)
  show WM Γ K _ [(0, _), (1, _)] 0 []
  refine wm_iconst (q := 1) 0 hg dX1_differencesFrom_0 rfl (by decide) ?_
  refine wm_istore_n (q := 2) (i := 2) (L' := [(0, _), (1, _), (2, _)]) hg dX1_differencesFrom_1 rfl rfl rfl rfl ?_
  refine wm_iconst (q := 3) 0 hg dX1_differencesFrom_2 rfl (by decide) ?_
  refine wm_istore_n (q := 4) (i := 3) (L' := [(0, _), (1, _), (2, _), (3, _)]) hg dX1_differencesFrom_3 rfl rfl rfl rfl ?_
  suffices hloop : ∀ (n i : Nat), i + n = (szN (M.1 1 c)) → WM Γ K M [(0, .ref (ad Γ 1 c 0)), (1, .ref (ad Γ 1 o 0)), (2, .int (dfS (M.1 1 c) (M.1 1 o) i)), (3, .int (nI i))] 4 [] from hloop (szN (M.1 1 c)) 0 (by omega)
  intro n
  induction n with
  | zero =>
    intro i hi 
    have hz2 := hz.2
    refine wm_iload_n (q := 5) (i := 3) hg dX1_differencesFrom_4 rfl rfl rfl ?_
    refine wm_aload_n (q := 6) (i := 0) hg dX1_differencesFrom_5 rfl rfl rfl ?_
    refine wm_get (q := 9) hg dX1_differencesFrom_6 rfl fl_X1_9 (by first | assumption | decide | omega | (simp only [nO]; omega)) rfl ?_
    refine wm_icmp_ge (q := 41) (q2 := 12) hg dX1_differencesFrom_9 (by decide) rfl (fun hb => ?_) (fun hb => ?_)
    · refine wm_iload_n (q := 42) (i := 2) hg dX1_differencesFrom_41 rfl rfl rfl ?_
      exact wm_iret hg hr dX1_differencesFrom_42 (by rw [show i = szN (M.1 1 c) from hi]) (rfl)
    · exact absurd hb (fun h => h (lpLe hz.1 (by omega) (by omega)))
  | succ n ih =>
    intro i hi 
    have hz2 := hz.2
    refine wm_iload_n (q := 5) (i := 3) hg dX1_differencesFrom_4 rfl rfl rfl ?_
    refine wm_aload_n (q := 6) (i := 0) hg dX1_differencesFrom_5 rfl rfl rfl ?_
    refine wm_get (q := 9) hg dX1_differencesFrom_6 rfl fl_X1_9 (by first | assumption | decide | omega | (simp only [nO]; omega)) rfl ?_
    refine wm_icmp_ge (q := 41) (q2 := 12) hg dX1_differencesFrom_9 (by decide) rfl (fun hb => ?_) (fun hb => ?_)
    · exact absurd hb (lpLt hz.1 (by omega) (by omega))
    · refine wm_iload_n (q := 13) (i := 2) hg dX1_differencesFrom_12 rfl rfl rfl ?_
      refine wm_aload_n (q := 14) (i := 0) hg dX1_differencesFrom_13 rfl rfl rfl ?_
      refine wm_get (q := 17) hg dX1_differencesFrom_14 rfl fl_X1_15 (by first | assumption | decide | omega | (simp only [nO]; omega)) rfl ?_
      refine wm_iload_n (q := 18) (i := 3) hg dX1_differencesFrom_17 rfl rfl rfl ?_
      refine wm_iaload (q := 19) i hg dX1_differencesFrom_18 rfl (by first | assumption | decide | omega | (simp only [nO]; omega)) rfl rfl (by simp only [alen]; omega) ?_
      refine wm_aload_n (q := 20) (i := 1) hg dX1_differencesFrom_19 rfl rfl rfl ?_
      refine wm_get (q := 23) hg dX1_differencesFrom_20 rfl fl_X1_15 (by first | assumption | decide | omega | (simp only [nO]; omega)) rfl ?_
      refine wm_iload_n (q := 24) (i := 3) hg dX1_differencesFrom_23 rfl rfl rfl ?_
      refine wm_iaload (q := 25) i hg dX1_differencesFrom_24 rfl (by first | assumption | decide | omega | (simp only [nO]; omega)) rfl rfl (by simp only [alen]; omega) ?_
      refine wm_icmp_eq (q := 32) (q2 := 28) hg dX1_differencesFrom_25 (by decide) rfl (fun h1 => ?_) (fun h1 => ?_)
      · refine wm_iconst (q := 33) 0 hg dX1_differencesFrom_32 rfl (by decide) ?_
        refine wm_iadd (q := 34) hg dX1_differencesFrom_33 rfl ?_
        refine wm_istore_n (q := 35) (i := 2) (L' := [(0, _), (1, _), (2, _), (3, _)]) hg dX1_differencesFrom_34 rfl rfl rfl rfl ?_
        refine wm_iinc (q := 38) (L' := [(0, _), (1, _), (2, _), (3, _)]) (nI (i + 1)) hg dX1_differencesFrom_35 rfl rfl (nadd rfl rfl) rfl rfl ?_
        refine wm_goto (q := 4) hg dX1_differencesFrom_38 (by decide) ?_
        exact wm_Leq (by simp [dfS, *]) (ih (i + 1) (by omega))
      · refine wm_iconst (q := 29) 1 hg dX1_differencesFrom_28 rfl (by decide) ?_
        refine wm_goto (q := 33) hg dX1_differencesFrom_29 (by decide) ?_
        refine wm_iadd (q := 34) hg dX1_differencesFrom_33 rfl ?_
        refine wm_istore_n (q := 35) (i := 2) (L' := [(0, _), (1, _), (2, _), (3, _)]) hg dX1_differencesFrom_34 rfl rfl rfl rfl ?_
        refine wm_iinc (q := 38) (L' := [(0, _), (1, _), (2, _), (3, _)]) (nI (i + 1)) hg dX1_differencesFrom_35 rfl rfl (nadd rfl rfl) rfl rfl ?_
        refine wm_goto (q := 4) hg dX1_differencesFrom_38 (by decide) ?_
        exact wm_Leq (by simp [dfS, *]) (ih (i + 1) (by omega))
