/-! ===== shed, reverse, load, mean ===== -/
theorem HU_sO {M : Mem} (h : HU M) {ci : Nat} (i : Nat) (X : OV) (h4 : (4 : Nat) ≠ ci) : HU (sO M ci i X) := by
  have e : (sO M ci i X).1 4 0 = M.1 4 0 := sO_kind _ _ _ _ h4
  have e2 : unN (sO M ci i X) = unN M := by unfold unN; rw [e]
  exact ⟨by rw [e, e2]; exact h.1, by rw [e2]; exact h.2.1, h.2.2⟩
theorem ok10_0 (C : OV) : ok10 (oI C 0 0) := ok10_sz (n := 0) (by simp only [oI, upd_same]; rfl) (by decide)
theorem szN_0 (C : OV) : szN (oI C 0 0) = 0 := szN_of (by simp only [oI, upd_same]; rfl) (by decide)
theorem apX_0 (X Y : OV) (f : Nat) : (apX X Y f).1 0 = X.1 0 + 1 := by simp [apX, cpX, oI, upd]
theorem ok10_ap {X Y : OV} {f : Nat} (hX : ok10 X) (h : szN X < 10) : ok10 (apX X Y f) ∧ szN (apX X Y f) = szN X + 1 := by
  have e : (apX X Y f).1 0 = nI (szN X + 1) := by rw [apX_0, hX.1]; exact nI_1 _
  exact ⟨ok10_sz e (by omega), szN_of e (by omega)⟩
def shR (C X : OV) : Nat → OV
  | 0 => oI C 0 0
  | i + 1 => if X.2 2 i = 1 then apX (shR C X i) X i else if 0 < pNb X i then shR C X i else apX (shR C X i) X i
theorem shR_ok (C X : OV) : ∀ i, i ≤ 10 → ok10 (shR C X i) ∧ szN (shR C X i) ≤ i
  | 0, _ => ⟨ok10_0 C, Nat.le_of_eq (szN_0 C)⟩
  | i + 1, h => by
    have h0 := shR_ok C X i (by omega)
    have ha := ok10_ap (Y := X) (f := i) h0.1 (by omega)
    unfold shR
    split
    · exact ⟨ha.1, by omega⟩
    · split
      · exact ⟨h0.1, by omega⟩
      · exact ⟨ha.1, by omega⟩
def rvL (C X : OV) : Nat → OV
  | 0 => oI C 0 0
  | j + 1 => apX (rvL C X j) X (szN X - j - 1)
theorem rvL_ok (C X : OV) : ∀ i, i ≤ 10 → ok10 (rvL C X i) ∧ szN (rvL C X i) = i
  | 0, _ => ⟨ok10_0 C, szN_0 C⟩
  | i + 1, h => by
    have h0 := rvL_ok C X i (by omega)
    have ha := ok10_ap (Y := X) (f := szN X - i - 1) h0.1 (by omega)
    exact ⟨ha.1, by show szN (apX _ _ _) = _; omega⟩
theorem ok10_mi {X : OV} (h : ok10 X) (j : Nat) : ok10 (miL X j) := ok10_1 (miL_1 X j) h
theorem ok10_tm {X Y : OV} (h : ok10 Y) : ok10 (tmX X Y) := ok10_sz (n := szN Y) (by simp only [tmX, upd_same]; exact h.1) h.2
theorem tmX_0 (X Y : OV) : (tmX X Y).1 0 = Y.1 0 := by simp [tmX, upd]
theorem rdG_ok (T : OV) : ∀ (n i : Nat) (X : OV) (bh : Int32), ok10 X → ok10 (rdG T n i X bh).2.2
  | 0, _, _, _, h => h
  | n + 1, i, X, bh, h => by
    have k := fun Y (hY : ok10 Y) b => rdG_ok T n (i + 1) Y b hY
    unfold rdG
    split
    · split
      · split
        · split
          · exact k X h _
          · exact h
        · split
          · split
            · exact k X h _
            · exact h
          · exact k (oA X 2 (upd (X.2 2) (szN X - 1) 1)) (ok10_1 rfl h) _
      · split
        · exact k X h _
        · exact h
    · split
      · next h2 =>
        refine k _ (ok10_pi h ?_ _ _) _
        have := h.2
        rcases Nat.lt_or_ge (szN X) 10 with q | q
        · exact q
        · exact absurd h2 (by rw [h.1]; exact nI_nlt (a := szN X) (b := 10) q (by omega))
      · exact h
noncomputable def fShed (M : Mem) : Int32 × Mem := if (shR (M.1 1 11) (M.1 1 0) (szN (M.1 1 0))).1 0 = 0 then (-1000000002, sO M 1 11 (shR (M.1 1 11) (M.1 1 0) (szN (M.1 1 0)))) else ((M.1 1 0).1 0 - (shR (M.1 1 11) (M.1 1 0) (szN (M.1 1 0))).1 0, chM (sO M 1 11 (shR (M.1 1 11) (M.1 1 0) (szN (M.1 1 0)))) (tmX (M.1 1 0) (shR (M.1 1 11) (M.1 1 0) (szN (M.1 1 0)))) (M.1 0 0))
def rvR (C X : OV) : OV := miL (rvL C X (szN X)) (szN (rvL C X (szN X)))
noncomputable def fRev (M : Mem) : Int32 × Mem := (dfS (M.1 1 0) (rvR (M.1 1 11) (M.1 1 0)) (szN (M.1 1 0)), chM (sO M 1 11 (rvR (M.1 1 11) (M.1 1 0))) (tmX (M.1 1 0) (rvR (M.1 1 11) (M.1 1 0))) (M.1 0 0))
noncomputable def fLoad (M : Mem) : Int32 × Mem := if (rdR (M.1 3 0) (M.1 1 11)).1 = 0 then ((rdR (M.1 3 0) (M.1 1 11)).2.2.1 0, chM (sO M 1 11 (rdR (M.1 3 0) (M.1 1 11)).2.2) (tmX (M.1 1 0) (rdR (M.1 3 0) (M.1 1 11)).2.2) (M.1 0 0)) else (-1000000002, sO (sO M 1 11 (rdR (M.1 3 0) (M.1 1 11)).2.2) 3 0 (rfX (M.1 3 0) (rdR (M.1 3 0) (M.1 1 11)).1 (nI (rdR (M.1 3 0) (M.1 1 11)).2.1)))
def fMean (M : Mem) : UInt32 := FP.fdiv (FP.i2f (energy (M.1 1 0))) (FP.i2f ((M.1 1 0).1 0))
theorem sO11_c (M : Mem) (R : OV) : (sO M 1 11 R).1 1 0 = M.1 1 0 := sO_idx _ _ _ _ (by decide)
theorem sO11_b (M : Mem) (R : OV) : (sO M 1 11 R).1 0 0 = M.1 0 0 := sO_kind _ _ _ _ (by decide)
/-- recording behind a changed copy -/
theorem recP11 {M : Mem} (h : HU M) (R : OV) : recM (sO M 1 11 R) = setP (recM (sO M 1 11 R)) (M.1 1 0) (M.1 0 0) := by
  have e := recP (HU_sO h 11 R (by decide) : HU (sO M 1 11 R))
  rw [sO11_c, sO11_b] at e
  exact e
theorem rec11 {M : Mem} (h : HU M) (R X B : OV) : (setP (recM (sO M 1 11 R)) X B).1 1 11 = R := by
  rw [setP_cg _ _ _ (by decide), recM_c (HU_sO h 11 R (by decide)) (Or.inr (by decide)), sO_same]
theorem c_tm11 {Γ : GT} {M : Mem} {R X B : OV} (h : HU M) : Ct Γ yX1_takeMagnets cX1_takeMagnets 2 none 2 [.ref (ad Γ 1 0 0), .ref (ad Γ 1 11 0)] (setP (recM (sO M 1 11 R)) X B) none (setP (recM (sO M 1 11 R)) (tmX X R) B) := by
  have k := c_X1_takeMagnets (Γ := Γ) (M := setP (recM (sO M 1 11 R)) X B) (c := 0) (o := 11) (by decide) (by decide) (by decide)
  rw [setP_c, rec11 h, setP_1] at k
  exact k
theorem c_sc11 {Γ : GT} {M : Mem} {R : OV} (h : HU M) (hz : ok10 (M.1 1 0)) : Ct Γ yX4_startChange cX4_startChange 1 (some .int) 6 [.ref (ad Γ 4 0 0)] (sO M 1 11 R) (some (.int (energy (M.1 1 0)))) (setP (recM (sO M 1 11 R)) (M.1 1 0) (M.1 0 0)) := by
  have k := c_X4_startChange (Γ := Γ) (M := sO M 1 11 R) (HU_sO h 11 R (by decide)) (by rw [sO11_c]; exact hz)
  rw [sO11_c, recP11 h] at k
  exact k
set_option maxRecDepth 100000 in
set_option maxHeartbeats 4000000 in
theorem c_X4_shed {Γ : GT} {M : Mem}  (hI : InvC M) : Ct Γ yX4_shed cX4_shed 5 (some .int) 7 [.ref (ad Γ 4 0 0)] M (some (.int (fShed M).1)) (fShed M).2 := by
  refine ct_of (by decide) (Nat.le_of_ble_eq_true rfl) (fun K hg hr => ?_)
  show WM Γ K _ [(0, _)] 0 []
  obtain ⟨hU, hC, hBB, hT⟩ := hI
  have hz := hC 0 (by decide)
  have hB := hBB 0 (by decide)
  have hz2 := hz.2
  have hC11 := hC 11 (by decide)
  refine wm_aload_n (q := 1) (i := 0) hg dX4_shed_0 rfl rfl rfl ?_
  refine wm_get (q := 4) hg dX4_shed_1 rfl fl_X4_10 (by first | assumption | decide | omega | (simp only [nO]; omega)) rfl ?_
  refine wm_get (q := 7) hg dX4_shed_4 rfl fl_X4_50 (by first | assumption | decide | omega | (simp only [nO]; omega)) rfl ?_
  refine wm_astore_n (q := 8) (i := 1) (L' := [(0, _), (1, _)]) hg dX4_shed_7 rfl rfl rfl rfl ?_
  refine wm_aload_n (q := 9) (i := 0) hg dX4_shed_8 rfl rfl rfl ?_
  refine wm_get (q := 12) hg dX4_shed_9 rfl fl_X4_40 (by first | assumption | decide | omega | (simp only [nO]; omega)) rfl ?_
  refine wm_iconst (q := 13) 0 hg dX4_shed_12 rfl (by decide) ?_
  refine wm_cload (q := 14) 0 hg dX4_shed_13 rfl (rfl : (0 : Int32) = nI 0) (by omega) ?_
  refine wm_astore_n (q := 15) (i := 2) (L' := [(0, _), (1, _), (2, _)]) hg dX4_shed_14 rfl rfl rfl rfl ?_
  refine wm_aload_n (q := 16) (i := 2) hg dX4_shed_15 rfl rfl rfl ?_
  refine wm_iconst (q := 17) 0 hg dX4_shed_16 rfl (by decide) ?_
  refine wm_put (q := 20) hg dX4_shed_17 rfl fl_X4_54 (by first | assumption | decide | omega | (simp only [nO]; omega)) rfl ?_
  refine wm_iconst (q := 21) 0 hg dX4_shed_20 rfl (by decide) ?_
  refine wm_istore_n (q := 22) (i := 3) (L' := [(0, _), (1, _), (2, _), (3, _)]) hg dX4_shed_21 rfl rfl rfl rfl ?_
  suffices hloop : ∀ (n i : Nat), i + n = (szN (M.1 1 0)) → WM Γ K (sO M 1 11 (shR (M.1 1 11) (M.1 1 0) i)) [(0, .ref (ad Γ 4 0 0)), (1, .ref (ad Γ 1 0 0)), (2, .ref (ad Γ 1 11 0)), (3, .int (nI i))] 22 [] from hloop (szN (M.1 1 0)) 0 (by omega)
  intro n
  induction n with
  | zero =>
    intro i hi 
    have eX : (sO M 1 11 (shR (M.1 1 11) (M.1 1 0) i)).1 1 0 = (M.1 1 0) := sO11_c _ _
    have hsz : ((sO M 1 11 (shR (M.1 1 11) (M.1 1 0) i)).1 1 0).1 0 = nI (szN (M.1 1 0)) := by rw [eX]; exact hz.1
    have hR := shR_ok (M.1 1 11) (M.1 1 0) i (by omega)
    refine wm_iload_n (q := 23) (i := 3) hg dX4_shed_22 rfl rfl rfl ?_
    refine wm_aload_n (q := 24) (i := 1) hg dX4_shed_23 rfl rfl rfl ?_
    refine wm_get (q := 27) hg dX4_shed_24 rfl fl_X4_54 (by first | assumption | decide | omega | (simp only [nO]; omega)) rfl ?_
    refine wm_icmp_ge (q := 60) (q2 := 30) hg dX4_shed_27 (by decide) rfl (fun hb => ?_) (fun hb => ?_)
    · have he : i = (szN (M.1 1 0)) := by omega
      subst he
      have hR10 := hR.1
      refine wm_aload_n (q := 61) (i := 2) hg dX4_shed_60 rfl rfl rfl ?_
      refine wm_get (q := 64) hg dX4_shed_61 rfl fl_X4_54 (by first | assumption | decide | omega | (simp only [nO]; omega)) rfl ?_
      refine wm_if_ne (q := 70) (q2 := 67) hg dX4_shed_64 (by decide) rfl (fun h1 => ?_) (fun h1 => ?_)
      · rw [sO_same] at h1
        refine wm_aload_n (q := 71) (i := 1) hg dX4_shed_70 rfl rfl rfl ?_
        refine wm_get (q := 74) hg dX4_shed_71 rfl fl_X4_54 (by first | assumption | decide | omega | (simp only [nO]; omega)) rfl ?_
        refine wm_aload_n (q := 75) (i := 2) hg dX4_shed_74 rfl rfl rfl ?_
        refine wm_get (q := 78) hg dX4_shed_75 rfl fl_X4_54 (by first | assumption | decide | omega | (simp only [nO]; omega)) rfl ?_
        refine wm_isub (q := 79) hg dX4_shed_78 rfl ?_
        refine wm_istore_n (q := 80) (i := 3) (L' := [(0, _), (1, _), (2, _), (3, _)]) hg dX4_shed_79 rfl rfl rfl rfl ?_
        refine wm_aload_n (q := 81) (i := 0) hg dX4_shed_80 rfl rfl rfl ?_
        refine wm_callV1 (q := 84) hg dX4_shed_81 rfl lk_X4_82 (by first | decide | omega) (c_sc11 hU hz) (by first | assumption | decide | omega | (simp only [nO]; omega)) ⟨rfl, by decide⟩ rfl rfl (Nat.le_of_ble_eq_true rfl) ?_
        refine wm_istore (q := 86) (i := 4) (L' := [(0, _), (1, _), (2, _), (3, _), (4, _)]) hg dX4_shed_84 rfl rfl rfl ?_
        refine wm_aload_n (q := 87) (i := 1) hg dX4_shed_86 rfl rfl rfl ?_
        refine wm_aload_n (q := 88) (i := 2) hg dX4_shed_87 rfl rfl rfl ?_
        refine wm_callV0 (q := 91) hg dX4_shed_88 rfl lk_X4_115 (by first | decide | omega) (c_tm11 hU) (by first | assumption | decide | omega | (simp only [nO]; omega)) ⟨rfl, by decide⟩ rfl rfl (Nat.le_of_ble_eq_true rfl) ?_
        refine wm_aload_n (q := 92) (i := 0) hg dX4_shed_91 rfl rfl rfl ?_
        refine wm_iload (q := 94) (i := 4) hg dX4_shed_92 rfl rfl ?_
        refine wm_callV1 (q := 97) hg dX4_shed_94 rfl lk_X4_90 (by first | decide | omega) (c_endCh (ok10_tm hR10) hB) (by first | assumption | decide | omega | (simp only [nO]; omega)) ⟨rfl, by decide⟩ rfl rfl (Nat.le_of_ble_eq_true rfl) ?_
        refine wm_pop (q := 98) hg dX4_shed_97 rfl rfl ?_
        refine wm_iload_n (q := 99) (i := 3) hg dX4_shed_98 rfl rfl rfl ?_
        exact wm_iret hg hr dX4_shed_99 (by simp only [fShed, if_neg h1, eX, sO_same]) (by simp only [fShed, if_neg h1, chM, sO11_c])
      · rw [sO_same] at h1
        refine wm_ldc (q := 69) (-1000000002) hg dX4_shed_67 rfl ld_X4_97 ?_
        exact wm_iret hg hr dX4_shed_69 (by simp only [fShed, if_pos h1]) (by simp only [fShed, if_pos h1])
    · exact absurd (lpLe hsz (by omega) (by omega)) hb
  | succ n ih =>
    intro i hi 
    have eX : (sO M 1 11 (shR (M.1 1 11) (M.1 1 0) i)).1 1 0 = (M.1 1 0) := sO11_c _ _
    have hsz : ((sO M 1 11 (shR (M.1 1 11) (M.1 1 0) i)).1 1 0).1 0 = nI (szN (M.1 1 0)) := by rw [eX]; exact hz.1
    have hR := shR_ok (M.1 1 11) (M.1 1 0) i (by omega)
    refine wm_iload_n (q := 23) (i := 3) hg dX4_shed_22 rfl rfl rfl ?_
    refine wm_aload_n (q := 24) (i := 1) hg dX4_shed_23 rfl rfl rfl ?_
    refine wm_get (q := 27) hg dX4_shed_24 rfl fl_X4_54 (by first | assumption | decide | omega | (simp only [nO]; omega)) rfl ?_
    refine wm_icmp_ge (q := 60) (q2 := 30) hg dX4_shed_27 (by decide) rfl (fun hb => ?_) (fun hb => ?_)
    · exact absurd hb (lpLt hsz (by omega) (by omega))
    · refine wm_aload_n (q := 31) (i := 1) hg dX4_shed_30 rfl rfl rfl ?_
      refine wm_get (q := 34) hg dX4_shed_31 rfl fl_X4_105 (by first | assumption | decide | omega | (simp only [nO]; omega)) rfl ?_
      refine wm_iload_n (q := 35) (i := 3) hg dX4_shed_34 rfl rfl rfl ?_
      refine wm_iaload (q := 36) i hg dX4_shed_35 rfl (by first | assumption | decide | omega | (simp only [nO]; omega)) rfl rfl (by simp only [alen]; omega) ?_
      refine wm_iconst (q := 37) 1 hg dX4_shed_36 rfl (by decide) ?_
      refine wm_icmp_eq (q := 48) (q2 := 40) hg dX4_shed_37 (by decide) rfl (fun h1 => ?_) (fun h1 => ?_)
      · refine wm_aload_n (q := 49) (i := 2) hg dX4_shed_48 rfl rfl rfl ?_
        refine wm_aload_n (q := 50) (i := 1) hg dX4_shed_49 rfl rfl rfl ?_
        refine wm_iload_n (q := 51) (i := 3) hg dX4_shed_50 rfl rfl rfl ?_
        refine wm_callV0 (q := 54) hg dX4_shed_51 rfl lk_X4_111 (by first | decide | omega) (c_X1_append (by decide) (by decide) (by rw [sO_same]; exact hR.1) (by rw [sO_same]; omega) rfl (by omega)) (by first | assumption | decide | omega | (simp only [nO]; omega)) ⟨rfl, by decide⟩ rfl rfl (Nat.le_of_ble_eq_true rfl) ?_
        refine wm_iinc (q := 57) (L' := [(0, _), (1, _), (2, _), (3, _)]) (nI (i + 1)) hg dX4_shed_54 rfl rfl (nadd rfl rfl) rfl rfl ?_
        refine wm_goto (q := 22) hg dX4_shed_57 (by decide) ?_
        refine wm_mem ?_ (ih (i + 1) (by omega))
        first | (simp only [eX, sO_same, sO_sO, shR] at *; simp [*]; done) | skip
      · refine wm_aload_n (q := 41) (i := 1) hg dX4_shed_40 rfl rfl rfl ?_
        refine wm_iload_n (q := 42) (i := 3) hg dX4_shed_41 rfl rfl rfl ?_
        refine wm_callV1 (q := 45) hg dX4_shed_42 rfl lk_X4_108 (by first | decide | omega) (c_X1_pullOfNeighbors (by decide) (by rw [eX]; exact hz) rfl (by omega)) (by first | assumption | decide | omega | (simp only [nO]; omega)) ⟨rfl, by decide⟩ rfl rfl (Nat.le_of_ble_eq_true rfl) ?_
        refine wm_if_gt (q := 54) (q2 := 48) hg dX4_shed_45 (by decide) rfl (fun h2 => ?_) (fun h2 => ?_)
        · refine wm_iinc (q := 57) (L' := [(0, _), (1, _), (2, _), (3, _)]) (nI (i + 1)) hg dX4_shed_54 rfl rfl (nadd rfl rfl) rfl rfl ?_
          refine wm_goto (q := 22) hg dX4_shed_57 (by decide) ?_
          refine wm_mem ?_ (ih (i + 1) (by omega))
          first | (simp only [eX, sO_same, sO_sO, shR] at *; simp [*]; done) | skip
        · refine wm_aload_n (q := 49) (i := 2) hg dX4_shed_48 rfl rfl rfl ?_
          refine wm_aload_n (q := 50) (i := 1) hg dX4_shed_49 rfl rfl rfl ?_
          refine wm_iload_n (q := 51) (i := 3) hg dX4_shed_50 rfl rfl rfl ?_
          refine wm_callV0 (q := 54) hg dX4_shed_51 rfl lk_X4_111 (by first | decide | omega) (c_X1_append (by decide) (by decide) (by rw [sO_same]; exact hR.1) (by rw [sO_same]; omega) rfl (by omega)) (by first | assumption | decide | omega | (simp only [nO]; omega)) ⟨rfl, by decide⟩ rfl rfl (Nat.le_of_ble_eq_true rfl) ?_
          refine wm_iinc (q := 57) (L' := [(0, _), (1, _), (2, _), (3, _)]) (nI (i + 1)) hg dX4_shed_54 rfl rfl (nadd rfl rfl) rfl rfl ?_
          refine wm_goto (q := 22) hg dX4_shed_57 (by decide) ?_
          refine wm_mem ?_ (ih (i + 1) (by omega))
          first | (simp only [eX, sO_same, sO_sO, shR] at *; simp [*]; done) | skip
set_option maxRecDepth 100000 in
set_option maxHeartbeats 4000000 in
theorem c_X4_reverse {Γ : GT} {M : Mem}  (hI : InvC M) : Ct Γ yX4_reverse cX4_reverse 5 (some .int) 7 [.ref (ad Γ 4 0 0)] M (some (.int (fRev M).1)) (fRev M).2 := by
  refine ct_of (by decide) (Nat.le_of_ble_eq_true rfl) (fun K hg hr => ?_)
  show WM Γ K _ [(0, _)] 0 []
  obtain ⟨hU, hC, hBB, hT⟩ := hI
  have hz := hC 0 (by decide)
  have hB := hBB 0 (by decide)
  have hz2 := hz.2
  have hC11 := hC 11 (by decide)
  refine wm_aload_n (q := 1) (i := 0) hg dX4_reverse_0 rfl rfl rfl ?_
  refine wm_get (q := 4) hg dX4_reverse_1 rfl fl_X4_10 (by first | assumption | decide | omega | (simp only [nO]; omega)) rfl ?_
  refine wm_get (q := 7) hg dX4_reverse_4 rfl fl_X4_50 (by first | assumption | decide | omega | (simp only [nO]; omega)) rfl ?_
  refine wm_astore_n (q := 8) (i := 1) (L' := [(0, _), (1, _)]) hg dX4_reverse_7 rfl rfl rfl rfl ?_
  refine wm_aload_n (q := 9) (i := 0) hg dX4_reverse_8 rfl rfl rfl ?_
  refine wm_get (q := 12) hg dX4_reverse_9 rfl fl_X4_40 (by first | assumption | decide | omega | (simp only [nO]; omega)) rfl ?_
  refine wm_iconst (q := 13) 0 hg dX4_reverse_12 rfl (by decide) ?_
  refine wm_cload (q := 14) 0 hg dX4_reverse_13 rfl (rfl : (0 : Int32) = nI 0) (by omega) ?_
  refine wm_astore_n (q := 15) (i := 2) (L' := [(0, _), (1, _), (2, _)]) hg dX4_reverse_14 rfl rfl rfl rfl ?_
  refine wm_aload_n (q := 16) (i := 2) hg dX4_reverse_15 rfl rfl rfl ?_
  refine wm_iconst (q := 17) 0 hg dX4_reverse_16 rfl (by decide) ?_
  refine wm_put (q := 20) hg dX4_reverse_17 rfl fl_X4_54 (by first | assumption | decide | omega | (simp only [nO]; omega)) rfl ?_
  refine wm_aload_n (q := 21) (i := 1) hg dX4_reverse_20 rfl rfl rfl ?_
  refine wm_get (q := 24) hg dX4_reverse_21 rfl fl_X4_54 (by first | assumption | decide | omega | (simp only [nO]; omega)) rfl ?_
  refine wm_iconst (q := 25) 1 hg dX4_reverse_24 rfl (by decide) ?_
  refine wm_isub (q := 26) hg dX4_reverse_25 rfl ?_
  refine wm_istore_n (q := 27) (i := 3) (L' := [(0, _), (1, _), (2, _), (3, _)]) hg dX4_reverse_26 rfl rfl rfl rfl ?_
  suffices hloop : ∀ (n j : Nat), j + n = (szN (M.1 1 0)) → WM Γ K (sO M 1 11 (rvL (M.1 1 11) (M.1 1 0) j)) [(0, .ref (ad Γ 4 0 0)), (1, .ref (ad Γ 1 0 0)), (2, .ref (ad Γ 1 11 0)), (3, .int (nI ((szN (M.1 1 0)) - j) - 1))] 27 [] from wm_Leq (by rw [sO11_c, hz.1]; rfl) (hloop (szN (M.1 1 0)) 0 (by omega))
  intro n
  induction n with
  | zero =>
    intro j hj
    have he : j = (szN (M.1 1 0)) := by omega
    subst he
    have hR := rvL_ok (M.1 1 11) (M.1 1 0) (szN (M.1 1 0)) hz2
    have hM := ok10_mi hR.1 (szN (rvL (M.1 1 11) (M.1 1 0) (szN (M.1 1 0))))
    refine wm_iload_n (q := 28) (i := 3) hg dX4_reverse_27 rfl rfl rfl ?_
    refine wm_if_lt (q := 43) (q2 := 31) hg dX4_reverse_28 (by decide) rfl (fun hb => ?_) (fun hb => ?_)
    · refine wm_aload_n (q := 44) (i := 2) hg dX4_reverse_43 rfl rfl rfl ?_
      refine wm_callV0 (q := 47) hg dX4_reverse_44 rfl lk_X4_119 (by first | decide | omega) (c_X1_mirror (by decide) (by rw [sO_same]; exact hR.1)) (by first | assumption | decide | omega | (simp only [nO]; omega)) ⟨rfl, by decide⟩ rfl rfl (Nat.le_of_ble_eq_true rfl) ?_
      refine wm_mem (M' := (sO M 1 11 (rvR (M.1 1 11) (M.1 1 0)))) (by simp only [sO_same, sO_sO, rvR]) ?_
      refine wm_aload_n (q := 48) (i := 1) hg dX4_reverse_47 rfl rfl rfl ?_
      refine wm_aload_n (q := 49) (i := 2) hg dX4_reverse_48 rfl rfl rfl ?_
      refine wm_callV1 (q := 52) hg dX4_reverse_49 rfl lk_X4_122 (by first | decide | omega) (c_X1_differencesFrom (M := (sO M 1 11 (rvR (M.1 1 11) (M.1 1 0)))) (by decide) (by rw [sO11_c]; exact hz) (by decide)) (by first | assumption | decide | omega | (simp only [nO]; omega)) ⟨rfl, by decide⟩ rfl rfl (Nat.le_of_ble_eq_true rfl) ?_
      refine wm_istore_n (q := 53) (i := 3) (L' := [(0, _), (1, _), (2, _), (3, _)]) hg dX4_reverse_52 rfl rfl rfl rfl ?_
      refine wm_aload_n (q := 54) (i := 0) hg dX4_reverse_53 rfl rfl rfl ?_
      refine wm_callV1 (q := 57) hg dX4_reverse_54 rfl lk_X4_82 (by first | decide | omega) (c_sc11 hU hz) (by first | assumption | decide | omega | (simp only [nO]; omega)) ⟨rfl, by decide⟩ rfl rfl (Nat.le_of_ble_eq_true rfl) ?_
      refine wm_istore (q := 59) (i := 4) (L' := [(0, _), (1, _), (2, _), (3, _), (4, _)]) hg dX4_reverse_57 rfl rfl rfl ?_
      refine wm_aload_n (q := 60) (i := 1) hg dX4_reverse_59 rfl rfl rfl ?_
      refine wm_aload_n (q := 61) (i := 2) hg dX4_reverse_60 rfl rfl rfl ?_
      refine wm_callV0 (q := 64) hg dX4_reverse_61 rfl lk_X4_115 (by first | decide | omega) (c_tm11 hU) (by first | assumption | decide | omega | (simp only [nO]; omega)) ⟨rfl, by decide⟩ rfl rfl (Nat.le_of_ble_eq_true rfl) ?_
      refine wm_aload_n (q := 65) (i := 0) hg dX4_reverse_64 rfl rfl rfl ?_
      refine wm_iload (q := 67) (i := 4) hg dX4_reverse_65 rfl rfl ?_
      refine wm_callV1 (q := 70) hg dX4_reverse_67 rfl lk_X4_90 (by first | decide | omega) (c_endCh (ok10_tm hM) hB) (by first | assumption | decide | omega | (simp only [nO]; omega)) ⟨rfl, by decide⟩ rfl rfl (Nat.le_of_ble_eq_true rfl) ?_
      refine wm_pop (q := 71) hg dX4_reverse_70 rfl rfl ?_
      refine wm_iload_n (q := 72) (i := 3) hg dX4_reverse_71 rfl rfl rfl ?_
      exact wm_iret hg hr dX4_reverse_72 (by simp only [fRev, sO11_c, sO_same]) (by simp only [fRev, chM, sO11_c])
    · exact absurd (show nI ((szN (M.1 1 0)) - (szN (M.1 1 0))) - 1 < 0 by rw [Nat.sub_self]; decide) hb
  | succ n ih =>
    intro j hj
    have hR := rvL_ok (M.1 1 11) (M.1 1 0) j (by omega)
    have hd : nI ((szN (M.1 1 0)) - j) - 1 = nI ((szN (M.1 1 0)) - j - 1) := nsub rfl rfl (by omega)
    have eX : (sO M 1 11 (rvL (M.1 1 11) (M.1 1 0) j)).1 1 0 = (M.1 1 0) := sO11_c _ _
    rw [hd]
    refine wm_iload_n (q := 28) (i := 3) hg dX4_reverse_27 rfl rfl rfl ?_
    refine wm_if_lt (q := 43) (q2 := 31) hg dX4_reverse_28 (by decide) rfl (fun hb => ?_) (fun hb => ?_)
    · exact absurd hb (nI_pos (by omega))
    · refine wm_aload_n (q := 32) (i := 2) hg dX4_reverse_31 rfl rfl rfl ?_
      refine wm_aload_n (q := 33) (i := 1) hg dX4_reverse_32 rfl rfl rfl ?_
      refine wm_iload_n (q := 34) (i := 3) hg dX4_reverse_33 rfl rfl rfl ?_
      refine wm_callV0 (q := 37) hg dX4_reverse_34 rfl lk_X4_111 (by first | decide | omega) (c_X1_append (by decide) (by decide) (by rw [sO_same]; exact hR.1) (by rw [sO_same]; omega) rfl (by omega)) (by first | assumption | decide | omega | (simp only [nO]; omega)) ⟨rfl, by decide⟩ rfl rfl (Nat.le_of_ble_eq_true rfl) ?_
      refine wm_iinc (q := 40) (L' := [(0, _), (1, _), (2, _), (3, _)]) _ hg dX4_reverse_37 rfl rfl rfl rfl rfl ?_
      refine wm_goto (q := 27) hg dX4_reverse_40 (by decide) ?_
      refine wm_mem (M' := sO M 1 11 (rvL (M.1 1 11) (M.1 1 0) (j + 1))) (by simp only [eX, sO_same, sO_sO, rvL]) (wm_Leq ?_ (ih (j + 1) (by omega)))
      rw [show (szN (M.1 1 0)) - (j + 1) = (szN (M.1 1 0)) - j - 1 by omega, Int32.sub_eq_add_neg (nI ((szN (M.1 1 0)) - j - 1)) 1]; rfl
set_option maxRecDepth 100000 in
set_option maxHeartbeats 4000000 in
theorem c_X4_load {Γ : GT} {M : Mem}  (hI : InvC M) : Ct Γ yX4_load cX4_load 3 (some .int) 7 [.ref (ad Γ 4 0 0)] M (some (.int (fLoad M).1)) (fLoad M).2 := by
  refine ct_of (by decide) (Nat.le_of_ble_eq_true rfl) (fun K hg hr => ?_)
  show WM Γ K _ [(0, _)] 0 []
  obtain ⟨hU, hC, hBB, hT⟩ := hI
  have hz := hC 0 (by decide)
  have hB := hBB 0 (by decide)
  have hz2 := hz.2
  have hC11 := hC 11 (by decide)
  have hRk : ok10 (rdR (M.1 3 0) (M.1 1 11)).2.2 := rdG_ok _ _ _ _ _ (ok10_0 _)
  by_cases h1 : (rdR (M.1 3 0) (M.1 1 11)).1 = 0
  · refine wm_aload_n (q := 1) (i := 0) hg dX4_load_0 rfl rfl rfl ?_
    refine wm_get (q := 4) hg dX4_load_1 rfl fl_X4_40 (by first | assumption | decide | omega | (simp only [nO]; omega)) rfl ?_
    refine wm_iconst (q := 5) 0 hg dX4_load_4 rfl (by decide) ?_
    refine wm_cload (q := 6) 0 hg dX4_load_5 rfl (rfl : (0 : Int32) = nI 0) (by omega) ?_
    refine wm_astore_n (q := 7) (i := 1) (L' := [(0, _), (1, _)]) hg dX4_load_6 rfl rfl rfl rfl ?_
    refine wm_aload_n (q := 8) (i := 0) hg dX4_load_7 rfl rfl rfl ?_
    refine wm_get (q := 11) hg dX4_load_8 rfl fl_X4_34 (by first | assumption | decide | omega | (simp only [nO]; omega)) rfl ?_
    refine wm_aload_n (q := 12) (i := 1) hg dX4_load_11 rfl rfl rfl ?_
    refine wm_callV1 (q := 15) hg dX4_load_12 rfl lk_X4_225 (by first | decide | omega) (c_X3_readInto1 hT h1) (by first | assumption | decide | omega | (simp only [nO]; omega)) ⟨rfl, by decide⟩ rfl rfl (Nat.le_of_ble_eq_true rfl) ?_
    refine wm_if_ne (q := 21) (q2 := 18) hg dX4_load_15 (by decide) rfl (fun h2 => ?_) (fun h2 => ?_)
    · refine wm_aload_n (q := 22) (i := 0) hg dX4_load_21 rfl rfl rfl ?_
      refine wm_callV1 (q := 25) hg dX4_load_22 rfl lk_X4_82 (by first | decide | omega) (c_sc11 hU hz) (by first | assumption | decide | omega | (simp only [nO]; omega)) ⟨rfl, by decide⟩ rfl rfl (Nat.le_of_ble_eq_true rfl) ?_
      refine wm_istore_n (q := 26) (i := 2) (L' := [(0, _), (1, _), (2, _)]) hg dX4_load_25 rfl rfl rfl rfl ?_
      refine wm_aload_n (q := 27) (i := 0) hg dX4_load_26 rfl rfl rfl ?_
      refine wm_get (q := 30) hg dX4_load_27 rfl fl_X4_10 (by first | assumption | decide | omega | (simp only [nO]; omega)) rfl ?_
      refine wm_get (q := 33) hg dX4_load_30 rfl fl_X4_50 (by first | assumption | decide | omega | (simp only [nO]; omega)) rfl ?_
      refine wm_aload_n (q := 34) (i := 1) hg dX4_load_33 rfl rfl rfl ?_
      refine wm_callV0 (q := 37) hg dX4_load_34 rfl lk_X4_115 (by first | decide | omega) (c_tm11 hU) (by first | assumption | decide | omega | (simp only [nO]; omega)) ⟨rfl, by decide⟩ rfl rfl (Nat.le_of_ble_eq_true rfl) ?_
      refine wm_aload_n (q := 38) (i := 0) hg dX4_load_37 rfl rfl rfl ?_
      refine wm_iload_n (q := 39) (i := 2) hg dX4_load_38 rfl rfl rfl ?_
      refine wm_callV1 (q := 42) hg dX4_load_39 rfl lk_X4_90 (by first | decide | omega) (c_endCh (ok10_tm hRk) hB) (by first | assumption | decide | omega | (simp only [nO]; omega)) ⟨rfl, by decide⟩ rfl rfl (Nat.le_of_ble_eq_true rfl) ?_
      refine wm_pop (q := 43) hg dX4_load_42 rfl rfl ?_
      refine wm_aload_n (q := 44) (i := 0) hg dX4_load_43 rfl rfl rfl ?_
      refine wm_get (q := 47) hg dX4_load_44 rfl fl_X4_10 (by first | assumption | decide | omega | (simp only [nO]; omega)) rfl ?_
      refine wm_get (q := 50) hg dX4_load_47 rfl fl_X4_50 (by first | assumption | decide | omega | (simp only [nO]; omega)) rfl ?_
      refine wm_get (q := 53) hg dX4_load_50 rfl fl_X4_54 (by first | assumption | decide | omega | (simp only [nO]; omega)) rfl ?_
      exact wm_iret hg hr dX4_load_53 (by simp only [fLoad, if_pos h1, setP_c, endX, stQ_1, tmX_0]) (by simp only [fLoad, if_pos h1, chM, sO11_c])
    · exact absurd h2 (by decide)
  · refine wm_aload_n (q := 1) (i := 0) hg dX4_load_0 rfl rfl rfl ?_
    refine wm_get (q := 4) hg dX4_load_1 rfl fl_X4_40 (by first | assumption | decide | omega | (simp only [nO]; omega)) rfl ?_
    refine wm_iconst (q := 5) 0 hg dX4_load_4 rfl (by decide) ?_
    refine wm_cload (q := 6) 0 hg dX4_load_5 rfl (rfl : (0 : Int32) = nI 0) (by omega) ?_
    refine wm_astore_n (q := 7) (i := 1) (L' := [(0, _), (1, _)]) hg dX4_load_6 rfl rfl rfl rfl ?_
    refine wm_aload_n (q := 8) (i := 0) hg dX4_load_7 rfl rfl rfl ?_
    refine wm_get (q := 11) hg dX4_load_8 rfl fl_X4_34 (by first | assumption | decide | omega | (simp only [nO]; omega)) rfl ?_
    refine wm_aload_n (q := 12) (i := 1) hg dX4_load_11 rfl rfl rfl ?_
    refine wm_callV1 (q := 15) hg dX4_load_12 rfl lk_X4_225 (by first | decide | omega) (c_X3_readInto0 hT h1) (by first | assumption | decide | omega | (simp only [nO]; omega)) ⟨rfl, by decide⟩ rfl rfl (Nat.le_of_ble_eq_true rfl) ?_
    refine wm_if_ne (q := 21) (q2 := 18) hg dX4_load_15 (by decide) rfl (fun h2 => ?_) (fun h2 => ?_)
    · exact absurd rfl h2
    · refine wm_ldc (q := 20) (-1000000002) hg dX4_load_18 rfl ld_X4_97 ?_
      exact wm_iret hg hr dX4_load_20 (by simp only [fLoad, if_neg h1]) (by simp only [fLoad, if_neg h1])
set_option maxRecDepth 100000 in
set_option maxHeartbeats 4000000 in
theorem c_X4_mean {Γ : GT} {M : Mem} (hI : InvC M) (h1s : 1 ≤ szN (M.1 1 0)) (hn : vf_n32 (fMean M)) : Ct Γ yX4_mean cX4_mean 2 (some .float) 3 [.ref (ad Γ 4 0 0)] M (some (.float (fMean M))) M := by
  refine ct_of (by decide) (Nat.le_of_ble_eq_true rfl) (fun K hg hr => ?_)
  show WM Γ K _ [(0, _)] 0 []
  obtain ⟨hU, hC, hBB, hT⟩ := hI
  have hz := hC 0 (by decide)
  have hB := hBB 0 (by decide)
  have hz2 := hz.2
  refine wm_aload_n (q := 1) (i := 0) hg dX4_mean_0 rfl rfl rfl ?_
  refine wm_get (q := 4) hg dX4_mean_1 rfl fl_X4_10 (by first | assumption | decide | omega | (simp only [nO]; omega)) rfl ?_
  refine wm_get (q := 7) hg dX4_mean_4 rfl fl_X4_50 (by first | assumption | decide | omega | (simp only [nO]; omega)) rfl ?_
  refine wm_get (q := 10) hg dX4_mean_7 rfl fl_X4_54 (by first | assumption | decide | omega | (simp only [nO]; omega)) rfl ?_
  refine wm_istore_n (q := 11) (i := 1) (L' := [(0, _), (1, _)]) hg dX4_mean_10 rfl rfl rfl rfl ?_
  refine wm_iload_n (q := 12) (i := 1) hg dX4_mean_11 rfl rfl rfl ?_
  refine wm_if_le (q := 32) (q2 := 15) hg dX4_mean_12 (by decide) rfl (fun h2 => ?_) (fun h2 => ?_)
  · exact absurd h2 (lpLt hz.1 (by omega) (by omega) : ¬ (M.1 1 0).1 0 ≤ nI 0)
  · refine wm_aload_n (q := 16) (i := 0) hg dX4_mean_15 rfl rfl rfl ?_
    refine wm_get (q := 19) hg dX4_mean_16 rfl fl_X4_10 (by first | assumption | decide | omega | (simp only [nO]; omega)) rfl ?_
    refine wm_get (q := 22) hg dX4_mean_19 rfl fl_X4_50 (by first | assumption | decide | omega | (simp only [nO]; omega)) rfl ?_
    refine wm_callV1 (q := 25) hg dX4_mean_22 rfl lk_X4_159 (by first | decide | omega) (c_X1_energy (by first | assumption | decide | omega) (by first | assumption | decide | omega)) (by first | assumption | decide | omega | (simp only [nO]; omega)) ⟨rfl, by decide⟩ rfl rfl (Nat.le_of_ble_eq_true rfl) ?_
    refine wm_i2f (q := 26) hg dX4_mean_25 rfl ?_
    refine wm_iload_n (q := 27) (i := 1) hg dX4_mean_26 rfl rfl rfl ?_
    refine wm_i2f (q := 28) hg dX4_mean_27 rfl ?_
    refine wm_fdiv (q := 29) hg dX4_mean_28 rfl hn ?_
    refine wm_goto (q := 33) hg dX4_mean_29 (by decide) ?_
    exact wm_fret hg hr dX4_mean_33 (rfl) (rfl)
