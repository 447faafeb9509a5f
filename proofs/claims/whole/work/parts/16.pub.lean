/-! ===== the public methods of MagnetChain ===== -/
theorem wthn_n {v : Int32} {lo hi : Nat} (h : ¬ wthn v (nI lo) (nI hi) = 0) (hh : hi < 2 ^ 31) (hl : lo ≤ hi) : ∃ k, lo ≤ k ∧ k ≤ hi ∧ v = nI k := by
  rw [wthn_iff] at h
  have h1 : ¬ v < nI lo := fun z => h (Or.inl z)
  have h2 : ¬ nI hi < v := fun z => h (Or.inr z)
  have h3 : ¬ v < 0 := by
    intro z
    have a1 : (nI lo).toInt = lo := nI_toInt (by omega)
    have a2 := Int32.lt_iff_toInt_lt.mp z
    have a3 : ¬ v.toInt < (nI lo).toInt := fun q => h1 (Int32.lt_iff_toInt_lt.mpr q)
    have a4 : (0 : Int32).toInt = 0 := by decide
    omega
  obtain ⟨k, hk, rfl⟩ := nI_of h3
  refine ⟨k, ?_, ?_, rfl⟩
  · rcases Nat.lt_or_ge k lo with q | q
    · exact absurd (nI_lt q (by omega)) h1
    · exact q
  · rcases Nat.lt_or_ge hi k with q | q
    · exact absurd (nI_lt q hk) h2
    · exact q
theorem wthn_sz {v : Int32} {X : OV} (hX : ok10 X) (h : ¬ wthn v 0 (X.1 0 - 1) = 0) : v = nI v.toNatClampNeg ∧ v.toNatClampNeg < szN X ∧ v.toNatClampNeg < 10 := by
  rw [wthn_iff] at h
  have h1 : ¬ v < 0 := fun z => h (Or.inl z)
  have h2 : ¬ X.1 0 - 1 < v := fun z => h (Or.inr z)
  obtain ⟨k, hk, rfl⟩ := nI_of h1
  rw [nI_clamp hk]
  have h10 := hX.2
  rw [hX.1] at h2
  by_cases h0 : szN X = 0
  · rw [h0] at h2
    have e : nI 0 - 1 = -1 := by decide
    rw [e] at h2
    refine absurd (Int32.lt_iff_toInt_lt.mpr ?_) h2
    rw [nI_toInt hk]
    have : (-1 : Int32).toInt = -1 := by decide
    omega
  · have e : nI (szN X) - 1 = nI (szN X - 1) := nsub rfl rfl (by omega)
    rw [e] at h2
    have : k < szN X := by
      rcases Nat.lt_or_ge k (szN X) with q | q
      · exact q
      · exact absurd (nI_lt (a := szN X - 1) (b := k) (by omega) hk) h2
    exact ⟨rfl, this, by omega⟩
def InvC (M : Mem) : Prop := HU M ∧ (∀ g, g < 15 → ok10 (M.1 1 g)) ∧ (∀ g, g < 11 → okB (M.1 0 g)) ∧ okT (M.1 3 0)
theorem setP_c (M : Mem) (X B : OV) : (setP M X B).1 1 0 = X := by
  unfold setP
  rw [sO_kind _ _ _ _ (by decide), sO_same]
theorem setP_b (M : Mem) (X B : OV) : (setP M X B).1 0 0 = B := by
  unfold setP
  rw [sO_same]
theorem setP_1 (M : Mem) (X B Y : OV) : sO (setP M X B) 1 0 Y = setP M Y B := by
  unfold setP
  rw [sO_comm _ 0 0 B Y (Or.inl (by decide)), sO_sO]
theorem setP_0 (M : Mem) (X B C : OV) : sO (setP M X B) 0 0 C = setP M X C := by
  unfold setP
  rw [sO_sO]
theorem setP_setP (M : Mem) (X B Y C : OV) : setP (setP M X B) Y C = setP M Y C := by
  show sO (sO (setP M X B) 1 0 Y) 0 0 C = _
  rw [setP_1, setP_0]
theorem setP_self (M : Mem) : setP M (M.1 1 0) (M.1 0 0) = M := by
  unfold setP
  rw [sO_self, sO_self]
theorem setP_cg (M : Mem) (X B : OV) {g : Nat} (h : g ≠ 0) : (setP M X B).1 1 g = M.1 1 g := by
  unfold setP
  rw [sO_kind _ _ _ _ (by decide), sO_idx _ _ _ _ h]
theorem setP_bg (M : Mem) (X B : OV) {g : Nat} (h : g ≠ 0) : (setP M X B).1 0 g = M.1 0 g := by
  unfold setP
  rw [sO_idx _ _ _ _ h, sO_kind _ _ _ _ (by decide)]
theorem setP_k (M : Mem) (X B : OV) {ci : Nat} (i : Nat) (h0 : ci ≠ 0) (h1 : ci ≠ 1) : (setP M X B).1 ci i = M.1 ci i := by
  unfold setP
  rw [sO_kind _ _ _ _ h0, sO_kind _ _ _ _ h1]
theorem recP {M : Mem} (h : HU M) : recM M = setP (recM M) (M.1 1 0) (M.1 0 0) := by
  have e := setP_self (recM M)
  rw [recM_c h (Or.inl rfl), recM_b h (Or.inl rfl)] at e
  exact e.symm
theorem c_endCh {Γ : GT} {R : Mem} {X B : OV} {e : Int32} (hz : ok10 X) (hB : okB B) : Ct Γ yX4_endChange cX4_endChange 2 (some .int) 5 [.ref (ad Γ 4 0 0), .int e] (setP R X B) (some (.int (nI (endX X B e).1))) (setP R (endX X B e).2.1 (endX X B e).2.2) := by
  have h := c_X4_endChange (Γ := Γ) (M := setP R X B) (e := e) (by rw [setP_c]; exact hz) (by rw [setP_b]; exact hB)
  rw [setP_c, setP_b, setP_setP] at h
  exact h
noncomputable def fBegin (M : Mem) (n : Int32) : Int32 × Mem := if wthn n 1 10 = 0 then (-1000000001, M) else ((M.1 1 0).1 0, setP (recM M) (stQ (swX (M.1 1 0) n) (clX (M.1 0 0))).2.1 (stQ (swX (M.1 1 0) n) (clX (M.1 0 0))).2.2)
noncomputable def fIns (M : Mem) (p a : Int32) : Int32 × Mem := if wthn p 0 ((M.1 1 0).1 0) = 0 then (-1000000001, M) else if isAng a = 0 then (-1000000001, M) else if (M.1 1 0).1 0 < 10 then ((M.1 1 0).1 0 + 1, chM M (piX (M.1 1 0) p.toNatClampNeg a) (M.1 0 0)) else (-1000000003, M)
noncomputable def fRem (M : Mem) (i : Int32) : Int32 × Mem := if wthn i 0 ((M.1 1 0).1 0 - 1) = 0 then (-1000000001, M) else if (M.1 1 0).1 0 = 1 then (-1000000002, M) else ((M.1 1 0).2 1 i.toNatClampNeg, chM M (toX (M.1 1 0) i.toNatClampNeg) (M.1 0 0))
noncomputable def fHold (M : Mem) (i on : Int32) : Int32 × Mem := if wthn i 0 ((M.1 1 0).1 0 - 1) = 0 then (-1000000001, M) else if wthn on 0 1 = 0 then (-1000000001, M) else ((M.1 1 0).2 2 i.toNatClampNeg, chM M (oA (M.1 1 0) 2 (upd ((M.1 1 0).2 2) i.toNatClampNeg on)) (M.1 0 0))
noncomputable def fPush (M : Mem) (i b : Int32) : Int32 × Mem := if wthn i 0 ((M.1 1 0).1 0 - 1) = 0 then (-1000000001, M) else if isPsh b = 0 then (-1000000001, M) else if (M.1 1 0).2 2 i.toNatClampNeg = 1 then (-1000000002, M) else (chN M (turnX (M.1 1 0) i.toNatClampNeg b) (oI (M.1 0 0) 3 ((M.1 0 0).1 3 + 1)), chM M (turnX (M.1 1 0) i.toNatClampNeg b) (oI (M.1 0 0) 3 ((M.1 0 0).1 3 + 1)))
def setX (X : OV) (what v : Int32) : OV := if what = 0 then oI X 4 v else if what = 1 then oI X 5 v else if what = 2 then oI X 6 v else oI X 7 v
noncomputable def fSet (M : Mem) (what v : Int32) : Int32 × Mem := if isSet what v = 0 then (-1000000001, M) else (chN M (setX (M.1 1 0) what v) (M.1 0 0), chM M (setX (M.1 1 0) what v) (M.1 0 0))
noncomputable def fGoal (M : Mem) (i a : Int32) : Int32 × Mem := if wthn i 0 ((M.1 1 0).1 0 - 1) = 0 then (-1000000001, M) else if a = -1000000009 ∨ ¬ isAng a = 0 then ((M.1 1 0).2 3 i.toNatClampNeg, chM M (oA (M.1 1 0) 3 (upd ((M.1 1 0).2 3) i.toNatClampNeg a)) (M.1 0 0)) else (-1000000001, M)
def fUndo (M : Mem) : Int32 × Mem := if 0 < (M.1 4 0).1 2 then ((M.1 4 0).1 2 - 1, setP (sI M 4 0 2 ((M.1 4 0).1 2 - 1)) (M.1 1 (M.2 (unN M - 1))) (M.1 0 (M.2 (unN M - 1)))) else (-1000000002, M)
def fTold (M : Mem) (w : Int32) : Int32 :=
  if w = 0 then (M.1 1 0).1 0 else if w = 1 then energy (M.1 1 0) else if w = 2 then (M.1 0 0).1 0 else if w = 3 then (M.1 0 0).1 1 else if w = 4 then (M.1 1 0).1 4 else if w = 5 then (M.1 1 0).1 5 else if w = 6 then (M.1 1 0).1 6 else if w = 7 then (M.1 1 0).1 7 else if w = 8 then (M.1 0 0).1 2 else if w = 9 then (M.1 0 0).1 3 else if w = 10 then (M.1 0 0).1 4 else if w = 11 then waS (M.1 1 0) (szN (M.1 1 0) - 1) else if w = 12 then gmS (M.1 1 0) (szN (M.1 1 0)) else if w = 13 then heS (M.1 1 0) (szN (M.1 1 0)) else if w = 14 then (M.1 3 0).1 1 else if w = 15 then (M.1 4 0).1 2 else -1000000001
def fMag (M : Mem) (i w : Int32) : Int32 := if wthn i 0 ((M.1 1 0).1 0 - 1) = 0 then -1000000001 else
  if w = 0 then (M.1 1 0).2 1 i.toNatClampNeg else if w = 1 then (M.1 1 0).2 2 i.toNatClampNeg else if w = 2 then (M.1 1 0).2 3 i.toNatClampNeg else if w = 3 then freed (M.1 1 0) i.toNatClampNeg 1 else if w = 4 then freed (M.1 1 0) i.toNatClampNeg (-1) else if w = 5 then part (M.1 1 0) i ((M.1 1 0).2 1 i.toNatClampNeg) else -1000000001
def fLog (M : Mem) (k w : Int32) : Int32 := if k < 0 then -1000000001 else if wthn w 0 2 = 0 then -1000000001 else if k < (M.1 0 0).1 4 then (if w = 0 then (M.1 0 0).2 5 (lgN (M.1 0 0) - 1 - k.toNatClampNeg) else if w = 1 then (M.1 0 0).2 6 (lgN (M.1 0 0) - 1 - k.toNatClampNeg) else (M.1 0 0).2 7 (lgN (M.1 0 0) - 1 - k.toNatClampNeg)) else -1000000009
def fPts (M : Mem) (s : Int32) : Int32 := if isAng s = 0 then -1000000001 else ptS (M.1 1 0) s (szN (M.1 1 0))
noncomputable def fMov (M : Mem) (i b : Int32) : Int32 × Mem := if wthn i 0 ((M.1 1 0).1 0 - 1) = 0 then (-1000000001, M) else if isPsh b = 0 then (-1000000001, M) else if (M.1 1 0).2 2 i.toNatClampNeg = 1 then (-1000000002, M) else (nI (stR (turnX (M.1 1 0) i.toNatClampNeg b)).1, sO M 1 11 (stR (turnX (M.1 1 0) i.toNatClampNeg b)).2)
def fWrite (M : Mem) (v : Int32) : Int32 × Mem := if wthn v 32 126 = 0 then (-1000000001, M) else if (M.1 3 0).1 1 < 40 then ((M.1 3 0).1 1 + 1, sO M 3 0 (taX (M.1 3 0) v)) else (-1000000003, M)
def fFault (M : Mem) (w : Int32) : Int32 := if w = 0 then (M.1 3 0).1 2 else if w = 1 then (M.1 3 0).1 3 else -1000000001
def keM (M : Mem) (k : Nat) : Mem := sA (sO (sO M 1 (9 + k) (M.1 1 0)) 0 (9 + k) (M.1 0 0)) 4 0 4 (upd ((M.1 4 0).2 4) k 1)
def fKeep (M : Mem) (i : Int32) : Int32 × Mem := if wthn i 0 1 = 0 then (-1000000001, M) else ((M.1 1 0).1 0, keM M i.toNatClampNeg)
def fBack (M : Mem) (i : Int32) : Int32 × Mem := if wthn i 0 1 = 0 then (-1000000001, M) else if (M.1 4 0).2 4 i.toNatClampNeg = 0 then (-1000000002, M) else ((M.1 1 (9 + i.toNatClampNeg)).1 0, setP (recM M) (M.1 1 (9 + i.toNatClampNeg)) (M.1 0 (9 + i.toNatClampNeg)))
set_option maxRecDepth 100000 in
set_option maxHeartbeats 4000000 in
theorem c_X4_isSetting {Γ : GT} {M : Mem} {a v : Int32} : Ct Γ yX4_isSetting cX4_isSetting 2 (some .boolean) 2 [.int a, .int v] M (some (.int (isSet a v))) M := by
  refine ct_of (by decide) (Nat.le_of_ble_eq_true rfl) (fun K hg hr => ?_)
  show WM Γ K _ [(0, _), (1, _)] 0 []
  refine wm_iload_n (q := 1) (i := 0) hg dX4_isSetting_0 rfl rfl rfl ?_
  by_cases hk0 : a = 0
  · subst hk0
    refine wm_tableIn (q := 32) hg dX4_isSetting_1 (by decide) (by decide) rfl (by decide) ?_
    refine wm_iload_n (q := 33) (i := 1) hg dX4_isSetting_32 rfl rfl rfl ?_
    refine wm_iconst (q := 34) 0 hg dX4_isSetting_33 rfl (by decide) ?_
    refine wm_bipush (q := 36) 20 hg dX4_isSetting_34 rfl (by decide) ?_
    refine wm_callS1 (q := 39) hg dX4_isSetting_36 rfl lk_X4_45 (by first | decide | omega) c_X4_isWithin rfl rfl (Nat.le_of_ble_eq_true rfl) ?_
    exact wm_zret hg hr dX4_isSetting_39 (rfl) (rfl) (wthn_01 _ _ _)
  · by_cases hk1 : a = 1
    · subst hk1
      refine wm_tableIn (q := 40) hg dX4_isSetting_1 (by decide) (by decide) rfl (by decide) ?_
      refine wm_iload_n (q := 41) (i := 1) hg dX4_isSetting_40 rfl rfl rfl ?_
      refine wm_iconst (q := 42) 0 hg dX4_isSetting_41 rfl (by decide) ?_
      refine wm_sipush (q := 45) 2000 hg dX4_isSetting_42 rfl (by decide) ?_
      refine wm_callS1 (q := 48) hg dX4_isSetting_45 rfl lk_X4_45 (by first | decide | omega) c_X4_isWithin rfl rfl (Nat.le_of_ble_eq_true rfl) ?_
      exact wm_zret hg hr dX4_isSetting_48 (rfl) (rfl) (wthn_01 _ _ _)
    · by_cases hk2 : a = 2
      · subst hk2
        refine wm_tableIn (q := 49) hg dX4_isSetting_1 (by decide) (by decide) rfl (by decide) ?_
        refine wm_iload_n (q := 50) (i := 1) hg dX4_isSetting_49 rfl rfl rfl ?_
        refine wm_iconst (q := 51) 0 hg dX4_isSetting_50 rfl (by decide) ?_
        refine wm_bipush (q := 53) 100 hg dX4_isSetting_51 rfl (by decide) ?_
        refine wm_callS1 (q := 56) hg dX4_isSetting_53 rfl lk_X4_45 (by first | decide | omega) c_X4_isWithin rfl rfl (Nat.le_of_ble_eq_true rfl) ?_
        exact wm_zret hg hr dX4_isSetting_56 (rfl) (rfl) (wthn_01 _ _ _)
      · by_cases hk3 : a = 3
        · subst hk3
          refine wm_tableIn (q := 57) hg dX4_isSetting_1 (by decide) (by decide) rfl (by decide) ?_
          refine wm_iload_n (q := 58) (i := 1) hg dX4_isSetting_57 rfl rfl rfl ?_
          refine wm_callS1 (q := 61) hg dX4_isSetting_58 rfl lk_X4_77 (by first | decide | omega) c_X4_isAngle rfl rfl (Nat.le_of_ble_eq_true rfl) ?_
          exact wm_zret hg hr dX4_isSetting_61 (rfl) (rfl) (wthn_01 _ _ _)
        · have hj0 : a.toInt ≠ 0 := fun z => hk0 (Int32.toInt_inj.mp (z.trans (by decide)))
          have hj1 : a.toInt ≠ 1 := fun z => hk1 (Int32.toInt_inj.mp (z.trans (by decide)))
          have hj2 : a.toInt ≠ 2 := fun z => hk2 (Int32.toInt_inj.mp (z.trans (by decide)))
          have hj3 : a.toInt ≠ 3 := fun z => hk3 (Int32.toInt_inj.mp (z.trans (by decide)))
          refine wm_tableOut (q := 62) hg dX4_isSetting_1 (by omega) (by decide) ?_
          refine wm_iconst (q := 63) 0 hg dX4_isSetting_62 rfl (by decide) ?_
          exact wm_zret hg hr dX4_isSetting_63 (by simp only [isSet, if_neg hk0, if_neg hk1, if_neg hk2, if_neg hk3]) (rfl) (by decide)
set_option maxRecDepth 100000 in
set_option maxHeartbeats 4000000 in
theorem c_X4_begin {Γ : GT} {M : Mem} {n : Int32} (hI : InvC M) : Ct Γ yX4_begin cX4_begin 3 (some .int) 6 [.ref (ad Γ 4 0 0), .int n] M (some (.int (fBegin M n).1)) (fBegin M n).2 := by
  refine ct_of (by decide) (Nat.le_of_ble_eq_true rfl) (fun K hg hr => ?_)
  show WM Γ K _ [(0, _), (1, _)] 0 []
  obtain ⟨hU, hC, hBB, hT⟩ := hI
  have hz := hC 0 (by decide)
  have hB := hBB 0 (by decide)
  have hz2 := hz.2
  refine wm_iload_n (q := 1) (i := 1) hg dX4_begin_0 rfl rfl rfl ?_
  refine wm_iconst (q := 2) 1 hg dX4_begin_1 rfl (by decide) ?_
  refine wm_bipush (q := 4) 10 hg dX4_begin_2 rfl (by decide) ?_
  refine wm_callS1 (q := 7) hg dX4_begin_4 rfl lk_X4_45 (by first | decide | omega) c_X4_isWithin rfl rfl (Nat.le_of_ble_eq_true rfl) ?_
  refine wm_if_ne (q := 13) (q2 := 10) hg dX4_begin_7 (by decide) rfl (fun h1 => ?_) (fun h1 => ?_)
  · obtain ⟨k, hk1, hk2, hk⟩ := wthn_n (lo := 1) (hi := 10) h1 (by decide) (by decide)
    refine wm_aload_n (q := 14) (i := 0) hg dX4_begin_13 rfl rfl rfl ?_
    refine wm_get (q := 17) hg dX4_begin_14 rfl fl_X4_10 (by first | assumption | decide | omega | (simp only [nO]; omega)) rfl ?_
    refine wm_get (q := 20) hg dX4_begin_17 rfl fl_X4_50 (by first | assumption | decide | omega | (simp only [nO]; omega)) rfl ?_
    refine wm_get (q := 23) hg dX4_begin_20 rfl fl_X4_54 (by first | assumption | decide | omega | (simp only [nO]; omega)) rfl ?_
    refine wm_istore_n (q := 24) (i := 2) (L' := [(0, _), (1, _), (2, _)]) hg dX4_begin_23 rfl rfl rfl rfl ?_
    refine wm_aload_n (q := 25) (i := 0) hg dX4_begin_24 rfl rfl rfl ?_
    refine wm_callV0 (q := 28) hg dX4_begin_25 rfl lk_X4_57 (by first | decide | omega) (c_X4_record (by first | assumption | decide | omega)) (by first | assumption | decide | omega | (simp only [nO]; omega)) ⟨rfl, by decide⟩ rfl rfl (Nat.le_of_ble_eq_true rfl) ?_
    refine wm_mem (recP hU) ?_
    refine wm_aload_n (q := 29) (i := 0) hg dX4_begin_28 rfl rfl rfl ?_
    refine wm_get (q := 32) hg dX4_begin_29 rfl fl_X4_10 (by first | assumption | decide | omega | (simp only [nO]; omega)) rfl ?_
    refine wm_get (q := 35) hg dX4_begin_32 rfl fl_X4_50 (by first | assumption | decide | omega | (simp only [nO]; omega)) rfl ?_
    refine wm_iload_n (q := 36) (i := 1) hg dX4_begin_35 rfl rfl rfl ?_
    refine wm_callV0 (q := 39) hg dX4_begin_36 rfl lk_X4_60 (by first | decide | omega) (c_X1_startWith (by first | assumption | decide | omega)) (by first | assumption | decide | omega | (simp only [nO]; omega)) ⟨rfl, by decide⟩ rfl rfl (Nat.le_of_ble_eq_true rfl) ?_
    refine wm_mem (M' := setP (recM M) (swX (M.1 1 0) n) (M.1 0 0)) (by simp only [setP_c, setP_b, setP_1, setP_0]) ?_
    refine wm_aload_n (q := 40) (i := 0) hg dX4_begin_39 rfl rfl rfl ?_
    refine wm_get (q := 43) hg dX4_begin_40 rfl fl_X4_10 (by first | assumption | decide | omega | (simp only [nO]; omega)) rfl ?_
    refine wm_get (q := 46) hg dX4_begin_43 rfl fl_X4_64 (by first | assumption | decide | omega | (simp only [nO]; omega)) rfl ?_
    refine wm_callV0 (q := 49) hg dX4_begin_46 rfl lk_X4_68 (by first | decide | omega) (c_X0_clear (by first | assumption | decide | omega)) (by first | assumption | decide | omega | (simp only [nO]; omega)) ⟨rfl, by decide⟩ rfl rfl (Nat.le_of_ble_eq_true rfl) ?_
    refine wm_mem (M' := setP (recM M) (swX (M.1 1 0) n) (clX (M.1 0 0))) (by simp only [setP_c, setP_b, setP_1, setP_0]) ?_
    refine wm_aload_n (q := 50) (i := 0) hg dX4_begin_49 rfl rfl rfl ?_
    refine wm_get (q := 53) hg dX4_begin_50 rfl fl_X4_10 (by first | assumption | decide | omega | (simp only [nO]; omega)) rfl ?_
    refine wm_get (q := 56) hg dX4_begin_53 rfl fl_X4_50 (by first | assumption | decide | omega | (simp only [nO]; omega)) rfl ?_
    refine wm_aload_n (q := 57) (i := 0) hg dX4_begin_56 rfl rfl rfl ?_
    refine wm_get (q := 60) hg dX4_begin_57 rfl fl_X4_10 (by first | assumption | decide | omega | (simp only [nO]; omega)) rfl ?_
    refine wm_get (q := 63) hg dX4_begin_60 rfl fl_X4_64 (by first | assumption | decide | omega | (simp only [nO]; omega)) rfl ?_
    refine wm_callV1 (q := 66) hg dX4_begin_63 rfl lk_X4_73 (by first | decide | omega) (c_settle_b (b := 0) (by decide) (by rw [setP_c]; exact ok10_sz (n := k) (by rw [swX_0, hk]) hk2) (by decide) (by rw [setP_b]; exact okB_cl _)) (by first | assumption | decide | omega | (simp only [nO]; omega)) ⟨rfl, by decide⟩ rfl rfl (Nat.le_of_ble_eq_true rfl) ?_
    refine wm_pop (q := 67) hg dX4_begin_66 rfl rfl ?_
    refine wm_iload_n (q := 68) (i := 2) hg dX4_begin_67 rfl rfl rfl ?_
    exact wm_iret hg hr dX4_begin_68 (by simp only [fBegin, if_neg h1]) (by simp only [fBegin, if_neg h1, setP_c, setP_b, setP_1, setP_0])
  · refine wm_ldc (q := 12) (-1000000001) hg dX4_begin_10 rfl ld_X4_49 ?_
    exact wm_iret hg hr dX4_begin_12 (by simp only [fBegin, if_pos h1]) (by simp only [fBegin, if_pos h1])
set_option maxRecDepth 100000 in
set_option maxHeartbeats 4000000 in
theorem c_X4_insert {Γ : GT} {M : Mem} {p a : Int32} (hI : InvC M) : Ct Γ yX4_insert cX4_insert 5 (some .int) 7 [.ref (ad Γ 4 0 0), .int p, .int a] M (some (.int (fIns M p a).1)) (fIns M p a).2 := by
  refine ct_of (by decide) (Nat.le_of_ble_eq_true rfl) (fun K hg hr => ?_)
  show WM Γ K _ [(0, _), (1, _), (2, _)] 0 []
  obtain ⟨hU, hC, hBB, hT⟩ := hI
  have hz := hC 0 (by decide)
  have hB := hBB 0 (by decide)
  have hz2 := hz.2
  refine wm_aload_n (q := 1) (i := 0) hg dX4_insert_0 rfl rfl rfl ?_
  refine wm_get (q := 4) hg dX4_insert_1 rfl fl_X4_10 (by first | assumption | decide | omega | (simp only [nO]; omega)) rfl ?_
  refine wm_get (q := 7) hg dX4_insert_4 rfl fl_X4_50 (by first | assumption | decide | omega | (simp only [nO]; omega)) rfl ?_
  refine wm_astore_n (q := 8) (i := 3) (L' := [(0, _), (1, _), (2, _), (3, _)]) hg dX4_insert_7 rfl rfl rfl rfl ?_
  refine wm_iload_n (q := 9) (i := 1) hg dX4_insert_8 rfl rfl rfl ?_
  refine wm_iconst (q := 10) 0 hg dX4_insert_9 rfl (by decide) ?_
  refine wm_aload_n (q := 11) (i := 3) hg dX4_insert_10 rfl rfl rfl ?_
  refine wm_get (q := 14) hg dX4_insert_11 rfl fl_X4_54 (by first | assumption | decide | omega | (simp only [nO]; omega)) rfl ?_
  refine wm_callS1 (q := 17) hg dX4_insert_14 rfl lk_X4_45 (by first | decide | omega) c_X4_isWithin rfl rfl (Nat.le_of_ble_eq_true rfl) ?_
  refine wm_if_eq (q := 27) (q2 := 20) hg dX4_insert_17 (by decide) rfl (fun h1 => ?_) (fun h1 => ?_)
  · refine wm_ldc (q := 29) (-1000000001) hg dX4_insert_27 rfl ld_X4_49 ?_
    exact wm_iret hg hr dX4_insert_29 (by simp only [fIns, if_pos h1]) (by simp only [fIns, if_pos h1])
  · refine wm_iload_n (q := 21) (i := 2) hg dX4_insert_20 rfl rfl rfl ?_
    refine wm_callS1 (q := 24) hg dX4_insert_21 rfl lk_X4_77 (by first | decide | omega) c_X4_isAngle rfl rfl (Nat.le_of_ble_eq_true rfl) ?_
    refine wm_if_ne (q := 30) (q2 := 27) hg dX4_insert_24 (by decide) rfl (fun h2 => ?_) (fun h2 => ?_)
    · refine wm_aload_n (q := 31) (i := 3) hg dX4_insert_30 rfl rfl rfl ?_
      refine wm_get (q := 34) hg dX4_insert_31 rfl fl_X4_54 (by first | assumption | decide | omega | (simp only [nO]; omega)) rfl ?_
      refine wm_bipush (q := 36) 10 hg dX4_insert_34 rfl (by decide) ?_
      refine wm_icmp_lt (q := 42) (q2 := 39) hg dX4_insert_36 (by decide) rfl (fun h3 => ?_) (fun h3 => ?_)
      · have hlt : szN (M.1 1 0) < 10 := by
          rcases Nat.lt_or_ge (szN (M.1 1 0)) 10 with q | q
          · exact q
          · exact absurd h3 (by rw [hz.1]; exact nI_nlt (a := szN (M.1 1 0)) (b := 10) q (by omega))
        obtain ⟨k, -, hk2, hk⟩ := wthn_n (lo := 0) (hi := szN (M.1 1 0)) (by rw [← hz.1]; exact h1) (by omega) (by omega)
        have hpk : p.toNatClampNeg = k := by rw [hk, nI_clamp (by omega)]
        refine wm_aload_n (q := 43) (i := 0) hg dX4_insert_42 rfl rfl rfl ?_
        refine wm_callV1 (q := 46) hg dX4_insert_43 rfl lk_X4_82 (by first | decide | omega) (c_X4_startChange (by first | assumption | decide | omega) (by first | assumption | decide | omega)) (by first | assumption | decide | omega | (simp only [nO]; omega)) ⟨rfl, by decide⟩ rfl rfl (Nat.le_of_ble_eq_true rfl) ?_
        refine wm_mem (recP hU) ?_
        refine wm_istore (q := 48) (i := 4) (L' := [(0, _), (1, _), (2, _), (3, _), (4, _)]) hg dX4_insert_46 rfl rfl rfl ?_
        refine wm_aload_n (q := 49) (i := 3) hg dX4_insert_48 rfl rfl rfl ?_
        refine wm_iload_n (q := 50) (i := 1) hg dX4_insert_49 rfl rfl rfl ?_
        refine wm_iload_n (q := 51) (i := 2) hg dX4_insert_50 rfl rfl rfl ?_
        refine wm_callV0 (q := 54) hg dX4_insert_51 rfl lk_X4_86 (by first | decide | omega) (c_X1_putIn (p := k) (by decide) (by rw [setP_c]; exact hz) (by rw [setP_c]; exact hlt) hk (by rw [setP_c]; exact hk2)) (by first | assumption | decide | omega | (simp only [nO]; omega)) ⟨rfl, by decide⟩ rfl rfl (Nat.le_of_ble_eq_true rfl) ?_
        refine wm_mem (M' := setP (recM M) (piX (M.1 1 0) k a) (M.1 0 0)) (by simp only [setP_c, setP_b, setP_1, setP_0]) ?_
        refine wm_aload_n (q := 55) (i := 0) hg dX4_insert_54 rfl rfl rfl ?_
        refine wm_iload (q := 57) (i := 4) hg dX4_insert_55 rfl rfl ?_
        refine wm_callV1 (q := 60) hg dX4_insert_57 rfl lk_X4_90 (by first | decide | omega) (c_endCh (ok10_pi hz hlt _ _) hB) (by first | assumption | decide | omega | (simp only [nO]; omega)) ⟨rfl, by decide⟩ rfl rfl (Nat.le_of_ble_eq_true rfl) ?_
        refine wm_pop (q := 61) hg dX4_insert_60 rfl rfl ?_
        refine wm_aload_n (q := 62) (i := 3) hg dX4_insert_61 rfl rfl rfl ?_
        refine wm_get (q := 65) hg dX4_insert_62 rfl fl_X4_54 (by first | assumption | decide | omega | (simp only [nO]; omega)) rfl ?_
        exact wm_iret hg hr dX4_insert_65 (by simp only [fIns, if_neg h1, if_neg h2, if_pos h3, setP_c, endX, stQ_1, piX_0]) (by simp only [fIns, if_neg h1, if_neg h2, if_pos h3, chM, hpk])
      · refine wm_ldc (q := 41) (-1000000003) hg dX4_insert_39 rfl ld_X4_81 ?_
        exact wm_iret hg hr dX4_insert_41 (by simp only [fIns, if_neg h1, if_neg h2, if_neg h3]) (by simp only [fIns, if_neg h1, if_neg h2, if_neg h3])
    · refine wm_ldc (q := 29) (-1000000001) hg dX4_insert_27 rfl ld_X4_49 ?_
      exact wm_iret hg hr dX4_insert_29 (by simp only [fIns, if_neg h1, if_pos h2]) (by simp only [fIns, if_neg h1, if_pos h2])
set_option maxRecDepth 100000 in
set_option maxHeartbeats 4000000 in
theorem c_X4_remove {Γ : GT} {M : Mem} {i : Int32} (hI : InvC M) : Ct Γ yX4_remove cX4_remove 5 (some .int) 7 [.ref (ad Γ 4 0 0), .int i] M (some (.int (fRem M i).1)) (fRem M i).2 := by
  refine ct_of (by decide) (Nat.le_of_ble_eq_true rfl) (fun K hg hr => ?_)
  show WM Γ K _ [(0, _), (1, _)] 0 []
  obtain ⟨hU, hC, hBB, hT⟩ := hI
  have hz := hC 0 (by decide)
  have hB := hBB 0 (by decide)
  have hz2 := hz.2
  refine wm_aload_n (q := 1) (i := 0) hg dX4_remove_0 rfl rfl rfl ?_
  refine wm_get (q := 4) hg dX4_remove_1 rfl fl_X4_10 (by first | assumption | decide | omega | (simp only [nO]; omega)) rfl ?_
  refine wm_get (q := 7) hg dX4_remove_4 rfl fl_X4_50 (by first | assumption | decide | omega | (simp only [nO]; omega)) rfl ?_
  refine wm_astore_n (q := 8) (i := 2) (L' := [(0, _), (1, _), (2, _)]) hg dX4_remove_7 rfl rfl rfl rfl ?_
  refine wm_aload_n (q := 9) (i := 0) hg dX4_remove_8 rfl rfl rfl ?_
  refine wm_iload_n (q := 10) (i := 1) hg dX4_remove_9 rfl rfl rfl ?_
  refine wm_callV1 (q := 13) hg dX4_remove_10 rfl lk_X4_94 (by first | decide | omega) c_X4_isMagnet (by first | assumption | decide | omega | (simp only [nO]; omega)) ⟨rfl, by decide⟩ rfl rfl (Nat.le_of_ble_eq_true rfl) ?_
  refine wm_if_ne (q := 19) (q2 := 16) hg dX4_remove_13 (by decide) rfl (fun h1 => ?_) (fun h1 => ?_)
  · obtain ⟨hi1, hi2, hi3⟩ := wthn_sz hz h1
    refine wm_aload_n (q := 20) (i := 2) hg dX4_remove_19 rfl rfl rfl ?_
    refine wm_get (q := 23) hg dX4_remove_20 rfl fl_X4_54 (by first | assumption | decide | omega | (simp only [nO]; omega)) rfl ?_
    refine wm_iconst (q := 24) 1 hg dX4_remove_23 rfl (by decide) ?_
    refine wm_icmp_ne (q := 30) (q2 := 27) hg dX4_remove_24 (by decide) rfl (fun h2 => ?_) (fun h2 => ?_)
    · refine wm_aload_n (q := 31) (i := 2) hg dX4_remove_30 rfl rfl rfl ?_
      refine wm_get (q := 34) hg dX4_remove_31 rfl fl_X4_98 (by first | assumption | decide | omega | (simp only [nO]; omega)) rfl ?_
      refine wm_iload_n (q := 35) (i := 1) hg dX4_remove_34 rfl rfl rfl ?_
      refine wm_iaload (q := 36) i.toNatClampNeg hg dX4_remove_35 rfl (by first | assumption | decide | omega | (simp only [nO]; omega)) rfl hi1 (by simp only [alen]; omega) ?_
      refine wm_istore_n (q := 37) (i := 3) (L' := [(0, _), (1, _), (2, _), (3, _)]) hg dX4_remove_36 rfl rfl rfl rfl ?_
      refine wm_aload_n (q := 38) (i := 0) hg dX4_remove_37 rfl rfl rfl ?_
      refine wm_callV1 (q := 41) hg dX4_remove_38 rfl lk_X4_82 (by first | decide | omega) (c_X4_startChange (by first | assumption | decide | omega) (by first | assumption | decide | omega)) (by first | assumption | decide | omega | (simp only [nO]; omega)) ⟨rfl, by decide⟩ rfl rfl (Nat.le_of_ble_eq_true rfl) ?_
      refine wm_mem (recP hU) ?_
      refine wm_istore (q := 43) (i := 4) (L' := [(0, _), (1, _), (2, _), (3, _), (4, _)]) hg dX4_remove_41 rfl rfl rfl ?_
      refine wm_aload_n (q := 44) (i := 2) hg dX4_remove_43 rfl rfl rfl ?_
      refine wm_iload_n (q := 45) (i := 1) hg dX4_remove_44 rfl rfl rfl ?_
      refine wm_callV0 (q := 48) hg dX4_remove_45 rfl lk_X4_102 (by first | decide | omega) (c_X1_takeOut (p := i.toNatClampNeg) (by decide) (by rw [setP_c]; exact hz) hi1 (by rw [setP_c]; exact hi2)) (by first | assumption | decide | omega | (simp only [nO]; omega)) ⟨rfl, by decide⟩ rfl rfl (Nat.le_of_ble_eq_true rfl) ?_
      refine wm_mem (M' := setP (recM M) (toX (M.1 1 0) i.toNatClampNeg) (M.1 0 0)) (by simp only [setP_c, setP_b, setP_1, setP_0]) ?_
      refine wm_aload_n (q := 49) (i := 0) hg dX4_remove_48 rfl rfl rfl ?_
      refine wm_iload (q := 51) (i := 4) hg dX4_remove_49 rfl rfl ?_
      refine wm_callV1 (q := 54) hg dX4_remove_51 rfl lk_X4_90 (by first | decide | omega) (c_endCh (ok10_to hz hi2) hB) (by first | assumption | decide | omega | (simp only [nO]; omega)) ⟨rfl, by decide⟩ rfl rfl (Nat.le_of_ble_eq_true rfl) ?_
      refine wm_pop (q := 55) hg dX4_remove_54 rfl rfl ?_
      refine wm_iload_n (q := 56) (i := 3) hg dX4_remove_55 rfl rfl rfl ?_
      exact wm_iret hg hr dX4_remove_56 (by simp only [fRem, if_neg h1, if_neg h2]) (by simp only [fRem, if_neg h1, if_neg h2, chM])
    · refine wm_ldc (q := 29) (-1000000002) hg dX4_remove_27 rfl ld_X4_97 ?_
      exact wm_iret hg hr dX4_remove_29 (by simp only [fRem, if_neg h1, if_pos h2]) (by simp only [fRem, if_neg h1, if_pos h2])
  · refine wm_ldc (q := 18) (-1000000001) hg dX4_remove_16 rfl ld_X4_49 ?_
    exact wm_iret hg hr dX4_remove_18 (by simp only [fRem, if_pos h1]) (by simp only [fRem, if_pos h1])
set_option maxRecDepth 100000 in
set_option maxHeartbeats 4000000 in
theorem c_X4_hold {Γ : GT} {M : Mem} {i on : Int32} (hI : InvC M) : Ct Γ yX4_hold cX4_hold 5 (some .int) 7 [.ref (ad Γ 4 0 0), .int i, .int on] M (some (.int (fHold M i on).1)) (fHold M i on).2 := by
  refine ct_of (by decide) (Nat.le_of_ble_eq_true rfl) (fun K hg hr => ?_)
  show WM Γ K _ [(0, _), (1, _), (2, _)] 0 []
  obtain ⟨hU, hC, hBB, hT⟩ := hI
  have hz := hC 0 (by decide)
  have hB := hBB 0 (by decide)
  have hz2 := hz.2
  refine wm_aload_n (q := 1) (i := 0) hg dX4_hold_0 rfl rfl rfl ?_
  refine wm_iload_n (q := 2) (i := 1) hg dX4_hold_1 rfl rfl rfl ?_
  refine wm_callV1 (q := 5) hg dX4_hold_2 rfl lk_X4_94 (by first | decide | omega) c_X4_isMagnet (by first | assumption | decide | omega | (simp only [nO]; omega)) ⟨rfl, by decide⟩ rfl rfl (Nat.le_of_ble_eq_true rfl) ?_
  refine wm_if_eq (q := 17) (q2 := 8) hg dX4_hold_5 (by decide) rfl (fun h1 => ?_) (fun h1 => ?_)
  · refine wm_ldc (q := 19) (-1000000001) hg dX4_hold_17 rfl ld_X4_49 ?_
    exact wm_iret hg hr dX4_hold_19 (by simp only [fHold, if_pos h1]) (by simp only [fHold, if_pos h1])
  · obtain ⟨hi1, hi2, hi3⟩ := wthn_sz hz h1
    refine wm_iload_n (q := 9) (i := 2) hg dX4_hold_8 rfl rfl rfl ?_
    refine wm_iconst (q := 10) 0 hg dX4_hold_9 rfl (by decide) ?_
    refine wm_iconst (q := 11) 1 hg dX4_hold_10 rfl (by decide) ?_
    refine wm_callS1 (q := 14) hg dX4_hold_11 rfl lk_X4_45 (by first | decide | omega) c_X4_isWithin rfl rfl (Nat.le_of_ble_eq_true rfl) ?_
    refine wm_if_ne (q := 20) (q2 := 17) hg dX4_hold_14 (by decide) rfl (fun h2 => ?_) (fun h2 => ?_)
    · refine wm_aload_n (q := 21) (i := 0) hg dX4_hold_20 rfl rfl rfl ?_
      refine wm_get (q := 24) hg dX4_hold_21 rfl fl_X4_10 (by first | assumption | decide | omega | (simp only [nO]; omega)) rfl ?_
      refine wm_get (q := 27) hg dX4_hold_24 rfl fl_X4_50 (by first | assumption | decide | omega | (simp only [nO]; omega)) rfl ?_
      refine wm_get (q := 30) hg dX4_hold_27 rfl fl_X4_105 (by first | assumption | decide | omega | (simp only [nO]; omega)) rfl ?_
      refine wm_iload_n (q := 31) (i := 1) hg dX4_hold_30 rfl rfl rfl ?_
      refine wm_iaload (q := 32) i.toNatClampNeg hg dX4_hold_31 rfl (by first | assumption | decide | omega | (simp only [nO]; omega)) rfl hi1 (by simp only [alen]; omega) ?_
      refine wm_istore_n (q := 33) (i := 3) (L' := [(0, _), (1, _), (2, _), (3, _)]) hg dX4_hold_32 rfl rfl rfl rfl ?_
      refine wm_aload_n (q := 34) (i := 0) hg dX4_hold_33 rfl rfl rfl ?_
      refine wm_callV1 (q := 37) hg dX4_hold_34 rfl lk_X4_82 (by first | decide | omega) (c_X4_startChange (by first | assumption | decide | omega) (by first | assumption | decide | omega)) (by first | assumption | decide | omega | (simp only [nO]; omega)) ⟨rfl, by decide⟩ rfl rfl (Nat.le_of_ble_eq_true rfl) ?_
      refine wm_mem (recP hU) ?_
      refine wm_istore (q := 39) (i := 4) (L' := [(0, _), (1, _), (2, _), (3, _), (4, _)]) hg dX4_hold_37 rfl rfl rfl ?_
      refine wm_aload_n (q := 40) (i := 0) hg dX4_hold_39 rfl rfl rfl ?_
      refine wm_get (q := 43) hg dX4_hold_40 rfl fl_X4_10 (by first | assumption | decide | omega | (simp only [nO]; omega)) rfl ?_
      refine wm_get (q := 46) hg dX4_hold_43 rfl fl_X4_50 (by first | assumption | decide | omega | (simp only [nO]; omega)) rfl ?_
      refine wm_get (q := 49) hg dX4_hold_46 rfl fl_X4_105 (by first | assumption | decide | omega | (simp only [nO]; omega)) rfl ?_
      refine wm_iload_n (q := 50) (i := 1) hg dX4_hold_49 rfl rfl rfl ?_
      refine wm_iload_n (q := 51) (i := 2) hg dX4_hold_50 rfl rfl rfl ?_
      refine wm_iastore (q := 52) i.toNatClampNeg hg dX4_hold_51 rfl (by first | assumption | decide | omega | (simp only [nO]; omega)) rfl hi1 (by simp only [alen]; omega) ?_
      refine wm_mem (M' := setP (recM M) (oA (M.1 1 0) 2 (upd ((M.1 1 0).2 2) i.toNatClampNeg on)) (M.1 0 0)) (by simp only [sA, setP_c, setP_b, setP_1, setP_0]) ?_
      refine wm_aload_n (q := 53) (i := 0) hg dX4_hold_52 rfl rfl rfl ?_
      refine wm_iload (q := 55) (i := 4) hg dX4_hold_53 rfl rfl ?_
      refine wm_callV1 (q := 58) hg dX4_hold_55 rfl lk_X4_90 (by first | decide | omega) (c_endCh (ok10_1 rfl hz) hB) (by first | assumption | decide | omega | (simp only [nO]; omega)) ⟨rfl, by decide⟩ rfl rfl (Nat.le_of_ble_eq_true rfl) ?_
      refine wm_pop (q := 59) hg dX4_hold_58 rfl rfl ?_
      refine wm_iload_n (q := 60) (i := 3) hg dX4_hold_59 rfl rfl rfl ?_
      exact wm_iret hg hr dX4_hold_60 (by simp only [fHold, if_neg h1, if_neg h2]) (by simp only [fHold, if_neg h1, if_neg h2, chM])
    · refine wm_ldc (q := 19) (-1000000001) hg dX4_hold_17 rfl ld_X4_49 ?_
      exact wm_iret hg hr dX4_hold_19 (by simp only [fHold, if_neg h1, if_pos h2]) (by simp only [fHold, if_neg h1, if_pos h2])
set_option maxRecDepth 100000 in
set_option maxHeartbeats 4000000 in
theorem c_X4_push {Γ : GT} {M : Mem} {i b : Int32} (hI : InvC M) : Ct Γ yX4_push cX4_push 4 (some .int) 7 [.ref (ad Γ 4 0 0), .int i, .int b] M (some (.int (fPush M i b).1)) (fPush M i b).2 := by
  refine ct_of (by decide) (Nat.le_of_ble_eq_true rfl) (fun K hg hr => ?_)
  show WM Γ K _ [(0, _), (1, _), (2, _)] 0 []
  obtain ⟨hU, hC, hBB, hT⟩ := hI
  have hz := hC 0 (by decide)
  have hB := hBB 0 (by decide)
  have hz2 := hz.2
  refine wm_aload_n (q := 1) (i := 0) hg dX4_push_0 rfl rfl rfl ?_
  refine wm_iload_n (q := 2) (i := 1) hg dX4_push_1 rfl rfl rfl ?_
  refine wm_callV1 (q := 5) hg dX4_push_2 rfl lk_X4_94 (by first | decide | omega) c_X4_isMagnet (by first | assumption | decide | omega | (simp only [nO]; omega)) ⟨rfl, by decide⟩ rfl rfl (Nat.le_of_ble_eq_true rfl) ?_
  refine wm_if_eq (q := 15) (q2 := 8) hg dX4_push_5 (by decide) rfl (fun h1 => ?_) (fun h1 => ?_)
  · refine wm_ldc (q := 17) (-1000000001) hg dX4_push_15 rfl ld_X4_49 ?_
    exact wm_iret hg hr dX4_push_17 (by simp only [fPush, if_pos h1]) (by simp only [fPush, if_pos h1])
  · obtain ⟨hi1, hi2, hi3⟩ := wthn_sz hz h1
    refine wm_iload_n (q := 9) (i := 2) hg dX4_push_8 rfl rfl rfl ?_
    refine wm_callS1 (q := 12) hg dX4_push_9 rfl lk_X4_126 (by first | decide | omega) c_X4_isPush rfl rfl (Nat.le_of_ble_eq_true rfl) ?_
    refine wm_if_ne (q := 18) (q2 := 15) hg dX4_push_12 (by decide) rfl (fun h2 => ?_) (fun h2 => ?_)
    · refine wm_aload_n (q := 19) (i := 0) hg dX4_push_18 rfl rfl rfl ?_
      refine wm_get (q := 22) hg dX4_push_19 rfl fl_X4_10 (by first | assumption | decide | omega | (simp only [nO]; omega)) rfl ?_
      refine wm_get (q := 25) hg dX4_push_22 rfl fl_X4_50 (by first | assumption | decide | omega | (simp only [nO]; omega)) rfl ?_
      refine wm_get (q := 28) hg dX4_push_25 rfl fl_X4_105 (by first | assumption | decide | omega | (simp only [nO]; omega)) rfl ?_
      refine wm_iload_n (q := 29) (i := 1) hg dX4_push_28 rfl rfl rfl ?_
      refine wm_iaload (q := 30) i.toNatClampNeg hg dX4_push_29 rfl (by first | assumption | decide | omega | (simp only [nO]; omega)) rfl hi1 (by simp only [alen]; omega) ?_
      refine wm_iconst (q := 31) 1 hg dX4_push_30 rfl (by decide) ?_
      refine wm_icmp_ne (q := 37) (q2 := 34) hg dX4_push_31 (by decide) rfl (fun h3 => ?_) (fun h3 => ?_)
      · refine wm_aload_n (q := 38) (i := 0) hg dX4_push_37 rfl rfl rfl ?_
        refine wm_callV1 (q := 41) hg dX4_push_38 rfl lk_X4_82 (by first | decide | omega) (c_X4_startChange (by first | assumption | decide | omega) (by first | assumption | decide | omega)) (by first | assumption | decide | omega | (simp only [nO]; omega)) ⟨rfl, by decide⟩ rfl rfl (Nat.le_of_ble_eq_true rfl) ?_
        refine wm_mem (recP hU) ?_
        refine wm_istore_n (q := 42) (i := 3) (L' := [(0, _), (1, _), (2, _), (3, _)]) hg dX4_push_41 rfl rfl rfl rfl ?_
        refine wm_aload_n (q := 43) (i := 0) hg dX4_push_42 rfl rfl rfl ?_
        refine wm_get (q := 46) hg dX4_push_43 rfl fl_X4_10 (by first | assumption | decide | omega | (simp only [nO]; omega)) rfl ?_
        refine wm_get (q := 49) hg dX4_push_46 rfl fl_X4_50 (by first | assumption | decide | omega | (simp only [nO]; omega)) rfl ?_
        refine wm_iload_n (q := 50) (i := 1) hg dX4_push_49 rfl rfl rfl ?_
        refine wm_iload_n (q := 51) (i := 2) hg dX4_push_50 rfl rfl rfl ?_
        refine wm_callV0 (q := 54) hg dX4_push_51 rfl lk_X4_129 (by first | decide | omega) (c_X1_turn (by first | assumption | decide | omega) hi1 (by omega)) (by first | assumption | decide | omega | (simp only [nO]; omega)) ⟨rfl, by decide⟩ rfl rfl (Nat.le_of_ble_eq_true rfl) ?_
        refine wm_mem (M' := setP (recM M) (turnX (M.1 1 0) i.toNatClampNeg b) (M.1 0 0)) (by simp only [setP_c, setP_b, setP_1, setP_0]) ?_
        refine wm_aload_n (q := 55) (i := 0) hg dX4_push_54 rfl rfl rfl ?_
        refine wm_get (q := 58) hg dX4_push_55 rfl fl_X4_10 (by first | assumption | decide | omega | (simp only [nO]; omega)) rfl ?_
        refine wm_get (q := 61) hg dX4_push_58 rfl fl_X4_64 (by first | assumption | decide | omega | (simp only [nO]; omega)) rfl ?_
        refine wm_dup (q := 62) hg dX4_push_61 rfl rfl ?_
        refine wm_get (q := 65) hg dX4_push_62 rfl fl_X4_132 (by first | assumption | decide | omega | (simp only [nO]; omega)) rfl ?_
        refine wm_iconst (q := 66) 1 hg dX4_push_65 rfl (by decide) ?_
        refine wm_iadd (q := 67) hg dX4_push_66 rfl ?_
        refine wm_put (q := 70) hg dX4_push_67 rfl fl_X4_132 (by first | assumption | decide | omega | (simp only [nO]; omega)) rfl ?_
        refine wm_mem (M' := setP (recM M) (turnX (M.1 1 0) i.toNatClampNeg b) (oI (M.1 0 0) 3 ((M.1 0 0).1 3 + 1))) (by simp only [sI, setP_c, setP_b, setP_1, setP_0]) ?_
        refine wm_aload_n (q := 71) (i := 0) hg dX4_push_70 rfl rfl rfl ?_
        refine wm_iload_n (q := 72) (i := 3) hg dX4_push_71 rfl rfl rfl ?_
        refine wm_callV1 (q := 75) hg dX4_push_72 rfl lk_X4_90 (by first | decide | omega) (c_endCh (ok10_1 rfl hz) (okB_w hB _ (by decide))) (by first | assumption | decide | omega | (simp only [nO]; omega)) ⟨rfl, by decide⟩ rfl rfl (Nat.le_of_ble_eq_true rfl) ?_
        exact wm_iret hg hr dX4_push_75 (by simp only [fPush, if_neg h1, if_neg h2, if_neg h3, chN]) (by simp only [fPush, if_neg h1, if_neg h2, if_neg h3, chM])
      · refine wm_ldc (q := 36) (-1000000002) hg dX4_push_34 rfl ld_X4_97 ?_
        exact wm_iret hg hr dX4_push_36 (by simp only [fPush, if_neg h1, if_neg h2, if_pos h3]) (by simp only [fPush, if_neg h1, if_neg h2, if_pos h3])
    · refine wm_ldc (q := 17) (-1000000001) hg dX4_push_15 rfl ld_X4_49 ?_
      exact wm_iret hg hr dX4_push_17 (by simp only [fPush, if_neg h1, if_pos h2]) (by simp only [fPush, if_neg h1, if_pos h2])
set_option maxRecDepth 100000 in
set_option maxHeartbeats 4000000 in
theorem c_X4_goal {Γ : GT} {M : Mem} {i a : Int32} (hI : InvC M) : Ct Γ yX4_goal cX4_goal 5 (some .int) 7 [.ref (ad Γ 4 0 0), .int i, .int a] M (some (.int (fGoal M i a).1)) (fGoal M i a).2 := by
  refine ct_of (by decide) (Nat.le_of_ble_eq_true rfl) (fun K hg hr => ?_)
  show WM Γ K _ [(0, _), (1, _), (2, _)] 0 []
  obtain ⟨hU, hC, hBB, hT⟩ := hI
  have hz := hC 0 (by decide)
  have hB := hBB 0 (by decide)
  have hz2 := hz.2
  refine wm_aload_n (q := 1) (i := 0) hg dX4_goal_0 rfl rfl rfl ?_
  refine wm_iload_n (q := 2) (i := 1) hg dX4_goal_1 rfl rfl rfl ?_
  refine wm_callV1 (q := 5) hg dX4_goal_2 rfl lk_X4_94 (by first | decide | omega) c_X4_isMagnet (by first | assumption | decide | omega | (simp only [nO]; omega)) ⟨rfl, by decide⟩ rfl rfl (Nat.le_of_ble_eq_true rfl) ?_
  refine wm_if_eq (q := 21) (q2 := 8) hg dX4_goal_5 (by decide) rfl (fun h1 => ?_) (fun h1 => ?_)
  · refine wm_ldc (q := 23) (-1000000001) hg dX4_goal_21 rfl ld_X4_49 ?_
    exact wm_iret hg hr dX4_goal_23 (by simp only [fGoal, if_pos h1]) (by simp only [fGoal, if_pos h1])
  · obtain ⟨hi1, hi2, hi3⟩ := wthn_sz hz h1
    refine wm_iload_n (q := 9) (i := 2) hg dX4_goal_8 rfl rfl rfl ?_
    refine wm_ldc (q := 11) (-1000000009) hg dX4_goal_9 rfl ld_X4_151 ?_
    refine wm_icmp_eq (q := 24) (q2 := 14) hg dX4_goal_11 (by decide) rfl (fun h2 => ?_) (fun h2 => ?_)
    · have hc : a = -1000000009 ∨ ¬ isAng a = 0 := Or.inl h2
      refine wm_aload_n (q := 25) (i := 0) hg dX4_goal_24 rfl rfl rfl ?_
      refine wm_get (q := 28) hg dX4_goal_25 rfl fl_X4_10 (by first | assumption | decide | omega | (simp only [nO]; omega)) rfl ?_
      refine wm_get (q := 31) hg dX4_goal_28 rfl fl_X4_50 (by first | assumption | decide | omega | (simp only [nO]; omega)) rfl ?_
      refine wm_get (q := 34) hg dX4_goal_31 rfl fl_X4_152 (by first | assumption | decide | omega | (simp only [nO]; omega)) rfl ?_
      refine wm_iload_n (q := 35) (i := 1) hg dX4_goal_34 rfl rfl rfl ?_
      refine wm_iaload (q := 36) i.toNatClampNeg hg dX4_goal_35 rfl (by first | assumption | decide | omega | (simp only [nO]; omega)) rfl hi1 (by simp only [alen]; omega) ?_
      refine wm_istore_n (q := 37) (i := 3) (L' := [(0, _), (1, _), (2, _), (3, _)]) hg dX4_goal_36 rfl rfl rfl rfl ?_
      refine wm_aload_n (q := 38) (i := 0) hg dX4_goal_37 rfl rfl rfl ?_
      refine wm_callV1 (q := 41) hg dX4_goal_38 rfl lk_X4_82 (by first | decide | omega) (c_X4_startChange (by first | assumption | decide | omega) (by first | assumption | decide | omega)) (by first | assumption | decide | omega | (simp only [nO]; omega)) ⟨rfl, by decide⟩ rfl rfl (Nat.le_of_ble_eq_true rfl) ?_
      refine wm_mem (recP hU) ?_
      refine wm_istore (q := 43) (i := 4) (L' := [(0, _), (1, _), (2, _), (3, _), (4, _)]) hg dX4_goal_41 rfl rfl rfl ?_
      refine wm_aload_n (q := 44) (i := 0) hg dX4_goal_43 rfl rfl rfl ?_
      refine wm_get (q := 47) hg dX4_goal_44 rfl fl_X4_10 (by first | assumption | decide | omega | (simp only [nO]; omega)) rfl ?_
      refine wm_get (q := 50) hg dX4_goal_47 rfl fl_X4_50 (by first | assumption | decide | omega | (simp only [nO]; omega)) rfl ?_
      refine wm_get (q := 53) hg dX4_goal_50 rfl fl_X4_152 (by first | assumption | decide | omega | (simp only [nO]; omega)) rfl ?_
      refine wm_iload_n (q := 54) (i := 1) hg dX4_goal_53 rfl rfl rfl ?_
      refine wm_iload_n (q := 55) (i := 2) hg dX4_goal_54 rfl rfl rfl ?_
      refine wm_iastore (q := 56) i.toNatClampNeg hg dX4_goal_55 rfl (by first | assumption | decide | omega | (simp only [nO]; omega)) rfl hi1 (by simp only [alen]; omega) ?_
      refine wm_mem (M' := setP (recM M) (oA (M.1 1 0) 3 (upd ((M.1 1 0).2 3) i.toNatClampNeg a)) (M.1 0 0)) (by simp only [sA, setP_c, setP_b, setP_1, setP_0]) ?_
      refine wm_aload_n (q := 57) (i := 0) hg dX4_goal_56 rfl rfl rfl ?_
      refine wm_iload (q := 59) (i := 4) hg dX4_goal_57 rfl rfl ?_
      refine wm_callV1 (q := 62) hg dX4_goal_59 rfl lk_X4_90 (by first | decide | omega) (c_endCh (ok10_1 rfl hz) hB) (by first | assumption | decide | omega | (simp only [nO]; omega)) ⟨rfl, by decide⟩ rfl rfl (Nat.le_of_ble_eq_true rfl) ?_
      refine wm_pop (q := 63) hg dX4_goal_62 rfl rfl ?_
      refine wm_iload_n (q := 64) (i := 3) hg dX4_goal_63 rfl rfl rfl ?_
      exact wm_iret hg hr dX4_goal_64 (by simp only [fGoal, if_neg h1, if_pos hc]) (by simp only [fGoal, if_neg h1, if_pos hc, chM])
    · refine wm_iload_n (q := 15) (i := 2) hg dX4_goal_14 rfl rfl rfl ?_
      refine wm_callS1 (q := 18) hg dX4_goal_15 rfl lk_X4_77 (by first | decide | omega) c_X4_isAngle rfl rfl (Nat.le_of_ble_eq_true rfl) ?_
      refine wm_if_ne (q := 24) (q2 := 21) hg dX4_goal_18 (by decide) rfl (fun h3 => ?_) (fun h3 => ?_)
      · have hc : a = -1000000009 ∨ ¬ isAng a = 0 := Or.inr h3
        refine wm_aload_n (q := 25) (i := 0) hg dX4_goal_24 rfl rfl rfl ?_
        refine wm_get (q := 28) hg dX4_goal_25 rfl fl_X4_10 (by first | assumption | decide | omega | (simp only [nO]; omega)) rfl ?_
        refine wm_get (q := 31) hg dX4_goal_28 rfl fl_X4_50 (by first | assumption | decide | omega | (simp only [nO]; omega)) rfl ?_
        refine wm_get (q := 34) hg dX4_goal_31 rfl fl_X4_152 (by first | assumption | decide | omega | (simp only [nO]; omega)) rfl ?_
        refine wm_iload_n (q := 35) (i := 1) hg dX4_goal_34 rfl rfl rfl ?_
        refine wm_iaload (q := 36) i.toNatClampNeg hg dX4_goal_35 rfl (by first | assumption | decide | omega | (simp only [nO]; omega)) rfl hi1 (by simp only [alen]; omega) ?_
        refine wm_istore_n (q := 37) (i := 3) (L' := [(0, _), (1, _), (2, _), (3, _)]) hg dX4_goal_36 rfl rfl rfl rfl ?_
        refine wm_aload_n (q := 38) (i := 0) hg dX4_goal_37 rfl rfl rfl ?_
        refine wm_callV1 (q := 41) hg dX4_goal_38 rfl lk_X4_82 (by first | decide | omega) (c_X4_startChange (by first | assumption | decide | omega) (by first | assumption | decide | omega)) (by first | assumption | decide | omega | (simp only [nO]; omega)) ⟨rfl, by decide⟩ rfl rfl (Nat.le_of_ble_eq_true rfl) ?_
        refine wm_mem (recP hU) ?_
        refine wm_istore (q := 43) (i := 4) (L' := [(0, _), (1, _), (2, _), (3, _), (4, _)]) hg dX4_goal_41 rfl rfl rfl ?_
        refine wm_aload_n (q := 44) (i := 0) hg dX4_goal_43 rfl rfl rfl ?_
        refine wm_get (q := 47) hg dX4_goal_44 rfl fl_X4_10 (by first | assumption | decide | omega | (simp only [nO]; omega)) rfl ?_
        refine wm_get (q := 50) hg dX4_goal_47 rfl fl_X4_50 (by first | assumption | decide | omega | (simp only [nO]; omega)) rfl ?_
        refine wm_get (q := 53) hg dX4_goal_50 rfl fl_X4_152 (by first | assumption | decide | omega | (simp only [nO]; omega)) rfl ?_
        refine wm_iload_n (q := 54) (i := 1) hg dX4_goal_53 rfl rfl rfl ?_
        refine wm_iload_n (q := 55) (i := 2) hg dX4_goal_54 rfl rfl rfl ?_
        refine wm_iastore (q := 56) i.toNatClampNeg hg dX4_goal_55 rfl (by first | assumption | decide | omega | (simp only [nO]; omega)) rfl hi1 (by simp only [alen]; omega) ?_
        refine wm_mem (M' := setP (recM M) (oA (M.1 1 0) 3 (upd ((M.1 1 0).2 3) i.toNatClampNeg a)) (M.1 0 0)) (by simp only [sA, setP_c, setP_b, setP_1, setP_0]) ?_
        refine wm_aload_n (q := 57) (i := 0) hg dX4_goal_56 rfl rfl rfl ?_
        refine wm_iload (q := 59) (i := 4) hg dX4_goal_57 rfl rfl ?_
        refine wm_callV1 (q := 62) hg dX4_goal_59 rfl lk_X4_90 (by first | decide | omega) (c_endCh (ok10_1 rfl hz) hB) (by first | assumption | decide | omega | (simp only [nO]; omega)) ⟨rfl, by decide⟩ rfl rfl (Nat.le_of_ble_eq_true rfl) ?_
        refine wm_pop (q := 63) hg dX4_goal_62 rfl rfl ?_
        refine wm_iload_n (q := 64) (i := 3) hg dX4_goal_63 rfl rfl rfl ?_
        exact wm_iret hg hr dX4_goal_64 (by simp only [fGoal, if_neg h1, if_pos hc]) (by simp only [fGoal, if_neg h1, if_pos hc, chM])
      · have hc : ¬ (a = -1000000009 ∨ ¬ isAng a = 0) := fun z => z.elim h2 (fun z => z h3)
        refine wm_ldc (q := 23) (-1000000001) hg dX4_goal_21 rfl ld_X4_49 ?_
        exact wm_iret hg hr dX4_goal_23 (by simp only [fGoal, if_neg h1, if_neg hc]) (by simp only [fGoal, if_neg h1, if_neg hc])
set_option maxRecDepth 100000 in
set_option maxHeartbeats 4000000 in
theorem c_X4_set {Γ : GT} {M : Mem} {a v : Int32} (hI : InvC M) : Ct Γ yX4_set cX4_set 5 (some .int) 7 [.ref (ad Γ 4 0 0), .int a, .int v] M (some (.int (fSet M a v).1)) (fSet M a v).2 := by
  refine ct_of (by decide) (Nat.le_of_ble_eq_true rfl) (fun K hg hr => ?_)
  show WM Γ K _ [(0, _), (1, _), (2, _)] 0 []
  obtain ⟨hU, hC, hBB, hT⟩ := hI
  have hz := hC 0 (by decide)
  have hB := hBB 0 (by decide)
  have hz2 := hz.2
  refine wm_iload_n (q := 1) (i := 1) hg dX4_set_0 rfl rfl rfl ?_
  refine wm_iload_n (q := 2) (i := 2) hg dX4_set_1 rfl rfl rfl ?_
  refine wm_callS1 (q := 5) hg dX4_set_2 rfl lk_X4_135 (by first | decide | omega) c_X4_isSetting rfl rfl (Nat.le_of_ble_eq_true rfl) ?_
  refine wm_if_ne (q := 11) (q2 := 8) hg dX4_set_5 (by decide) rfl (fun h1 => ?_) (fun h1 => ?_)
  · refine wm_aload_n (q := 12) (i := 0) hg dX4_set_11 rfl rfl rfl ?_
    refine wm_get (q := 15) hg dX4_set_12 rfl fl_X4_10 (by first | assumption | decide | omega | (simp only [nO]; omega)) rfl ?_
    refine wm_get (q := 18) hg dX4_set_15 rfl fl_X4_50 (by first | assumption | decide | omega | (simp only [nO]; omega)) rfl ?_
    refine wm_astore_n (q := 19) (i := 3) (L' := [(0, _), (1, _), (2, _), (3, _)]) hg dX4_set_18 rfl rfl rfl rfl ?_
    refine wm_aload_n (q := 20) (i := 0) hg dX4_set_19 rfl rfl rfl ?_
    refine wm_callV1 (q := 23) hg dX4_set_20 rfl lk_X4_82 (by first | decide | omega) (c_X4_startChange (by first | assumption | decide | omega) (by first | assumption | decide | omega)) (by first | assumption | decide | omega | (simp only [nO]; omega)) ⟨rfl, by decide⟩ rfl rfl (Nat.le_of_ble_eq_true rfl) ?_
    refine wm_mem (recP hU) ?_
    refine wm_istore (q := 25) (i := 4) (L' := [(0, _), (1, _), (2, _), (3, _), (4, _)]) hg dX4_set_23 rfl rfl rfl ?_
    refine wm_iload_n (q := 26) (i := 1) hg dX4_set_25 rfl rfl rfl ?_
    by_cases hk0 : a = 0
    · subst hk0
      refine wm_tableIn (q := 52) hg dX4_set_26 (by decide) (by decide) rfl (by decide) ?_
      have eX : setX (M.1 1 0) 0 v = oI (M.1 1 0) 4 v := rfl
      refine wm_aload_n (q := 53) (i := 3) hg dX4_set_52 rfl rfl rfl ?_
      refine wm_iload_n (q := 54) (i := 2) hg dX4_set_53 rfl rfl rfl ?_
      refine wm_put (q := 57) hg dX4_set_54 rfl fl_X4_139 (by first | assumption | decide | omega | (simp only [nO]; omega)) rfl ?_
      refine wm_mem (M' := setP (recM M) (setX (M.1 1 0) 0 v) (M.1 0 0)) (by simp only [sI, setP_c, setP_b, setP_1, setP_0, eX]) ?_
      refine wm_goto (q := 81) hg dX4_set_57 (by decide) ?_
      refine wm_aload_n (q := 82) (i := 0) hg dX4_set_81 rfl rfl rfl ?_
      refine wm_iload (q := 84) (i := 4) hg dX4_set_82 rfl rfl ?_
      refine wm_callV1 (q := 87) hg dX4_set_84 rfl lk_X4_90 (by first | decide | omega) (c_endCh (by rw [eX]; exact ok10_set hz v (by decide)) hB) (by first | assumption | decide | omega | (simp only [nO]; omega)) ⟨rfl, by decide⟩ rfl rfl (Nat.le_of_ble_eq_true rfl) ?_
      exact wm_iret hg hr dX4_set_87 (by simp only [fSet, if_neg h1, chN]) (by simp only [fSet, if_neg h1, chM])
    · by_cases hk1 : a = 1
      · subst hk1
        refine wm_tableIn (q := 60) hg dX4_set_26 (by decide) (by decide) rfl (by decide) ?_
        have eX : setX (M.1 1 0) 1 v = oI (M.1 1 0) 5 v := rfl
        refine wm_aload_n (q := 61) (i := 3) hg dX4_set_60 rfl rfl rfl ?_
        refine wm_iload_n (q := 62) (i := 2) hg dX4_set_61 rfl rfl rfl ?_
        refine wm_put (q := 65) hg dX4_set_62 rfl fl_X4_142 (by first | assumption | decide | omega | (simp only [nO]; omega)) rfl ?_
        refine wm_mem (M' := setP (recM M) (setX (M.1 1 0) 1 v) (M.1 0 0)) (by simp only [sI, setP_c, setP_b, setP_1, setP_0, eX]) ?_
        refine wm_goto (q := 81) hg dX4_set_65 (by decide) ?_
        refine wm_aload_n (q := 82) (i := 0) hg dX4_set_81 rfl rfl rfl ?_
        refine wm_iload (q := 84) (i := 4) hg dX4_set_82 rfl rfl ?_
        refine wm_callV1 (q := 87) hg dX4_set_84 rfl lk_X4_90 (by first | decide | omega) (c_endCh (by rw [eX]; exact ok10_set hz v (by decide)) hB) (by first | assumption | decide | omega | (simp only [nO]; omega)) ⟨rfl, by decide⟩ rfl rfl (Nat.le_of_ble_eq_true rfl) ?_
        exact wm_iret hg hr dX4_set_87 (by simp only [fSet, if_neg h1, chN]) (by simp only [fSet, if_neg h1, chM])
      · by_cases hk2 : a = 2
        · subst hk2
          refine wm_tableIn (q := 68) hg dX4_set_26 (by decide) (by decide) rfl (by decide) ?_
          have eX : setX (M.1 1 0) 2 v = oI (M.1 1 0) 6 v := rfl
          refine wm_aload_n (q := 69) (i := 3) hg dX4_set_68 rfl rfl rfl ?_
          refine wm_iload_n (q := 70) (i := 2) hg dX4_set_69 rfl rfl rfl ?_
          refine wm_put (q := 73) hg dX4_set_70 rfl fl_X4_145 (by first | assumption | decide | omega | (simp only [nO]; omega)) rfl ?_
          refine wm_mem (M' := setP (recM M) (setX (M.1 1 0) 2 v) (M.1 0 0)) (by simp only [sI, setP_c, setP_b, setP_1, setP_0, eX]) ?_
          refine wm_goto (q := 81) hg dX4_set_73 (by decide) ?_
          refine wm_aload_n (q := 82) (i := 0) hg dX4_set_81 rfl rfl rfl ?_
          refine wm_iload (q := 84) (i := 4) hg dX4_set_82 rfl rfl ?_
          refine wm_callV1 (q := 87) hg dX4_set_84 rfl lk_X4_90 (by first | decide | omega) (c_endCh (by rw [eX]; exact ok10_set hz v (by decide)) hB) (by first | assumption | decide | omega | (simp only [nO]; omega)) ⟨rfl, by decide⟩ rfl rfl (Nat.le_of_ble_eq_true rfl) ?_
          exact wm_iret hg hr dX4_set_87 (by simp only [fSet, if_neg h1, chN]) (by simp only [fSet, if_neg h1, chM])
        · have hj0 : a.toInt ≠ 0 := fun z => hk0 (Int32.toInt_inj.mp (z.trans (by decide)))
          have hj1 : a.toInt ≠ 1 := fun z => hk1 (Int32.toInt_inj.mp (z.trans (by decide)))
          have hj2 : a.toInt ≠ 2 := fun z => hk2 (Int32.toInt_inj.mp (z.trans (by decide)))
          refine wm_tableOut (q := 76) hg dX4_set_26 (by omega) (by decide) ?_
          have eX : setX (M.1 1 0) a v = oI (M.1 1 0) 7 v := by simp only [setX, if_neg hk0, if_neg hk1, if_neg hk2]
          refine wm_aload_n (q := 77) (i := 3) hg dX4_set_76 rfl rfl rfl ?_
          refine wm_iload_n (q := 78) (i := 2) hg dX4_set_77 rfl rfl rfl ?_
          refine wm_put (q := 81) hg dX4_set_78 rfl fl_X4_148 (by first | assumption | decide | omega | (simp only [nO]; omega)) rfl ?_
          refine wm_mem (M' := setP (recM M) (setX (M.1 1 0) a v) (M.1 0 0)) (by simp only [sI, setP_c, setP_b, setP_1, setP_0, eX]) ?_
          refine wm_aload_n (q := 82) (i := 0) hg dX4_set_81 rfl rfl rfl ?_
          refine wm_iload (q := 84) (i := 4) hg dX4_set_82 rfl rfl ?_
          refine wm_callV1 (q := 87) hg dX4_set_84 rfl lk_X4_90 (by first | decide | omega) (c_endCh (by rw [eX]; exact ok10_set hz v (by decide)) hB) (by first | assumption | decide | omega | (simp only [nO]; omega)) ⟨rfl, by decide⟩ rfl rfl (Nat.le_of_ble_eq_true rfl) ?_
          exact wm_iret hg hr dX4_set_87 (by simp only [fSet, if_neg h1, chN]) (by simp only [fSet, if_neg h1, chM])
  · refine wm_ldc (q := 10) (-1000000001) hg dX4_set_8 rfl ld_X4_49 ?_
    exact wm_iret hg hr dX4_set_10 (by simp only [fSet, if_pos h1]) (by simp only [fSet, if_pos h1])
set_option maxRecDepth 100000 in
set_option maxHeartbeats 4000000 in
theorem c_X4_undo {Γ : GT} {M : Mem}  (hI : InvC M) : Ct Γ yX4_undo cX4_undo 1 (some .int) 5 [.ref (ad Γ 4 0 0)] M (some (.int (fUndo M).1)) (fUndo M).2 := by
  refine ct_of (by decide) (Nat.le_of_ble_eq_true rfl) (fun K hg hr => ?_)
  show WM Γ K _ [(0, _)] 0 []
  obtain ⟨hU, hC, hBB, hT⟩ := hI
  have hz := hC 0 (by decide)
  have hB := hBB 0 (by decide)
  have hz2 := hz.2
  refine wm_aload_n (q := 1) (i := 0) hg dX4_undo_0 rfl rfl rfl ?_
  refine wm_get (q := 4) hg dX4_undo_1 rfl fl_X4_20 (by first | assumption | decide | omega | (simp only [nO]; omega)) rfl ?_
  refine wm_if_le (q := 19) (q2 := 7) hg dX4_undo_4 (by decide) rfl (fun h1 => ?_) (fun h1 => ?_)
  · have h1n := Int32.not_lt.mpr h1
    refine wm_ldc (q := 21) (-1000000002) hg dX4_undo_19 rfl ld_X4_97 ?_
    exact wm_iret hg hr dX4_undo_21 (by simp only [fUndo, if_neg h1n]) (by simp only [fUndo, if_neg h1n])
  · have h1n := Int32.not_le.mp h1
    refine wm_aload_n (q := 8) (i := 0) hg dX4_undo_7 rfl rfl rfl ?_
    refine wm_get (q := 11) hg dX4_undo_8 rfl fl_X4_20 (by first | assumption | decide | omega | (simp only [nO]; omega)) rfl ?_
    refine wm_aload_n (q := 12) (i := 0) hg dX4_undo_11 rfl rfl rfl ?_
    refine wm_get (q := 15) hg dX4_undo_12 rfl fl_X4_16 (by first | assumption | decide | omega | (simp only [nO]; omega)) rfl ?_
    refine wm_alenR (q := 16) (v := 8) hg dX4_undo_15 rfl (Or.inl ⟨rfl, rfl⟩) ?_
    refine wm_icmp_le (q := 22) (q2 := 19) hg dX4_undo_16 (by decide) rfl (fun h2 => ?_) (fun h2 => ?_)
    · have hun : 1 ≤ unN M := by
        rcases Nat.lt_or_ge (unN M) 1 with q | q
        · exact absurd h1n (by rw [hU.1, show unN M = 0 by omega]; decide)
        · exact q
      have hu8 := hU.2.1
      have hh := hU.2.2.1 (unN M - 1) (by omega)
      refine wm_aload_n (q := 23) (i := 0) hg dX4_undo_22 rfl rfl rfl ?_
      refine wm_dup (q := 24) hg dX4_undo_23 rfl rfl ?_
      refine wm_get (q := 27) hg dX4_undo_24 rfl fl_X4_20 (by first | assumption | decide | omega | (simp only [nO]; omega)) rfl ?_
      refine wm_iconst (q := 28) 1 hg dX4_undo_27 rfl (by decide) ?_
      refine wm_isub (q := 29) hg dX4_undo_28 rfl ?_
      refine wm_put (q := 32) hg dX4_undo_29 rfl fl_X4_20 (by first | assumption | decide | omega | (simp only [nO]; omega)) rfl ?_
      refine wm_aload_n (q := 33) (i := 0) hg dX4_undo_32 rfl rfl rfl ?_
      refine wm_get (q := 36) hg dX4_undo_33 rfl fl_X4_10 (by first | assumption | decide | omega | (simp only [nO]; omega)) rfl ?_
      refine wm_aload_n (q := 37) (i := 0) hg dX4_undo_36 rfl rfl rfl ?_
      refine wm_get (q := 40) hg dX4_undo_37 rfl fl_X4_16 (by first | assumption | decide | omega | (simp only [nO]; omega)) rfl ?_
      refine wm_aload_n (q := 41) (i := 0) hg dX4_undo_40 rfl rfl rfl ?_
      refine wm_get (q := 44) hg dX4_undo_41 rfl fl_X4_20 (by first | assumption | decide | omega | (simp only [nO]; omega)) rfl ?_
      refine wm_hload (q := 45) (unN M - 1) hg dX4_undo_44 rfl (by rw [sO_same]; simp only [oI, upd_same]; exact nsub hU.1 rfl hun) (by omega) ?_
      refine wm_callV0 (q := 48) hg dX4_undo_45 rfl lk_X4_155 (by first | decide | omega) (c_X2_takeFrom (by decide) (by show M.2 (unN M - 1) < 11; omega) (by show 0 ≠ M.2 (unN M - 1); omega)) (by first | assumption | decide | omega | (simp only [nO]; omega)) ⟨rfl, by decide⟩ rfl rfl (Nat.le_of_ble_eq_true rfl) ?_
      refine wm_aload_n (q := 49) (i := 0) hg dX4_undo_48 rfl rfl rfl ?_
      refine wm_get (q := 52) hg dX4_undo_49 rfl fl_X4_20 (by first | assumption | decide | omega | (simp only [nO]; omega)) rfl ?_
      exact wm_iret hg hr dX4_undo_52 (by simp only [fUndo, if_pos h1n, sI, sO_kind _ _ _ _ (show (4:Nat) ≠ 0 by decide), sO_kind _ _ _ _ (show (4:Nat) ≠ 1 by decide), sO_same, oI, upd_same]) (by simp only [fUndo, if_pos h1n, setP, sI, sO_kind _ _ _ _ (show (0:Nat) ≠ 4 by decide), sO_kind _ _ _ _ (show (1:Nat) ≠ 4 by decide), sO_hist])
    · exact absurd (show (M.1 4 0).1 2 ≤ 8 by rw [hU.1]; exact nI_le (a := unN M) (b := 8) hU.2.1 (by decide)) h2
set_option maxRecDepth 100000 in
set_option maxHeartbeats 4000000 in
theorem c_X4_told {Γ : GT} {M : Mem} {v : Int32} (hI : InvC M) : Ct Γ yX4_told cX4_told 4 (some .int) 3 [.ref (ad Γ 4 0 0), .int v] M (some (.int (fTold M v))) M := by
  refine ct_of (by decide) (Nat.le_of_ble_eq_true rfl) (fun K hg hr => ?_)
  show WM Γ K _ [(0, _), (1, _)] 0 []
  obtain ⟨hU, hC, hBB, hT⟩ := hI
  have hz := hC 0 (by decide)
  have hB := hBB 0 (by decide)
  have hz2 := hz.2
  refine wm_aload_n (q := 1) (i := 0) hg dX4_told_0 rfl rfl rfl ?_
  refine wm_get (q := 4) hg dX4_told_1 rfl fl_X4_10 (by first | assumption | decide | omega | (simp only [nO]; omega)) rfl ?_
  refine wm_get (q := 7) hg dX4_told_4 rfl fl_X4_50 (by first | assumption | decide | omega | (simp only [nO]; omega)) rfl ?_
  refine wm_astore_n (q := 8) (i := 2) (L' := [(0, _), (1, _), (2, _)]) hg dX4_told_7 rfl rfl rfl rfl ?_
  refine wm_aload_n (q := 9) (i := 0) hg dX4_told_8 rfl rfl rfl ?_
  refine wm_get (q := 12) hg dX4_told_9 rfl fl_X4_10 (by first | assumption | decide | omega | (simp only [nO]; omega)) rfl ?_
  refine wm_get (q := 15) hg dX4_told_12 rfl fl_X4_64 (by first | assumption | decide | omega | (simp only [nO]; omega)) rfl ?_
  refine wm_astore_n (q := 16) (i := 3) (L' := [(0, _), (1, _), (2, _), (3, _)]) hg dX4_told_15 rfl rfl rfl rfl ?_
  refine wm_iload_n (q := 17) (i := 1) hg dX4_told_16 rfl rfl rfl ?_
  by_cases hk0 : v = 0
  · subst hk0
    refine wm_tableIn (q := 96) hg dX4_told_17 (by decide) (by decide) rfl (by decide) ?_
    refine wm_aload_n (q := 97) (i := 2) hg dX4_told_96 rfl rfl rfl ?_
    refine wm_get (q := 100) hg dX4_told_97 rfl fl_X4_54 (by first | assumption | decide | omega | (simp only [nO]; omega)) rfl ?_
    exact wm_iret hg hr dX4_told_100 (rfl) (rfl)
  · by_cases hk1 : v = 1
    · subst hk1
      refine wm_tableIn (q := 101) hg dX4_told_17 (by decide) (by decide) rfl (by decide) ?_
      refine wm_aload_n (q := 102) (i := 2) hg dX4_told_101 rfl rfl rfl ?_
      refine wm_callV1 (q := 105) hg dX4_told_102 rfl lk_X4_159 (by first | decide | omega) (c_X1_energy (by first | assumption | decide | omega) (by first | assumption | decide | omega)) (by first | assumption | decide | omega | (simp only [nO]; omega)) ⟨rfl, by decide⟩ rfl rfl (Nat.le_of_ble_eq_true rfl) ?_
      exact wm_iret hg hr dX4_told_105 (rfl) (rfl)
    · by_cases hk2 : v = 2
      · subst hk2
        refine wm_tableIn (q := 106) hg dX4_told_17 (by decide) (by decide) rfl (by decide) ?_
        refine wm_aload_n (q := 107) (i := 3) hg dX4_told_106 rfl rfl rfl ?_
        refine wm_get (q := 110) hg dX4_told_107 rfl fl_X4_162 (by first | assumption | decide | omega | (simp only [nO]; omega)) rfl ?_
        exact wm_iret hg hr dX4_told_110 (rfl) (rfl)
      · by_cases hk3 : v = 3
        · subst hk3
          refine wm_tableIn (q := 111) hg dX4_told_17 (by decide) (by decide) rfl (by decide) ?_
          refine wm_aload_n (q := 112) (i := 3) hg dX4_told_111 rfl rfl rfl ?_
          refine wm_get (q := 115) hg dX4_told_112 rfl fl_X4_165 (by first | assumption | decide | omega | (simp only [nO]; omega)) rfl ?_
          exact wm_iret hg hr dX4_told_115 (rfl) (rfl)
        · by_cases hk4 : v = 4
          · subst hk4
            refine wm_tableIn (q := 116) hg dX4_told_17 (by decide) (by decide) rfl (by decide) ?_
            refine wm_aload_n (q := 117) (i := 2) hg dX4_told_116 rfl rfl rfl ?_
            refine wm_get (q := 120) hg dX4_told_117 rfl fl_X4_139 (by first | assumption | decide | omega | (simp only [nO]; omega)) rfl ?_
            exact wm_iret hg hr dX4_told_120 (rfl) (rfl)
          · by_cases hk5 : v = 5
            · subst hk5
              refine wm_tableIn (q := 121) hg dX4_told_17 (by decide) (by decide) rfl (by decide) ?_
              refine wm_aload_n (q := 122) (i := 2) hg dX4_told_121 rfl rfl rfl ?_
              refine wm_get (q := 125) hg dX4_told_122 rfl fl_X4_142 (by first | assumption | decide | omega | (simp only [nO]; omega)) rfl ?_
              exact wm_iret hg hr dX4_told_125 (rfl) (rfl)
            · by_cases hk6 : v = 6
              · subst hk6
                refine wm_tableIn (q := 126) hg dX4_told_17 (by decide) (by decide) rfl (by decide) ?_
                refine wm_aload_n (q := 127) (i := 2) hg dX4_told_126 rfl rfl rfl ?_
                refine wm_get (q := 130) hg dX4_told_127 rfl fl_X4_145 (by first | assumption | decide | omega | (simp only [nO]; omega)) rfl ?_
                exact wm_iret hg hr dX4_told_130 (rfl) (rfl)
              · by_cases hk7 : v = 7
                · subst hk7
                  refine wm_tableIn (q := 131) hg dX4_told_17 (by decide) (by decide) rfl (by decide) ?_
                  refine wm_aload_n (q := 132) (i := 2) hg dX4_told_131 rfl rfl rfl ?_
                  refine wm_get (q := 135) hg dX4_told_132 rfl fl_X4_148 (by first | assumption | decide | omega | (simp only [nO]; omega)) rfl ?_
                  exact wm_iret hg hr dX4_told_135 (rfl) (rfl)
                · by_cases hk8 : v = 8
                  · subst hk8
                    refine wm_tableIn (q := 136) hg dX4_told_17 (by decide) (by decide) rfl (by decide) ?_
                    refine wm_aload_n (q := 137) (i := 3) hg dX4_told_136 rfl rfl rfl ?_
                    refine wm_get (q := 140) hg dX4_told_137 rfl fl_X4_168 (by first | assumption | decide | omega | (simp only [nO]; omega)) rfl ?_
                    exact wm_iret hg hr dX4_told_140 (rfl) (rfl)
                  · by_cases hk9 : v = 9
                    · subst hk9
                      refine wm_tableIn (q := 141) hg dX4_told_17 (by decide) (by decide) rfl (by decide) ?_
                      refine wm_aload_n (q := 142) (i := 3) hg dX4_told_141 rfl rfl rfl ?_
                      refine wm_get (q := 145) hg dX4_told_142 rfl fl_X4_132 (by first | assumption | decide | omega | (simp only [nO]; omega)) rfl ?_
                      exact wm_iret hg hr dX4_told_145 (rfl) (rfl)
                    · by_cases hk10 : v = 10
                      · subst hk10
                        refine wm_tableIn (q := 146) hg dX4_told_17 (by decide) (by decide) rfl (by decide) ?_
                        refine wm_aload_n (q := 147) (i := 3) hg dX4_told_146 rfl rfl rfl ?_
                        refine wm_get (q := 150) hg dX4_told_147 rfl fl_X4_171 (by first | assumption | decide | omega | (simp only [nO]; omega)) rfl ?_
                        exact wm_iret hg hr dX4_told_150 (rfl) (rfl)
                      · by_cases hk11 : v = 11
                        · subst hk11
                          refine wm_tableIn (q := 151) hg dX4_told_17 (by decide) (by decide) rfl (by decide) ?_
                          refine wm_aload_n (q := 152) (i := 2) hg dX4_told_151 rfl rfl rfl ?_
                          refine wm_callV1 (q := 155) hg dX4_told_152 rfl lk_X4_174 (by first | decide | omega) (c_X1_walls (by first | assumption | decide | omega) (by first | assumption | decide | omega)) (by first | assumption | decide | omega | (simp only [nO]; omega)) ⟨rfl, by decide⟩ rfl rfl (Nat.le_of_ble_eq_true rfl) ?_
                          exact wm_iret hg hr dX4_told_155 (rfl) (rfl)
                        · by_cases hk12 : v = 12
                          · subst hk12
                            refine wm_tableIn (q := 156) hg dX4_told_17 (by decide) (by decide) rfl (by decide) ?_
                            refine wm_aload_n (q := 157) (i := 2) hg dX4_told_156 rfl rfl rfl ?_
                            refine wm_callV1 (q := 160) hg dX4_told_157 rfl lk_X4_177 (by first | decide | omega) (c_X1_goalsMissed (by first | assumption | decide | omega) (by first | assumption | decide | omega)) (by first | assumption | decide | omega | (simp only [nO]; omega)) ⟨rfl, by decide⟩ rfl rfl (Nat.le_of_ble_eq_true rfl) ?_
                            exact wm_iret hg hr dX4_told_160 (rfl) (rfl)
                          · by_cases hk13 : v = 13
                            · subst hk13
                              refine wm_tableIn (q := 161) hg dX4_told_17 (by decide) (by decide) rfl (by decide) ?_
                              refine wm_aload_n (q := 162) (i := 2) hg dX4_told_161 rfl rfl rfl ?_
                              refine wm_callV1 (q := 165) hg dX4_told_162 rfl lk_X4_180 (by first | decide | omega) (c_X1_heldOnes (by first | assumption | decide | omega) (by first | assumption | decide | omega)) (by first | assumption | decide | omega | (simp only [nO]; omega)) ⟨rfl, by decide⟩ rfl rfl (Nat.le_of_ble_eq_true rfl) ?_
                              exact wm_iret hg hr dX4_told_165 (rfl) (rfl)
                            · by_cases hk14 : v = 14
                              · subst hk14
                                refine wm_tableIn (q := 166) hg dX4_told_17 (by decide) (by decide) rfl (by decide) ?_
                                refine wm_aload_n (q := 167) (i := 0) hg dX4_told_166 rfl rfl rfl ?_
                                refine wm_get (q := 170) hg dX4_told_167 rfl fl_X4_34 (by first | assumption | decide | omega | (simp only [nO]; omega)) rfl ?_
                                refine wm_get (q := 173) hg dX4_told_170 rfl fl_X4_183 (by first | assumption | decide | omega | (simp only [nO]; omega)) rfl ?_
                                exact wm_iret hg hr dX4_told_173 (rfl) (rfl)
                              · by_cases hk15 : v = 15
                                · subst hk15
                                  refine wm_tableIn (q := 174) hg dX4_told_17 (by decide) (by decide) rfl (by decide) ?_
                                  refine wm_aload_n (q := 175) (i := 0) hg dX4_told_174 rfl rfl rfl ?_
                                  refine wm_get (q := 178) hg dX4_told_175 rfl fl_X4_20 (by first | assumption | decide | omega | (simp only [nO]; omega)) rfl ?_
                                  exact wm_iret hg hr dX4_told_178 (rfl) (rfl)
                                · have hj0 : v.toInt ≠ 0 := fun z => hk0 (Int32.toInt_inj.mp (z.trans (by decide)))
                                  have hj1 : v.toInt ≠ 1 := fun z => hk1 (Int32.toInt_inj.mp (z.trans (by decide)))
                                  have hj2 : v.toInt ≠ 2 := fun z => hk2 (Int32.toInt_inj.mp (z.trans (by decide)))
                                  have hj3 : v.toInt ≠ 3 := fun z => hk3 (Int32.toInt_inj.mp (z.trans (by decide)))
                                  have hj4 : v.toInt ≠ 4 := fun z => hk4 (Int32.toInt_inj.mp (z.trans (by decide)))
                                  have hj5 : v.toInt ≠ 5 := fun z => hk5 (Int32.toInt_inj.mp (z.trans (by decide)))
                                  have hj6 : v.toInt ≠ 6 := fun z => hk6 (Int32.toInt_inj.mp (z.trans (by decide)))
                                  have hj7 : v.toInt ≠ 7 := fun z => hk7 (Int32.toInt_inj.mp (z.trans (by decide)))
                                  have hj8 : v.toInt ≠ 8 := fun z => hk8 (Int32.toInt_inj.mp (z.trans (by decide)))
                                  have hj9 : v.toInt ≠ 9 := fun z => hk9 (Int32.toInt_inj.mp (z.trans (by decide)))
                                  have hj10 : v.toInt ≠ 10 := fun z => hk10 (Int32.toInt_inj.mp (z.trans (by decide)))
                                  have hj11 : v.toInt ≠ 11 := fun z => hk11 (Int32.toInt_inj.mp (z.trans (by decide)))
                                  have hj12 : v.toInt ≠ 12 := fun z => hk12 (Int32.toInt_inj.mp (z.trans (by decide)))
                                  have hj13 : v.toInt ≠ 13 := fun z => hk13 (Int32.toInt_inj.mp (z.trans (by decide)))
                                  have hj14 : v.toInt ≠ 14 := fun z => hk14 (Int32.toInt_inj.mp (z.trans (by decide)))
                                  have hj15 : v.toInt ≠ 15 := fun z => hk15 (Int32.toInt_inj.mp (z.trans (by decide)))
                                  refine wm_tableOut (q := 179) hg dX4_told_17 (by omega) (by decide) ?_
                                  refine wm_ldc (q := 181) (-1000000001) hg dX4_told_179 rfl ld_X4_49 ?_
                                  exact wm_iret hg hr dX4_told_181 (by simp only [fTold, if_neg hk0, if_neg hk1, if_neg hk2, if_neg hk3, if_neg hk4, if_neg hk5, if_neg hk6, if_neg hk7, if_neg hk8, if_neg hk9, if_neg hk10, if_neg hk11, if_neg hk12, if_neg hk13, if_neg hk14, if_neg hk15]) (rfl)
set_option maxRecDepth 100000 in
set_option maxHeartbeats 4000000 in
theorem c_X4_magnet {Γ : GT} {M : Mem} {i v : Int32} (hI : InvC M) : Ct Γ yX4_magnet cX4_magnet 4 (some .int) 4 [.ref (ad Γ 4 0 0), .int i, .int v] M (some (.int (fMag M i v))) M := by
  refine ct_of (by decide) (Nat.le_of_ble_eq_true rfl) (fun K hg hr => ?_)
  show WM Γ K _ [(0, _), (1, _), (2, _)] 0 []
  obtain ⟨hU, hC, hBB, hT⟩ := hI
  have hz := hC 0 (by decide)
  have hB := hBB 0 (by decide)
  have hz2 := hz.2
  refine wm_aload_n (q := 1) (i := 0) hg dX4_magnet_0 rfl rfl rfl ?_
  refine wm_iload_n (q := 2) (i := 1) hg dX4_magnet_1 rfl rfl rfl ?_
  refine wm_callV1 (q := 5) hg dX4_magnet_2 rfl lk_X4_94 (by first | decide | omega) c_X4_isMagnet (by first | assumption | decide | omega | (simp only [nO]; omega)) ⟨rfl, by decide⟩ rfl rfl (Nat.le_of_ble_eq_true rfl) ?_
  refine wm_if_ne (q := 11) (q2 := 8) hg dX4_magnet_5 (by decide) rfl (fun h1 => ?_) (fun h1 => ?_)
  · obtain ⟨hi1, hi2, hi3⟩ := wthn_sz hz h1
    refine wm_aload_n (q := 12) (i := 0) hg dX4_magnet_11 rfl rfl rfl ?_
    refine wm_get (q := 15) hg dX4_magnet_12 rfl fl_X4_10 (by first | assumption | decide | omega | (simp only [nO]; omega)) rfl ?_
    refine wm_get (q := 18) hg dX4_magnet_15 rfl fl_X4_50 (by first | assumption | decide | omega | (simp only [nO]; omega)) rfl ?_
    refine wm_astore_n (q := 19) (i := 3) (L' := [(0, _), (1, _), (2, _), (3, _)]) hg dX4_magnet_18 rfl rfl rfl rfl ?_
    refine wm_iload_n (q := 20) (i := 2) hg dX4_magnet_19 rfl rfl rfl ?_
    by_cases hk0 : v = 0
    · subst hk0
      refine wm_tableIn (q := 60) hg dX4_magnet_20 (by decide) (by decide) rfl (by decide) ?_
      refine wm_aload_n (q := 61) (i := 3) hg dX4_magnet_60 rfl rfl rfl ?_
      refine wm_get (q := 64) hg dX4_magnet_61 rfl fl_X4_98 (by first | assumption | decide | omega | (simp only [nO]; omega)) rfl ?_
      refine wm_iload_n (q := 65) (i := 1) hg dX4_magnet_64 rfl rfl rfl ?_
      refine wm_iaload (q := 66) i.toNatClampNeg hg dX4_magnet_65 rfl (by first | assumption | decide | omega | (simp only [nO]; omega)) rfl hi1 (by simp only [alen]; omega) ?_
      exact wm_iret hg hr dX4_magnet_66 (by simp only [fMag, if_neg h1]; rfl) (rfl)
    · by_cases hk1 : v = 1
      · subst hk1
        refine wm_tableIn (q := 67) hg dX4_magnet_20 (by decide) (by decide) rfl (by decide) ?_
        refine wm_aload_n (q := 68) (i := 3) hg dX4_magnet_67 rfl rfl rfl ?_
        refine wm_get (q := 71) hg dX4_magnet_68 rfl fl_X4_105 (by first | assumption | decide | omega | (simp only [nO]; omega)) rfl ?_
        refine wm_iload_n (q := 72) (i := 1) hg dX4_magnet_71 rfl rfl rfl ?_
        refine wm_iaload (q := 73) i.toNatClampNeg hg dX4_magnet_72 rfl (by first | assumption | decide | omega | (simp only [nO]; omega)) rfl hi1 (by simp only [alen]; omega) ?_
        exact wm_iret hg hr dX4_magnet_73 (by simp only [fMag, if_neg h1]; rfl) (rfl)
      · by_cases hk2 : v = 2
        · subst hk2
          refine wm_tableIn (q := 74) hg dX4_magnet_20 (by decide) (by decide) rfl (by decide) ?_
          refine wm_aload_n (q := 75) (i := 3) hg dX4_magnet_74 rfl rfl rfl ?_
          refine wm_get (q := 78) hg dX4_magnet_75 rfl fl_X4_152 (by first | assumption | decide | omega | (simp only [nO]; omega)) rfl ?_
          refine wm_iload_n (q := 79) (i := 1) hg dX4_magnet_78 rfl rfl rfl ?_
          refine wm_iaload (q := 80) i.toNatClampNeg hg dX4_magnet_79 rfl (by first | assumption | decide | omega | (simp only [nO]; omega)) rfl hi1 (by simp only [alen]; omega) ?_
          exact wm_iret hg hr dX4_magnet_80 (by simp only [fMag, if_neg h1]; rfl) (rfl)
        · by_cases hk3 : v = 3
          · subst hk3
            refine wm_tableIn (q := 81) hg dX4_magnet_20 (by decide) (by decide) rfl (by decide) ?_
            refine wm_aload_n (q := 82) (i := 3) hg dX4_magnet_81 rfl rfl rfl ?_
            refine wm_iload_n (q := 83) (i := 1) hg dX4_magnet_82 rfl rfl rfl ?_
            refine wm_iconst (q := 84) 1 hg dX4_magnet_83 rfl (by decide) ?_
            refine wm_callV1 (q := 87) hg dX4_magnet_84 rfl lk_X4_186 (by first | decide | omega) (c_X1_freedBy (by first | assumption | decide | omega) (by first | assumption | decide | omega) hi1 (by omega)) (by first | assumption | decide | omega | (simp only [nO]; omega)) ⟨rfl, by decide⟩ rfl rfl (Nat.le_of_ble_eq_true rfl) ?_
            exact wm_iret hg hr dX4_magnet_87 (by simp only [fMag, if_neg h1]; rfl) (rfl)
          · by_cases hk4 : v = 4
            · subst hk4
              refine wm_tableIn (q := 88) hg dX4_magnet_20 (by decide) (by decide) rfl (by decide) ?_
              refine wm_aload_n (q := 89) (i := 3) hg dX4_magnet_88 rfl rfl rfl ?_
              refine wm_iload_n (q := 90) (i := 1) hg dX4_magnet_89 rfl rfl rfl ?_
              refine wm_iconst (q := 91) (-1) hg dX4_magnet_90 rfl (by decide) ?_
              refine wm_callV1 (q := 94) hg dX4_magnet_91 rfl lk_X4_186 (by first | decide | omega) (c_X1_freedBy (by first | assumption | decide | omega) (by first | assumption | decide | omega) hi1 (by omega)) (by first | assumption | decide | omega | (simp only [nO]; omega)) ⟨rfl, by decide⟩ rfl rfl (Nat.le_of_ble_eq_true rfl) ?_
              exact wm_iret hg hr dX4_magnet_94 (by simp only [fMag, if_neg h1]; rfl) (rfl)
            · by_cases hk5 : v = 5
              · subst hk5
                refine wm_tableIn (q := 95) hg dX4_magnet_20 (by decide) (by decide) rfl (by decide) ?_
                refine wm_aload_n (q := 96) (i := 3) hg dX4_magnet_95 rfl rfl rfl ?_
                refine wm_iload_n (q := 97) (i := 1) hg dX4_magnet_96 rfl rfl rfl ?_
                refine wm_aload_n (q := 98) (i := 3) hg dX4_magnet_97 rfl rfl rfl ?_
                refine wm_get (q := 101) hg dX4_magnet_98 rfl fl_X4_98 (by first | assumption | decide | omega | (simp only [nO]; omega)) rfl ?_
                refine wm_iload_n (q := 102) (i := 1) hg dX4_magnet_101 rfl rfl rfl ?_
                refine wm_iaload (q := 103) i.toNatClampNeg hg dX4_magnet_102 rfl (by first | assumption | decide | omega | (simp only [nO]; omega)) rfl hi1 (by simp only [alen]; omega) ?_
                refine wm_callV1 (q := 106) hg dX4_magnet_103 rfl lk_X4_190 (by first | decide | omega) (c_X1_partOf (by first | assumption | decide | omega) (by first | assumption | decide | omega)) (by first | assumption | decide | omega | (simp only [nO]; omega)) ⟨rfl, by decide⟩ rfl rfl (Nat.le_of_ble_eq_true rfl) ?_
                exact wm_iret hg hr dX4_magnet_106 (by simp only [fMag, if_neg h1]; rfl) (rfl)
              · have hj0 : v.toInt ≠ 0 := fun z => hk0 (Int32.toInt_inj.mp (z.trans (by decide)))
                have hj1 : v.toInt ≠ 1 := fun z => hk1 (Int32.toInt_inj.mp (z.trans (by decide)))
                have hj2 : v.toInt ≠ 2 := fun z => hk2 (Int32.toInt_inj.mp (z.trans (by decide)))
                have hj3 : v.toInt ≠ 3 := fun z => hk3 (Int32.toInt_inj.mp (z.trans (by decide)))
                have hj4 : v.toInt ≠ 4 := fun z => hk4 (Int32.toInt_inj.mp (z.trans (by decide)))
                have hj5 : v.toInt ≠ 5 := fun z => hk5 (Int32.toInt_inj.mp (z.trans (by decide)))
                refine wm_tableOut (q := 107) hg dX4_magnet_20 (by omega) (by decide) ?_
                refine wm_ldc (q := 109) (-1000000001) hg dX4_magnet_107 rfl ld_X4_49 ?_
                exact wm_iret hg hr dX4_magnet_109 (by simp only [fMag, if_neg h1, if_neg hk0, if_neg hk1, if_neg hk2, if_neg hk3, if_neg hk4, if_neg hk5]) (rfl)
  · refine wm_ldc (q := 10) (-1000000001) hg dX4_magnet_8 rfl ld_X4_49 ?_
    exact wm_iret hg hr dX4_magnet_10 (by simp only [fMag, if_pos h1]) (rfl)
set_option maxRecDepth 100000 in
set_option maxHeartbeats 4000000 in
theorem c_X4_log {Γ : GT} {M : Mem} {k v : Int32} (hI : InvC M) : Ct Γ yX4_log cX4_log 5 (some .int) 2 [.ref (ad Γ 4 0 0), .int k, .int v] M (some (.int (fLog M k v))) M := by
  refine ct_of (by decide) (Nat.le_of_ble_eq_true rfl) (fun K hg hr => ?_)
  show WM Γ K _ [(0, _), (1, _), (2, _)] 0 []
  obtain ⟨hU, hC, hBB, hT⟩ := hI
  have hz := hC 0 (by decide)
  have hB := hBB 0 (by decide)
  have hz2 := hz.2
  refine wm_iload_n (q := 1) (i := 1) hg dX4_log_0 rfl rfl rfl ?_
  refine wm_if_lt (q := 13) (q2 := 4) hg dX4_log_1 (by decide) rfl (fun h1 => ?_) (fun h1 => ?_)
  · refine wm_ldc (q := 15) (-1000000001) hg dX4_log_13 rfl ld_X4_49 ?_
    exact wm_iret hg hr dX4_log_15 (by simp only [fLog, if_pos h1]) (rfl)
  · refine wm_iload_n (q := 5) (i := 2) hg dX4_log_4 rfl rfl rfl ?_
    refine wm_iconst (q := 6) 0 hg dX4_log_5 rfl (by decide) ?_
    refine wm_iconst (q := 7) 2 hg dX4_log_6 rfl (by decide) ?_
    refine wm_callS1 (q := 10) hg dX4_log_7 rfl lk_X4_45 (by first | decide | omega) c_X4_isWithin rfl rfl (Nat.le_of_ble_eq_true rfl) ?_
    refine wm_if_ne (q := 16) (q2 := 13) hg dX4_log_10 (by decide) rfl (fun h2 => ?_) (fun h2 => ?_)
    · refine wm_aload_n (q := 17) (i := 0) hg dX4_log_16 rfl rfl rfl ?_
      refine wm_get (q := 20) hg dX4_log_17 rfl fl_X4_10 (by first | assumption | decide | omega | (simp only [nO]; omega)) rfl ?_
      refine wm_get (q := 23) hg dX4_log_20 rfl fl_X4_64 (by first | assumption | decide | omega | (simp only [nO]; omega)) rfl ?_
      refine wm_astore_n (q := 24) (i := 3) (L' := [(0, _), (1, _), (2, _), (3, _)]) hg dX4_log_23 rfl rfl rfl rfl ?_
      refine wm_iload_n (q := 25) (i := 1) hg dX4_log_24 rfl rfl rfl ?_
      refine wm_aload_n (q := 26) (i := 3) hg dX4_log_25 rfl rfl rfl ?_
      refine wm_get (q := 29) hg dX4_log_26 rfl fl_X4_171 (by first | assumption | decide | omega | (simp only [nO]; omega)) rfl ?_
      refine wm_icmp_lt (q := 35) (q2 := 32) hg dX4_log_29 (by decide) rfl (fun h3 => ?_) (fun h3 => ?_)
      · have hk := nI_self h1
        have hkl : k.toNatClampNeg < lgN (M.1 0 0) := clampLt hB.1 (by have := hB.2; omega) h1 (Int32.not_le.mpr h3)
        have hB2 := hB.2
        refine wm_aload_n (q := 36) (i := 3) hg dX4_log_35 rfl rfl rfl ?_
        refine wm_get (q := 39) hg dX4_log_36 rfl fl_X4_171 (by first | assumption | decide | omega | (simp only [nO]; omega)) rfl ?_
        refine wm_iconst (q := 40) 1 hg dX4_log_39 rfl (by decide) ?_
        refine wm_isub (q := 41) hg dX4_log_40 rfl ?_
        refine wm_iload_n (q := 42) (i := 1) hg dX4_log_41 rfl rfl rfl ?_
        refine wm_isub (q := 43) hg dX4_log_42 rfl ?_
        refine wm_istore (q := 45) (i := 4) (L' := [(0, _), (1, _), (2, _), (3, _), (4, _)]) hg dX4_log_43 rfl rfl rfl ?_
        refine wm_iload_n (q := 46) (i := 2) hg dX4_log_45 rfl rfl rfl ?_
        by_cases hk0 : v = 0
        · subst hk0
          refine wm_lookup (q := 72) (off := 26) hg dX4_log_46 (by decide) (by decide) (by decide) ?_
          refine wm_aload_n (q := 73) (i := 3) hg dX4_log_72 rfl rfl rfl ?_
          refine wm_get (q := 76) hg dX4_log_73 rfl fl_X4_193 (by first | assumption | decide | omega | (simp only [nO]; omega)) rfl ?_
          refine wm_iload (q := 78) (i := 4) hg dX4_log_76 rfl rfl ?_
          refine wm_iaload (q := 79) (lgN (M.1 0 0) - 1 - k.toNatClampNeg) hg dX4_log_78 rfl (by first | assumption | decide | omega | (simp only [nO]; omega)) rfl (nsub (a := lgN (M.1 0 0) - 1) (b := k.toNatClampNeg) (nsub (a := lgN (M.1 0 0)) (b := 1) hB.1 rfl (by omega)) hk (by omega)) (by simp only [alen]; omega) ?_
          exact wm_iret hg hr dX4_log_79 (by simp only [fLog, if_neg h1, if_neg h2, if_pos h3]; rfl) (rfl)
        · by_cases hk1 : v = 1
          · subst hk1
            refine wm_lookup (q := 80) (off := 34) hg dX4_log_46 (by decide) (by decide) (by decide) ?_
            refine wm_aload_n (q := 81) (i := 3) hg dX4_log_80 rfl rfl rfl ?_
            refine wm_get (q := 84) hg dX4_log_81 rfl fl_X4_196 (by first | assumption | decide | omega | (simp only [nO]; omega)) rfl ?_
            refine wm_iload (q := 86) (i := 4) hg dX4_log_84 rfl rfl ?_
            refine wm_iaload (q := 87) (lgN (M.1 0 0) - 1 - k.toNatClampNeg) hg dX4_log_86 rfl (by first | assumption | decide | omega | (simp only [nO]; omega)) rfl (nsub (a := lgN (M.1 0 0) - 1) (b := k.toNatClampNeg) (nsub (a := lgN (M.1 0 0)) (b := 1) hB.1 rfl (by omega)) hk (by omega)) (by simp only [alen]; omega) ?_
            exact wm_iret hg hr dX4_log_87 (by simp only [fLog, if_neg h1, if_neg h2, if_pos h3]; rfl) (rfl)
          · have hj0 : v.toInt ≠ 0 := fun z => hk0 (Int32.toInt_inj.mp (z.trans (by decide)))
            have hj1 : v.toInt ≠ 1 := fun z => hk1 (Int32.toInt_inj.mp (z.trans (by decide)))
            refine wm_lookup (q := 88) (off := 42) hg dX4_log_46 (by decide) (by simp [Op.lookupswitch.offset_cons, Op.lookupswitch.offset_nil, Ne.symm hj0, Ne.symm hj1]) (by decide) ?_
            refine wm_aload_n (q := 89) (i := 3) hg dX4_log_88 rfl rfl rfl ?_
            refine wm_get (q := 92) hg dX4_log_89 rfl fl_X4_199 (by first | assumption | decide | omega | (simp only [nO]; omega)) rfl ?_
            refine wm_iload (q := 94) (i := 4) hg dX4_log_92 rfl rfl ?_
            refine wm_iaload (q := 95) (lgN (M.1 0 0) - 1 - k.toNatClampNeg) hg dX4_log_94 rfl (by first | assumption | decide | omega | (simp only [nO]; omega)) rfl (nsub (a := lgN (M.1 0 0) - 1) (b := k.toNatClampNeg) (nsub (a := lgN (M.1 0 0)) (b := 1) hB.1 rfl (by omega)) hk (by omega)) (by simp only [alen]; omega) ?_
            exact wm_iret hg hr dX4_log_95 (by simp only [fLog, if_neg h1, if_neg h2, if_pos h3, if_neg hk0, if_neg hk1]) (rfl)
      · refine wm_ldc (q := 34) (-1000000009) hg dX4_log_32 rfl ld_X4_151 ?_
        exact wm_iret hg hr dX4_log_34 (by simp only [fLog, if_neg h1, if_neg h2, if_neg h3]) (rfl)
    · refine wm_ldc (q := 15) (-1000000001) hg dX4_log_13 rfl ld_X4_49 ?_
      exact wm_iret hg hr dX4_log_15 (by simp only [fLog, if_neg h1, if_pos h2]) (rfl)
set_option maxRecDepth 100000 in
set_option maxHeartbeats 4000000 in
theorem c_X4_points {Γ : GT} {M : Mem} {s : Int32} (hI : InvC M) : Ct Γ yX4_points cX4_points 2 (some .int) 2 [.ref (ad Γ 4 0 0), .int s] M (some (.int (fPts M s))) M := by
  refine ct_of (by decide) (Nat.le_of_ble_eq_true rfl) (fun K hg hr => ?_)
  show WM Γ K _ [(0, _), (1, _)] 0 []
  obtain ⟨hU, hC, hBB, hT⟩ := hI
  have hz := hC 0 (by decide)
  have hB := hBB 0 (by decide)
  have hz2 := hz.2
  refine wm_iload_n (q := 1) (i := 1) hg dX4_points_0 rfl rfl rfl ?_
  refine wm_callS1 (q := 4) hg dX4_points_1 rfl lk_X4_77 (by first | decide | omega) c_X4_isAngle rfl rfl (Nat.le_of_ble_eq_true rfl) ?_
  refine wm_if_eq (q := 21) (q2 := 7) hg dX4_points_4 (by decide) rfl (fun h1 => ?_) (fun h1 => ?_)
  · refine wm_ldc (q := 23) (-1000000001) hg dX4_points_21 rfl ld_X4_49 ?_
    exact wm_iret hg hr dX4_points_23 (by simp only [fPts, if_pos h1]) (rfl)
  · refine wm_aload_n (q := 8) (i := 0) hg dX4_points_7 rfl rfl rfl ?_
    refine wm_get (q := 11) hg dX4_points_8 rfl fl_X4_10 (by first | assumption | decide | omega | (simp only [nO]; omega)) rfl ?_
    refine wm_get (q := 14) hg dX4_points_11 rfl fl_X4_50 (by first | assumption | decide | omega | (simp only [nO]; omega)) rfl ?_
    refine wm_iload_n (q := 15) (i := 1) hg dX4_points_14 rfl rfl rfl ?_
    refine wm_callV1 (q := 18) hg dX4_points_15 rfl lk_X4_202 (by first | decide | omega) (c_X1_pointsTo (by first | assumption | decide | omega) (by first | assumption | decide | omega)) (by first | assumption | decide | omega | (simp only [nO]; omega)) ⟨rfl, by decide⟩ rfl rfl (Nat.le_of_ble_eq_true rfl) ?_
    refine wm_goto (q := 23) hg dX4_points_18 (by decide) ?_
    exact wm_iret hg hr dX4_points_23 (by simp only [fPts, if_neg h1]) (rfl)
set_option maxRecDepth 100000 in
set_option maxHeartbeats 4000000 in
theorem c_X4_moved {Γ : GT} {M : Mem} {i b : Int32} (hI : InvC M) : Ct Γ yX4_moved cX4_moved 4 (some .int) 5 [.ref (ad Γ 4 0 0), .int i, .int b] M (some (.int (fMov M i b).1)) (fMov M i b).2 := by
  refine ct_of (by decide) (Nat.le_of_ble_eq_true rfl) (fun K hg hr => ?_)
  show WM Γ K _ [(0, _), (1, _), (2, _)] 0 []
  obtain ⟨hU, hC, hBB, hT⟩ := hI
  have hz := hC 0 (by decide)
  have hB := hBB 0 (by decide)
  have hz2 := hz.2
  refine wm_aload_n (q := 1) (i := 0) hg dX4_moved_0 rfl rfl rfl ?_
  refine wm_iload_n (q := 2) (i := 1) hg dX4_moved_1 rfl rfl rfl ?_
  refine wm_callV1 (q := 5) hg dX4_moved_2 rfl lk_X4_94 (by first | decide | omega) c_X4_isMagnet (by first | assumption | decide | omega | (simp only [nO]; omega)) ⟨rfl, by decide⟩ rfl rfl (Nat.le_of_ble_eq_true rfl) ?_
  refine wm_if_eq (q := 15) (q2 := 8) hg dX4_moved_5 (by decide) rfl (fun h1 => ?_) (fun h1 => ?_)
  · refine wm_ldc (q := 17) (-1000000001) hg dX4_moved_15 rfl ld_X4_49 ?_
    exact wm_iret hg hr dX4_moved_17 (by simp only [fMov, if_pos h1]) (by simp only [fMov, if_pos h1])
  · obtain ⟨hi1, hi2, hi3⟩ := wthn_sz hz h1
    refine wm_iload_n (q := 9) (i := 2) hg dX4_moved_8 rfl rfl rfl ?_
    refine wm_callS1 (q := 12) hg dX4_moved_9 rfl lk_X4_126 (by first | decide | omega) c_X4_isPush rfl rfl (Nat.le_of_ble_eq_true rfl) ?_
    refine wm_if_ne (q := 18) (q2 := 15) hg dX4_moved_12 (by decide) rfl (fun h2 => ?_) (fun h2 => ?_)
    · refine wm_aload_n (q := 19) (i := 0) hg dX4_moved_18 rfl rfl rfl ?_
      refine wm_get (q := 22) hg dX4_moved_19 rfl fl_X4_10 (by first | assumption | decide | omega | (simp only [nO]; omega)) rfl ?_
      refine wm_get (q := 25) hg dX4_moved_22 rfl fl_X4_50 (by first | assumption | decide | omega | (simp only [nO]; omega)) rfl ?_
      refine wm_get (q := 28) hg dX4_moved_25 rfl fl_X4_105 (by first | assumption | decide | omega | (simp only [nO]; omega)) rfl ?_
      refine wm_iload_n (q := 29) (i := 1) hg dX4_moved_28 rfl rfl rfl ?_
      refine wm_iaload (q := 30) i.toNatClampNeg hg dX4_moved_29 rfl (by first | assumption | decide | omega | (simp only [nO]; omega)) rfl hi1 (by simp only [alen]; omega) ?_
      refine wm_iconst (q := 31) 1 hg dX4_moved_30 rfl (by decide) ?_
      refine wm_icmp_ne (q := 37) (q2 := 34) hg dX4_moved_31 (by decide) rfl (fun h3 => ?_) (fun h3 => ?_)
      · refine wm_aload_n (q := 38) (i := 0) hg dX4_moved_37 rfl rfl rfl ?_
        refine wm_get (q := 41) hg dX4_moved_38 rfl fl_X4_40 (by first | assumption | decide | omega | (simp only [nO]; omega)) rfl ?_
        refine wm_iconst (q := 42) 0 hg dX4_moved_41 rfl (by decide) ?_
        refine wm_cload (q := 43) 0 hg dX4_moved_42 rfl (rfl : (0 : Int32) = nI 0) (by omega) ?_
        refine wm_astore_n (q := 44) (i := 3) (L' := [(0, _), (1, _), (2, _), (3, _)]) hg dX4_moved_43 rfl rfl rfl rfl ?_
        refine wm_aload_n (q := 45) (i := 3) hg dX4_moved_44 rfl rfl rfl ?_
        refine wm_aload_n (q := 46) (i := 0) hg dX4_moved_45 rfl rfl rfl ?_
        refine wm_get (q := 49) hg dX4_moved_46 rfl fl_X4_10 (by first | assumption | decide | omega | (simp only [nO]; omega)) rfl ?_
        refine wm_get (q := 52) hg dX4_moved_49 rfl fl_X4_50 (by first | assumption | decide | omega | (simp only [nO]; omega)) rfl ?_
        refine wm_callV0 (q := 55) hg dX4_moved_52 rfl lk_X4_205 (by first | decide | omega) (c_X1_takeFrom (by first | assumption | decide | omega) (by first | assumption | decide | omega) (by first | assumption | decide | omega)) (by first | assumption | decide | omega | (simp only [nO]; omega)) ⟨rfl, by decide⟩ rfl rfl (Nat.le_of_ble_eq_true rfl) ?_
        refine wm_aload_n (q := 56) (i := 3) hg dX4_moved_55 rfl rfl rfl ?_
        refine wm_iload_n (q := 57) (i := 1) hg dX4_moved_56 rfl rfl rfl ?_
        refine wm_iload_n (q := 58) (i := 2) hg dX4_moved_57 rfl rfl rfl ?_
        refine wm_callV0 (q := 61) hg dX4_moved_58 rfl lk_X4_129 (by first | decide | omega) (c_X1_turn (by first | assumption | decide | omega) hi1 (by omega)) (by first | assumption | decide | omega | (simp only [nO]; omega)) ⟨rfl, by decide⟩ rfl rfl (Nat.le_of_ble_eq_true rfl) ?_
        refine wm_mem (M' := sO M 1 11 (turnX (M.1 1 0) i.toNatClampNeg b)) (by simp only [sO_same, sO_sO]) ?_
        refine wm_aload_n (q := 62) (i := 3) hg dX4_moved_61 rfl rfl rfl ?_
        refine wm_null (q := 63) hg dX4_moved_62 rfl ?_
        refine wm_callV1 (q := 66) hg dX4_moved_63 rfl lk_X4_73 (by first | decide | omega) (c_settle_n (by decide) (by rw [sO_same]; exact ok10_1 rfl hz)) (by first | assumption | decide | omega | (simp only [nO]; omega)) ⟨rfl, by decide⟩ rfl rfl (Nat.le_of_ble_eq_true rfl) ?_
        exact wm_iret hg hr dX4_moved_66 (by simp only [fMov, if_neg h1, if_neg h2, if_neg h3, sO_same]) (by simp only [fMov, if_neg h1, if_neg h2, if_neg h3, sO_same, sO_sO])
      · refine wm_ldc (q := 36) (-1000000002) hg dX4_moved_34 rfl ld_X4_97 ?_
        exact wm_iret hg hr dX4_moved_36 (by simp only [fMov, if_neg h1, if_neg h2, if_pos h3]) (by simp only [fMov, if_neg h1, if_neg h2, if_pos h3])
    · refine wm_ldc (q := 17) (-1000000001) hg dX4_moved_15 rfl ld_X4_49 ?_
      exact wm_iret hg hr dX4_moved_17 (by simp only [fMov, if_neg h1, if_pos h2]) (by simp only [fMov, if_neg h1, if_pos h2])
set_option maxRecDepth 100000 in
set_option maxHeartbeats 4000000 in
theorem c_X4_write {Γ : GT} {M : Mem} {v : Int32} (hI : InvC M) : Ct Γ yX4_write cX4_write 2 (some .int) 2 [.ref (ad Γ 4 0 0), .int v] M (some (.int (fWrite M v).1)) (fWrite M v).2 := by
  refine ct_of (by decide) (Nat.le_of_ble_eq_true rfl) (fun K hg hr => ?_)
  show WM Γ K _ [(0, _), (1, _)] 0 []
  obtain ⟨hU, hC, hBB, hT⟩ := hI
  have hz := hC 0 (by decide)
  have hB := hBB 0 (by decide)
  have hz2 := hz.2
  refine wm_iload_n (q := 1) (i := 1) hg dX4_write_0 rfl rfl rfl ?_
  refine wm_bipush (q := 3) 32 hg dX4_write_1 rfl (by decide) ?_
  refine wm_bipush (q := 5) 126 hg dX4_write_3 rfl (by decide) ?_
  refine wm_callS1 (q := 8) hg dX4_write_5 rfl lk_X4_45 (by first | decide | omega) c_X4_isWithin rfl rfl (Nat.le_of_ble_eq_true rfl) ?_
  refine wm_if_ne (q := 14) (q2 := 11) hg dX4_write_8 (by decide) rfl (fun h1 => ?_) (fun h1 => ?_)
  · by_cases h2 : (M.1 3 0).1 1 < 40
    · refine wm_aload_n (q := 15) (i := 0) hg dX4_write_14 rfl rfl rfl ?_
      refine wm_get (q := 18) hg dX4_write_15 rfl fl_X4_34 (by first | assumption | decide | omega | (simp only [nO]; omega)) rfl ?_
      refine wm_iload_n (q := 19) (i := 1) hg dX4_write_18 rfl rfl rfl ?_
      refine wm_callV1 (q := 22) hg dX4_write_19 rfl lk_X4_223 (by first | decide | omega) (c_X3_append1 hT h2) (by first | assumption | decide | omega | (simp only [nO]; omega)) ⟨rfl, by decide⟩ rfl rfl (Nat.le_of_ble_eq_true rfl) ?_
      refine wm_if_eq (q := 35) (q2 := 25) hg dX4_write_22 (by decide) rfl (fun h3 => ?_) (fun h3 => ?_)
      · exact absurd h3 (by decide)
      · refine wm_aload_n (q := 26) (i := 0) hg dX4_write_25 rfl rfl rfl ?_
        refine wm_get (q := 29) hg dX4_write_26 rfl fl_X4_34 (by first | assumption | decide | omega | (simp only [nO]; omega)) rfl ?_
        refine wm_get (q := 32) hg dX4_write_29 rfl fl_X4_183 (by first | assumption | decide | omega | (simp only [nO]; omega)) rfl ?_
        refine wm_goto (q := 37) hg dX4_write_32 (by decide) ?_
        exact wm_iret hg hr dX4_write_37 (by simp only [fWrite, if_neg h1, if_pos h2, sO_same, taX, upd_same]) (by simp only [fWrite, if_neg h1, if_pos h2])
    · refine wm_aload_n (q := 15) (i := 0) hg dX4_write_14 rfl rfl rfl ?_
      refine wm_get (q := 18) hg dX4_write_15 rfl fl_X4_34 (by first | assumption | decide | omega | (simp only [nO]; omega)) rfl ?_
      refine wm_iload_n (q := 19) (i := 1) hg dX4_write_18 rfl rfl rfl ?_
      refine wm_callV1 (q := 22) hg dX4_write_19 rfl lk_X4_223 (by first | decide | omega) (c_X3_append0 hT h2) (by first | assumption | decide | omega | (simp only [nO]; omega)) ⟨rfl, by decide⟩ rfl rfl (Nat.le_of_ble_eq_true rfl) ?_
      refine wm_if_eq (q := 35) (q2 := 25) hg dX4_write_22 (by decide) rfl (fun h3 => ?_) (fun h3 => ?_)
      · refine wm_ldc (q := 37) (-1000000003) hg dX4_write_35 rfl ld_X4_81 ?_
        exact wm_iret hg hr dX4_write_37 (by simp only [fWrite, if_neg h1, if_neg h2]) (by simp only [fWrite, if_neg h1, if_neg h2])
      · exact absurd rfl h3
  · refine wm_ldc (q := 13) (-1000000001) hg dX4_write_11 rfl ld_X4_49 ?_
    exact wm_iret hg hr dX4_write_13 (by simp only [fWrite, if_pos h1]) (by simp only [fWrite, if_pos h1])
set_option maxRecDepth 100000 in
set_option maxHeartbeats 4000000 in
theorem c_X4_wipe {Γ : GT} {M : Mem} (hI : InvC M) : Ct Γ yX4_wipe cX4_wipe 2 (some .int) 1 [.ref (ad Γ 4 0 0)] M (some (.int ((M.1 3 0).1 1))) (sI M 3 0 1 0) := by
  refine ct_of (by decide) (Nat.le_of_ble_eq_true rfl) (fun K hg hr => ?_)
  show WM Γ K _ [(0, _)] 0 []
  refine wm_aload_n (q := 1) (i := 0) hg dX4_wipe_0 rfl rfl rfl ?_
  refine wm_get (q := 4) hg dX4_wipe_1 rfl fl_X4_34 (by first | assumption | decide | omega | (simp only [nO]; omega)) rfl ?_
  refine wm_get (q := 7) hg dX4_wipe_4 rfl fl_X4_183 (by first | assumption | decide | omega | (simp only [nO]; omega)) rfl ?_
  refine wm_istore_n (q := 8) (i := 1) (L' := [(0, _), (1, _)]) hg dX4_wipe_7 rfl rfl rfl rfl ?_
  refine wm_aload_n (q := 9) (i := 0) hg dX4_wipe_8 rfl rfl rfl ?_
  refine wm_get (q := 12) hg dX4_wipe_9 rfl fl_X4_34 (by first | assumption | decide | omega | (simp only [nO]; omega)) rfl ?_
  refine wm_iconst (q := 13) 0 hg dX4_wipe_12 rfl (by decide) ?_
  refine wm_put (q := 16) hg dX4_wipe_13 rfl fl_X4_183 (by first | assumption | decide | omega | (simp only [nO]; omega)) rfl ?_
  refine wm_iload_n (q := 17) (i := 1) hg dX4_wipe_16 rfl rfl rfl ?_
  exact wm_iret hg hr dX4_wipe_17 (rfl) (rfl)
set_option maxRecDepth 100000 in
set_option maxHeartbeats 4000000 in
theorem c_X4_fault {Γ : GT} {M : Mem} {v : Int32} (hI : InvC M) : Ct Γ yX4_fault cX4_fault 2 (some .int) 1 [.ref (ad Γ 4 0 0), .int v] M (some (.int (fFault M v))) M := by
  refine ct_of (by decide) (Nat.le_of_ble_eq_true rfl) (fun K hg hr => ?_)
  show WM Γ K _ [(0, _), (1, _)] 0 []
  obtain ⟨hU, hC, hBB, hT⟩ := hI
  have hz := hC 0 (by decide)
  have hB := hBB 0 (by decide)
  have hz2 := hz.2
  refine wm_iload_n (q := 1) (i := 1) hg dX4_fault_0 rfl rfl rfl ?_
  by_cases hk0 : v = 0
  · subst hk0
    refine wm_lookup (q := 28) (off := 27) hg dX4_fault_1 (by decide) (by decide) (by decide) ?_
    refine wm_aload_n (q := 29) (i := 0) hg dX4_fault_28 rfl rfl rfl ?_
    refine wm_get (q := 32) hg dX4_fault_29 rfl fl_X4_34 (by first | assumption | decide | omega | (simp only [nO]; omega)) rfl ?_
    refine wm_get (q := 35) hg dX4_fault_32 rfl fl_X4_229 (by first | assumption | decide | omega | (simp only [nO]; omega)) rfl ?_
    exact wm_iret hg hr dX4_fault_35 (rfl) (rfl)
  · by_cases hk1 : v = 1
    · subst hk1
      refine wm_lookup (q := 36) (off := 35) hg dX4_fault_1 (by decide) (by decide) (by decide) ?_
      refine wm_aload_n (q := 37) (i := 0) hg dX4_fault_36 rfl rfl rfl ?_
      refine wm_get (q := 40) hg dX4_fault_37 rfl fl_X4_34 (by first | assumption | decide | omega | (simp only [nO]; omega)) rfl ?_
      refine wm_get (q := 43) hg dX4_fault_40 rfl fl_X4_232 (by first | assumption | decide | omega | (simp only [nO]; omega)) rfl ?_
      exact wm_iret hg hr dX4_fault_43 (rfl) (rfl)
    · have hj0 : v.toInt ≠ 0 := fun z => hk0 (Int32.toInt_inj.mp (z.trans (by decide)))
      have hj1 : v.toInt ≠ 1 := fun z => hk1 (Int32.toInt_inj.mp (z.trans (by decide)))
      refine wm_lookup (q := 44) (off := 43) hg dX4_fault_1 (by decide) (by simp [Op.lookupswitch.offset_cons, Op.lookupswitch.offset_nil, Ne.symm hj0, Ne.symm hj1]) (by decide) ?_
      refine wm_ldc (q := 46) (-1000000001) hg dX4_fault_44 rfl ld_X4_49 ?_
      exact wm_iret hg hr dX4_fault_46 (by simp only [fFault, if_neg hk0, if_neg hk1]) (rfl)
set_option maxRecDepth 100000 in
set_option maxHeartbeats 4000000 in
theorem c_X4_keep {Γ : GT} {M : Mem} {i : Int32} (hI : InvC M) : Ct Γ yX4_keep cX4_keep 2 (some .int) 6 [.ref (ad Γ 4 0 0), .int i] M (some (.int (fKeep M i).1)) (fKeep M i).2 := by
  refine ct_of (by decide) (Nat.le_of_ble_eq_true rfl) (fun K hg hr => ?_)
  show WM Γ K _ [(0, _), (1, _)] 0 []
  obtain ⟨hU, hC, hBB, hT⟩ := hI
  have hz := hC 0 (by decide)
  have hB := hBB 0 (by decide)
  have hz2 := hz.2
  refine wm_iload_n (q := 1) (i := 1) hg dX4_keep_0 rfl rfl rfl ?_
  refine wm_iconst (q := 2) 0 hg dX4_keep_1 rfl (by decide) ?_
  refine wm_iconst (q := 3) 1 hg dX4_keep_2 rfl (by decide) ?_
  refine wm_callS1 (q := 6) hg dX4_keep_3 rfl lk_X4_45 (by first | decide | omega) c_X4_isWithin rfl rfl (Nat.le_of_ble_eq_true rfl) ?_
  refine wm_if_ne (q := 12) (q2 := 9) hg dX4_keep_6 (by decide) rfl (fun h1 => ?_) (fun h1 => ?_)
  · obtain ⟨k, -, hk2, hk⟩ := wthn_n (lo := 0) (hi := 1) h1 (by decide) (by decide)
    have hkc : i.toNatClampNeg = k := by rw [hk, nI_clamp (by omega)]
    refine wm_aload_n (q := 13) (i := 0) hg dX4_keep_12 rfl rfl rfl ?_
    refine wm_get (q := 16) hg dX4_keep_13 rfl fl_X4_24 (by first | assumption | decide | omega | (simp only [nO]; omega)) rfl ?_
    refine wm_iload_n (q := 17) (i := 1) hg dX4_keep_16 rfl rfl rfl ?_
    refine wm_imload (q := 18) k hg dX4_keep_17 rfl hk (by omega) ?_
    refine wm_aload_n (q := 19) (i := 0) hg dX4_keep_18 rfl rfl rfl ?_
    refine wm_get (q := 22) hg dX4_keep_19 rfl fl_X4_10 (by first | assumption | decide | omega | (simp only [nO]; omega)) rfl ?_
    refine wm_callV0 (q := 25) hg dX4_keep_22 rfl lk_X4_155 (by first | decide | omega) (c_X2_takeFrom (by omega) (by decide) (by omega)) (by first | assumption | decide | omega | (simp only [nO]; omega)) ⟨rfl, by decide⟩ rfl rfl (Nat.le_of_ble_eq_true rfl) ?_
    refine wm_aload_n (q := 26) (i := 0) hg dX4_keep_25 rfl rfl rfl ?_
    refine wm_get (q := 29) hg dX4_keep_26 rfl fl_X4_27 (by first | assumption | decide | omega | (simp only [nO]; omega)) rfl ?_
    refine wm_iload_n (q := 30) (i := 1) hg dX4_keep_29 rfl rfl rfl ?_
    refine wm_iconst (q := 31) 1 hg dX4_keep_30 rfl (by decide) ?_
    refine wm_zastore (q := 32) k hg dX4_keep_31 rfl hk (by omega) rfl ?_
    refine wm_aload_n (q := 33) (i := 0) hg dX4_keep_32 rfl rfl rfl ?_
    refine wm_get (q := 36) hg dX4_keep_33 rfl fl_X4_10 (by first | assumption | decide | omega | (simp only [nO]; omega)) rfl ?_
    refine wm_get (q := 39) hg dX4_keep_36 rfl fl_X4_50 (by first | assumption | decide | omega | (simp only [nO]; omega)) rfl ?_
    refine wm_get (q := 42) hg dX4_keep_39 rfl fl_X4_54 (by first | assumption | decide | omega | (simp only [nO]; omega)) rfl ?_
    exact wm_iret hg hr dX4_keep_42 (by simp only [fKeep, if_neg h1, sO_kind _ _ _ _ (show (1:Nat) ≠ 4 by decide), sO_kind _ _ _ _ (show (1:Nat) ≠ 0 by decide), sO_idx _ _ _ _ (show (0:Nat) ≠ 9 + k by omega)]) (by simp only [fKeep, if_neg h1, keM, hkc, sO_kind _ _ _ _ (show (4:Nat) ≠ 1 by decide), sO_kind _ _ _ _ (show (4:Nat) ≠ 0 by decide)])
  · refine wm_ldc (q := 11) (-1000000001) hg dX4_keep_9 rfl ld_X4_49 ?_
    exact wm_iret hg hr dX4_keep_11 (by simp only [fKeep, if_pos h1]) (by simp only [fKeep, if_pos h1])
set_option maxRecDepth 100000 in
set_option maxHeartbeats 4000000 in
theorem c_X4_back {Γ : GT} {M : Mem} {i : Int32} (hI : InvC M) : Ct Γ yX4_back cX4_back 2 (some .int) 6 [.ref (ad Γ 4 0 0), .int i] M (some (.int (fBack M i).1)) (fBack M i).2 := by
  refine ct_of (by decide) (Nat.le_of_ble_eq_true rfl) (fun K hg hr => ?_)
  show WM Γ K _ [(0, _), (1, _)] 0 []
  obtain ⟨hU, hC, hBB, hT⟩ := hI
  have hz := hC 0 (by decide)
  have hB := hBB 0 (by decide)
  have hz2 := hz.2
  refine wm_iload_n (q := 1) (i := 1) hg dX4_back_0 rfl rfl rfl ?_
  refine wm_iconst (q := 2) 0 hg dX4_back_1 rfl (by decide) ?_
  refine wm_iconst (q := 3) 1 hg dX4_back_2 rfl (by decide) ?_
  refine wm_callS1 (q := 6) hg dX4_back_3 rfl lk_X4_45 (by first | decide | omega) c_X4_isWithin rfl rfl (Nat.le_of_ble_eq_true rfl) ?_
  refine wm_if_ne (q := 12) (q2 := 9) hg dX4_back_6 (by decide) rfl (fun h1 => ?_) (fun h1 => ?_)
  · obtain ⟨k, -, hk2, hk⟩ := wthn_n (lo := 0) (hi := 1) h1 (by decide) (by decide)
    have hkc : i.toNatClampNeg = k := by rw [hk, nI_clamp (by omega)]
    refine wm_aload_n (q := 13) (i := 0) hg dX4_back_12 rfl rfl rfl ?_
    refine wm_get (q := 16) hg dX4_back_13 rfl fl_X4_27 (by first | assumption | decide | omega | (simp only [nO]; omega)) rfl ?_
    refine wm_iload_n (q := 17) (i := 1) hg dX4_back_16 rfl rfl rfl ?_
    refine wm_zaload (q := 18) k hg dX4_back_17 rfl hk (by omega) ?_
    refine wm_if_ne (q := 24) (q2 := 21) hg dX4_back_18 (by decide) rfl (fun h2 => ?_) (fun h2 => ?_)
    · rw [← hkc] at h2
      refine wm_aload_n (q := 25) (i := 0) hg dX4_back_24 rfl rfl rfl ?_
      refine wm_callV0 (q := 28) hg dX4_back_25 rfl lk_X4_57 (by first | decide | omega) (c_X4_record (by first | assumption | decide | omega)) (by first | assumption | decide | omega | (simp only [nO]; omega)) ⟨rfl, by decide⟩ rfl rfl (Nat.le_of_ble_eq_true rfl) ?_
      refine wm_aload_n (q := 29) (i := 0) hg dX4_back_28 rfl rfl rfl ?_
      refine wm_get (q := 32) hg dX4_back_29 rfl fl_X4_10 (by first | assumption | decide | omega | (simp only [nO]; omega)) rfl ?_
      refine wm_aload_n (q := 33) (i := 0) hg dX4_back_32 rfl rfl rfl ?_
      refine wm_get (q := 36) hg dX4_back_33 rfl fl_X4_24 (by first | assumption | decide | omega | (simp only [nO]; omega)) rfl ?_
      refine wm_iload_n (q := 37) (i := 1) hg dX4_back_36 rfl rfl rfl ?_
      refine wm_imload (q := 38) k hg dX4_back_37 rfl hk (by omega) ?_
      refine wm_callV0 (q := 41) hg dX4_back_38 rfl lk_X4_155 (by first | decide | omega) (c_X2_takeFrom (by decide) (by omega) (by omega)) (by first | assumption | decide | omega | (simp only [nO]; omega)) ⟨rfl, by decide⟩ rfl rfl (Nat.le_of_ble_eq_true rfl) ?_
      refine wm_mem (M' := (fBack M i).2) (by rw [hkc] at h2; simp only [fBack, if_neg h1, hkc, if_neg h2, setP, recM_c hU (g := 9 + k) (Or.inr (by omega)), recM_b hU (g := 9 + k) (Or.inr (by omega))]) ?_
      refine wm_aload_n (q := 42) (i := 0) hg dX4_back_41 rfl rfl rfl ?_
      refine wm_get (q := 45) hg dX4_back_42 rfl fl_X4_10 (by first | assumption | decide | omega | (simp only [nO]; omega)) rfl ?_
      refine wm_get (q := 48) hg dX4_back_45 rfl fl_X4_50 (by first | assumption | decide | omega | (simp only [nO]; omega)) rfl ?_
      refine wm_get (q := 51) hg dX4_back_48 rfl fl_X4_54 (by first | assumption | decide | omega | (simp only [nO]; omega)) rfl ?_
      exact wm_iret hg hr dX4_back_51 (by simp only [fBack, if_neg h1, if_neg h2, setP_c]) (rfl)
    · rw [← hkc] at h2
      refine wm_ldc (q := 23) (-1000000002) hg dX4_back_21 rfl ld_X4_97 ?_
      exact wm_iret hg hr dX4_back_23 (by simp only [fBack, if_neg h1, if_pos h2]) (by simp only [fBack, if_neg h1, if_pos h2])
  · refine wm_ldc (q := 11) (-1000000001) hg dX4_back_9 rfl ld_X4_49 ?_
    exact wm_iret hg hr dX4_back_11 (by simp only [fBack, if_pos h1]) (by simp only [fBack, if_pos h1])
