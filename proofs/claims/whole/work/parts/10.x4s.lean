/-! ===== the static methods of MagnetChain ===== -/
def wthn (v lo hi : Int32) : Int32 := if v < lo then 0 else if hi < v then 0 else 1
def isAng (v : Int32) : Int32 := wthn v 0 7
def isPsh (b : Int32) : Int32 := if b = 0 then 0 else if wthn b (-4) 4 = 0 then 0 else 1
def isLp (most step : Int32) : Int32 := if wthn most 1 100 = 0 then 0 else if wthn step 1 100 = 0 then 0 else if step * 10 < most then 0 else if most - most / step * step = 0 then 1 else 0
def isSet (what v : Int32) : Int32 := if what = 0 then wthn v 0 20 else if what = 1 then wthn v 0 2000 else if what = 2 then wthn v 0 100 else if what = 3 then isAng v else 0
def stepsUp (k up : Int32) : Int32 := if up < k then (if 3 * up < k then k - 4 * up else 2 * up - k) else k
theorem wthn_01 (v lo hi : Int32) : wthn v lo hi = 0 ∨ wthn v lo hi = 1 := by
  unfold wthn
  split
  · exact Or.inl rfl
  · split
    · exact Or.inl rfl
    · exact Or.inr rfl
theorem wthn_iff {v lo hi : Int32} : wthn v lo hi = 0 ↔ (v < lo ∨ hi < v) := by
  unfold wthn
  split
  · simp_all
  · split <;> simp_all
set_option maxRecDepth 100000 in
set_option maxHeartbeats 4000000 in
theorem c_X4_isWithin {Γ : GT} {M : Mem} {v lo hi : Int32} : Ct Γ yX4_isWithin cX4_isWithin 3 (some .boolean) 0 [.int v, .int lo, .int hi] M (some (.int (wthn v lo hi))) M := by
  refine ct_of (by decide) (Nat.le_of_ble_eq_true rfl) (fun K hg hr => ?_)
  show WM Γ K _ [(0, _), (1, _), (2, _)] 0 []
  refine wm_iload_n (q := 1) (i := 0) hg dX4_isWithin_0 rfl rfl rfl ?_
  refine wm_iload_n (q := 2) (i := 1) hg dX4_isWithin_1 rfl rfl rfl ?_
  refine wm_icmp_lt (q := 14) (q2 := 5) hg dX4_isWithin_2 (by decide) rfl (fun h1 => ?_) (fun h1 => ?_)
  · refine wm_iconst (q := 15) 0 hg dX4_isWithin_14 rfl (by decide) ?_
    exact wm_zret hg hr dX4_isWithin_15 (by simp [wthn, h1]) (rfl) (by decide)
  · refine wm_iload_n (q := 6) (i := 0) hg dX4_isWithin_5 rfl rfl rfl ?_
    refine wm_iload_n (q := 7) (i := 2) hg dX4_isWithin_6 rfl rfl rfl ?_
    refine wm_icmp_gt (q := 14) (q2 := 10) hg dX4_isWithin_7 (by decide) rfl (fun h2 => ?_) (fun h2 => ?_)
    · refine wm_iconst (q := 15) 0 hg dX4_isWithin_14 rfl (by decide) ?_
      exact wm_zret hg hr dX4_isWithin_15 (by simp [wthn, h1, h2]) (rfl) (by decide)
    · refine wm_iconst (q := 11) 1 hg dX4_isWithin_10 rfl (by decide) ?_
      refine wm_goto (q := 15) hg dX4_isWithin_11 (by decide) ?_
      exact wm_zret hg hr dX4_isWithin_15 (by simp [wthn, h1, h2]) (rfl) (by decide)
set_option maxRecDepth 100000 in
set_option maxHeartbeats 4000000 in
theorem c_X4_isAngle {Γ : GT} {M : Mem} {v : Int32} : Ct Γ yX4_isAngle cX4_isAngle 1 (some .boolean) 1 [.int v] M (some (.int (isAng v))) M := by
  refine ct_of (by decide) (Nat.le_of_ble_eq_true rfl) (fun K hg hr => ?_)
  show WM Γ K _ [(0, _)] 0 []
  refine wm_iload_n (q := 1) (i := 0) hg dX4_isAngle_0 rfl rfl rfl ?_
  refine wm_iconst (q := 2) 0 hg dX4_isAngle_1 rfl (by decide) ?_
  refine wm_bipush (q := 4) 7 hg dX4_isAngle_2 rfl (by decide) ?_
  refine wm_callS1 (q := 7) hg dX4_isAngle_4 rfl lk_X4_45 (by first | decide | omega) c_X4_isWithin rfl rfl (Nat.le_of_ble_eq_true rfl) ?_
  exact wm_zret hg hr dX4_isAngle_7 (rfl) (rfl) (wthn_01 _ _ _)
set_option maxRecDepth 100000 in
set_option maxHeartbeats 4000000 in
theorem c_X4_isPush {Γ : GT} {M : Mem} {b : Int32} : Ct Γ yX4_isPush cX4_isPush 1 (some .boolean) 1 [.int b] M (some (.int (isPsh b))) M := by
  refine ct_of (by decide) (Nat.le_of_ble_eq_true rfl) (fun K hg hr => ?_)
  show WM Γ K _ [(0, _)] 0 []
  refine wm_iload_n (q := 1) (i := 0) hg dX4_isPush_0 rfl rfl rfl ?_
  refine wm_if_eq (q := 18) (q2 := 4) hg dX4_isPush_1 (by decide) rfl (fun h1 => ?_) (fun h1 => ?_)
  · refine wm_iconst (q := 19) 0 hg dX4_isPush_18 rfl (by decide) ?_
    exact wm_zret hg hr dX4_isPush_19 (by simp [isPsh, h1]) (rfl) (by decide)
  · refine wm_iload_n (q := 5) (i := 0) hg dX4_isPush_4 rfl rfl rfl ?_
    refine wm_bipush (q := 7) (-4) hg dX4_isPush_5 rfl (by decide) ?_
    refine wm_iconst (q := 8) 4 hg dX4_isPush_7 rfl (by decide) ?_
    refine wm_callS1 (q := 11) hg dX4_isPush_8 rfl lk_X4_45 (by first | decide | omega) c_X4_isWithin rfl rfl (Nat.le_of_ble_eq_true rfl) ?_
    refine wm_if_eq (q := 18) (q2 := 14) hg dX4_isPush_11 (by decide) rfl (fun h2 => ?_) (fun h2 => ?_)
    · refine wm_iconst (q := 19) 0 hg dX4_isPush_18 rfl (by decide) ?_
      exact wm_zret hg hr dX4_isPush_19 (by simp [isPsh, h1, h2]) (rfl) (by decide)
    · refine wm_iconst (q := 15) 1 hg dX4_isPush_14 rfl (by decide) ?_
      refine wm_goto (q := 19) hg dX4_isPush_15 (by decide) ?_
      exact wm_zret hg hr dX4_isPush_19 (by simp [isPsh, h1, h2]) (rfl) (by decide)
set_option maxRecDepth 100000 in
set_option maxHeartbeats 4000000 in
theorem c_X4_isLoop {Γ : GT} {M : Mem} {most step : Int32} : Ct Γ yX4_isLoop cX4_isLoop 2 (some .boolean) 1 [.int most, .int step] M (some (.int (isLp most step))) M := by
  refine ct_of (by decide) (Nat.le_of_ble_eq_true rfl) (fun K hg hr => ?_)
  show WM Γ K _ [(0, _), (1, _)] 0 []
  refine wm_iload_n (q := 1) (i := 0) hg dX4_isLoop_0 rfl rfl rfl ?_
  refine wm_iconst (q := 2) 1 hg dX4_isLoop_1 rfl (by decide) ?_
  refine wm_bipush (q := 4) 100 hg dX4_isLoop_2 rfl (by decide) ?_
  refine wm_callS1 (q := 7) hg dX4_isLoop_4 rfl lk_X4_45 (by first | decide | omega) c_X4_isWithin rfl rfl (Nat.le_of_ble_eq_true rfl) ?_
  refine wm_if_eq (q := 38) (q2 := 10) hg dX4_isLoop_7 (by decide) rfl (fun h1 => ?_) (fun h1 => ?_)
  · refine wm_iconst (q := 39) 0 hg dX4_isLoop_38 rfl (by decide) ?_
    exact wm_zret hg hr dX4_isLoop_39 (by simp [isLp, h1]) (rfl) (by decide)
  · refine wm_iload_n (q := 11) (i := 1) hg dX4_isLoop_10 rfl rfl rfl ?_
    refine wm_iconst (q := 12) 1 hg dX4_isLoop_11 rfl (by decide) ?_
    refine wm_bipush (q := 14) 100 hg dX4_isLoop_12 rfl (by decide) ?_
    refine wm_callS1 (q := 17) hg dX4_isLoop_14 rfl lk_X4_45 (by first | decide | omega) c_X4_isWithin rfl rfl (Nat.le_of_ble_eq_true rfl) ?_
    refine wm_if_eq (q := 38) (q2 := 20) hg dX4_isLoop_17 (by decide) rfl (fun h2 => ?_) (fun h2 => ?_)
    · refine wm_iconst (q := 39) 0 hg dX4_isLoop_38 rfl (by decide) ?_
      exact wm_zret hg hr dX4_isLoop_39 (by simp [isLp, h1, h2]) (rfl) (by decide)
    · refine wm_iload_n (q := 21) (i := 1) hg dX4_isLoop_20 rfl rfl rfl ?_
      refine wm_bipush (q := 23) 10 hg dX4_isLoop_21 rfl (by decide) ?_
      refine wm_imul (q := 24) hg dX4_isLoop_23 rfl ?_
      refine wm_iload_n (q := 25) (i := 0) hg dX4_isLoop_24 rfl rfl rfl ?_
      refine wm_icmp_lt (q := 38) (q2 := 28) hg dX4_isLoop_25 (by decide) rfl (fun h3 => ?_) (fun h3 => ?_)
      · refine wm_iconst (q := 39) 0 hg dX4_isLoop_38 rfl (by decide) ?_
        exact wm_zret hg hr dX4_isLoop_39 (by simp [isLp, h1, h2, h3]) (rfl) (by decide)
      · refine wm_iload_n (q := 29) (i := 0) hg dX4_isLoop_28 rfl rfl rfl ?_
        refine wm_iload_n (q := 30) (i := 1) hg dX4_isLoop_29 rfl rfl rfl ?_
        refine wm_irem (q := 31) hg dX4_isLoop_30 rfl (fun z => by subst z; simp [wthn] at h2) ?_
        refine wm_if_ne (q := 38) (q2 := 34) hg dX4_isLoop_31 (by decide) rfl (fun h4 => ?_) (fun h4 => ?_)
        · refine wm_iconst (q := 39) 0 hg dX4_isLoop_38 rfl (by decide) ?_
          exact wm_zret hg hr dX4_isLoop_39 (by simp [isLp, h1, h2, h3, h4]) (rfl) (by decide)
        · refine wm_iconst (q := 35) 1 hg dX4_isLoop_34 rfl (by decide) ?_
          refine wm_goto (q := 39) hg dX4_isLoop_35 (by decide) ?_
          exact wm_zret hg hr dX4_isLoop_39 (by simp [isLp, h1, h2, h3, h4]) (rfl) (by decide)
set_option maxRecDepth 100000 in
set_option maxHeartbeats 4000000 in
theorem c_X4_cosine {Γ : GT} {M : Mem} {k : Int32} : Ct Γ yX4_cosine cX4_cosine 1 (some .int) 0 [.int k] M (some (.int (cosI k))) M := by
  refine ct_of (by decide) (Nat.le_of_ble_eq_true rfl) (fun K hg hr => ?_)
  show WM Γ K _ [(0, _)] 0 []
  refine wm_cosines (q := 3) hg dX4_cosine_0 rfl ld_X4_241 ?_
  refine wm_iload_n (q := 4) (i := 0) hg dX4_cosine_3 rfl rfl rfl ?_
  refine wm_bipush (q := 6) 7 hg dX4_cosine_4 rfl (by decide) ?_
  refine wm_iand (q := 7) hg dX4_cosine_6 rfl ?_
  refine wm_cosload (q := 8) _ hg dX4_cosine_7 rfl (pk_and _ 3 rfl) (Nat.mod_lt _ (by decide)) ?_
  exact wm_iret hg hr dX4_cosine_8 (rfl) (rfl)
set_option maxRecDepth 100000 in
set_option maxHeartbeats 4000000 in
theorem c_X4_pull {Γ : GT} {M : Mem} {a b : Int32} : Ct Γ yX4_pull cX4_pull 2 (some .int) 0 [.int a, .int b] M (some (.int (pull a b))) M := by
  refine ct_of (by decide) (Nat.le_of_ble_eq_true rfl) (fun K hg hr => ?_)
  show WM Γ K _ [(0, _), (1, _)] 0 []
  refine wm_bipush (q := 2) 10 hg dX4_pull_0 rfl (by decide) ?_
  refine wm_cosines (q := 5) hg dX4_pull_2 rfl ld_X4_241 ?_
  refine wm_iload_n (q := 6) (i := 0) hg dX4_pull_5 rfl rfl rfl ?_
  refine wm_iload_n (q := 7) (i := 1) hg dX4_pull_6 rfl rfl rfl ?_
  refine wm_isub (q := 8) hg dX4_pull_7 rfl ?_
  refine wm_bipush (q := 10) 7 hg dX4_pull_8 rfl (by decide) ?_
  refine wm_iand (q := 11) hg dX4_pull_10 rfl ?_
  refine wm_cosload (q := 12) _ hg dX4_pull_11 rfl (pk_and _ 3 rfl) (Nat.mod_lt _ (by decide)) ?_
  refine wm_imul (q := 13) hg dX4_pull_12 rfl ?_
  refine wm_iconst (q := 14) 3 hg dX4_pull_13 rfl (by decide) ?_
  refine wm_cosines (q := 17) hg dX4_pull_14 rfl ld_X4_241 ?_
  refine wm_iload_n (q := 18) (i := 0) hg dX4_pull_17 rfl rfl rfl ?_
  refine wm_bipush (q := 20) 7 hg dX4_pull_18 rfl (by decide) ?_
  refine wm_iand (q := 21) hg dX4_pull_20 rfl ?_
  refine wm_cosload (q := 22) _ hg dX4_pull_21 rfl (pk_and _ 3 rfl) (Nat.mod_lt _ (by decide)) ?_
  refine wm_imul (q := 23) hg dX4_pull_22 rfl ?_
  refine wm_cosines (q := 26) hg dX4_pull_23 rfl ld_X4_241 ?_
  refine wm_iload_n (q := 27) (i := 1) hg dX4_pull_26 rfl rfl rfl ?_
  refine wm_bipush (q := 29) 7 hg dX4_pull_27 rfl (by decide) ?_
  refine wm_iand (q := 30) hg dX4_pull_29 rfl ?_
  refine wm_cosload (q := 31) _ hg dX4_pull_30 rfl (pk_and _ 3 rfl) (Nat.mod_lt _ (by decide)) ?_
  refine wm_imul (q := 32) hg dX4_pull_31 rfl ?_
  refine wm_isub (q := 33) hg dX4_pull_32 rfl ?_
  exact wm_iret hg hr dX4_pull_33 (rfl) (rfl)
set_option maxRecDepth 100000 in
set_option maxHeartbeats 4000000 in
theorem c_X4_stepsUp {Γ : GT} {M : Mem} {k up : Int32} : Ct Γ yX4_stepsUp cX4_stepsUp 2 (some .int) 0 [.int k, .int up] M (some (.int (stepsUp k up))) M := by
  refine ct_of (by decide) (Nat.le_of_ble_eq_true rfl) (fun K hg hr => ?_)
  show WM Γ K _ [(0, _), (1, _)] 0 []
  refine wm_iload_n (q := 1) (i := 0) hg dX4_stepsUp_0 rfl rfl rfl ?_
  refine wm_iload_n (q := 2) (i := 1) hg dX4_stepsUp_1 rfl rfl rfl ?_
  refine wm_icmp_gt (q := 7) (q2 := 5) hg dX4_stepsUp_2 (by decide) rfl (fun h1 => ?_) (fun h1 => ?_)
  · refine wm_iload_n (q := 8) (i := 0) hg dX4_stepsUp_7 rfl rfl rfl ?_
    refine wm_iconst (q := 9) 3 hg dX4_stepsUp_8 rfl (by decide) ?_
    refine wm_iload_n (q := 10) (i := 1) hg dX4_stepsUp_9 rfl rfl rfl ?_
    refine wm_imul (q := 11) hg dX4_stepsUp_10 rfl ?_
    refine wm_icmp_gt (q := 22) (q2 := 14) hg dX4_stepsUp_11 (by decide) rfl (fun h2 => ?_) (fun h2 => ?_)
    · refine wm_iload_n (q := 23) (i := 0) hg dX4_stepsUp_22 rfl rfl rfl ?_
      refine wm_iconst (q := 24) 4 hg dX4_stepsUp_23 rfl (by decide) ?_
      refine wm_iload_n (q := 25) (i := 1) hg dX4_stepsUp_24 rfl rfl rfl ?_
      refine wm_imul (q := 26) hg dX4_stepsUp_25 rfl ?_
      refine wm_isub (q := 27) hg dX4_stepsUp_26 rfl ?_
      exact wm_iret hg hr dX4_stepsUp_27 (by simp [stepsUp, h1, h2]) (rfl)
    · refine wm_iconst (q := 15) 2 hg dX4_stepsUp_14 rfl (by decide) ?_
      refine wm_iload_n (q := 16) (i := 1) hg dX4_stepsUp_15 rfl rfl rfl ?_
      refine wm_imul (q := 17) hg dX4_stepsUp_16 rfl ?_
      refine wm_iload_n (q := 18) (i := 0) hg dX4_stepsUp_17 rfl rfl rfl ?_
      refine wm_isub (q := 19) hg dX4_stepsUp_18 rfl ?_
      refine wm_goto (q := 27) hg dX4_stepsUp_19 (by decide) ?_
      exact wm_iret hg hr dX4_stepsUp_27 (by simp [stepsUp, h1, h2]) (rfl)
  · refine wm_iload_n (q := 6) (i := 0) hg dX4_stepsUp_5 rfl rfl rfl ?_
    exact wm_iret hg hr dX4_stepsUp_6 (by simp [stepsUp, h1]) (rfl)
