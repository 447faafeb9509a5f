/-! ===== solve ===== -/
def dirI (x : Int32) : Int32 := if x - x / 2 * 2 = 0 then 1 else -1
def okAll (M : Mem) : Prop := ∀ g, g < 15 → ok10 (M.1 1 g)
/-- all stays but chains from b on -/
def Kp (b : Nat) (M M' : Mem) : Prop := M'.2 = M.2 ∧ ∀ ci i, (ci ≠ 1 ∨ i < b) → M'.1 ci i = M.1 ci i
theorem Kp.rf (b : Nat) (M : Mem) : Kp b M M := ⟨rfl, fun _ _ _ => rfl⟩
theorem Kp.tr {b : Nat} {M N Q : Mem} (h : Kp b M N) (k : Kp b N Q) : Kp b M Q := ⟨k.1.trans h.1, fun ci i z => (k.2 ci i z).trans (h.2 ci i z)⟩
theorem Kp.mo {b c : Nat} {M N : Mem} (h : Kp c M N) (hbc : b ≤ c) : Kp b M N := ⟨h.1, fun ci i z => h.2 ci i (z.imp id (fun q => by omega))⟩
theorem Kp.sO {b : Nat} (M : Mem) {i : Nat} (X : OV) (h : b ≤ i) : Kp b M (sO M 1 i X) := by
  refine ⟨rfl, fun c j z => ?_⟩
  rcases z with z | z
  · exact sO_kind _ _ _ _ z
  · exact sO_idx _ _ _ _ (by omega)
theorem okAll.sO {M : Mem} (h : okAll M) {i : Nat} {X : OV} (hX : ok10 X) : okAll (sO M 1 i X) := by
  intro g hg
  by_cases e : g = i
  · subst e; rw [sO_same]; exact hX
  · rw [sO_idx _ _ _ _ e]; exact h g hg
noncomputable def nxX (H N : OV) (k : Nat) : OV := (stR (turnX (oA N 1 (H.2 1)) (k / 2) (if k % 2 = 0 then 1 else -1))).2
noncomputable def nxM (M : Mem) (lv k : Nat) : Mem := sO M 1 (12 + lv) (nxX (M.1 1 (11 + lv)) (M.1 1 (12 + lv)) k)
theorem nxX_1 (H N : OV) (k : Nat) : (nxX H N k).1 = N.1 := by
  unfold nxX
  rw [stR_1]
  rfl
theorem nxM_kp (M : Mem) (lv k : Nat) : Kp (12 + lv) M (nxM M lv k) := Kp.sO M _ (Nat.le_refl _)
theorem nxM_ok {M : Mem} (h : okAll M) {lv : Nat} (hl : lv < 3) (k : Nat) : okAll (nxM M lv k) := h.sO (ok10_1 (nxX_1 _ _ k) (h (12 + lv) (by omega)))
noncomputable def fpL (rc : Mem → Int32 × Mem) (lv p : Nat) : Nat → Nat → Mem → Int32 × Mem
  | 0, _, M => (-1000000009, M)
  | n + 1, k, M =>
    if (M.1 1 (11 + lv)).2 2 (k / 2) = 1 then fpL rc lv p n (k + 1) M
    else if p = 1 then (if gmS ((nxM M lv k).1 1 (12 + lv)) (szN ((nxM M lv k).1 1 (12 + lv))) = 0 then (nI k, nxM M lv k) else fpL rc lv p n (k + 1) (nxM M lv k))
    else if 0 < dfS ((nxM M lv k).1 1 (12 + lv)) ((nxM M lv k).1 1 (11 + lv)) (szN ((nxM M lv k).1 1 (12 + lv))) then (if (rc (nxM M lv k)).1 = -1000000009 then fpL rc lv p n (k + 1) (rc (nxM M lv k)).2 else (nI k, (rc (nxM M lv k)).2)) else fpL rc lv p n (k + 1) (nxM M lv k)
noncomputable def fpM : Nat → Nat → Mem → Int32 × Mem
  | 0, _, M => (-1000000009, M)
  | p + 1, lv, M => fpL (fpM p (lv + 1)) lv (p + 1) (2 * szN (M.1 1 (11 + lv))) 0 M
theorem fpL_kp {rc : Mem → Int32 × Mem} {lv p : Nat} (hr : ∀ M, Kp (12 + lv) M (rc M).2) : ∀ n k M, Kp (12 + lv) M (fpL rc lv p n k M).2
  | 0, _, M => Kp.rf _ M
  | n + 1, k, M => by
    have h0 := nxM_kp M lv k
    unfold fpL
    split
    · exact fpL_kp hr n _ _
    · split
      · split
        · exact h0
        · exact h0.tr (fpL_kp hr n _ _)
      · split
        · split
          · exact h0.tr ((hr _).tr (fpL_kp hr n _ _))
          · exact h0.tr (hr _)
        · exact h0.tr (fpL_kp hr n _ _)
theorem fpM_kp : ∀ p lv M, Kp (12 + lv) M (fpM p lv M).2
  | 0, _, M => Kp.rf _ M
  | p + 1, lv, M => fpL_kp (fun M => (fpM_kp p (lv + 1) M).mo (by omega)) _ _ M
theorem fpL_ok {rc : Mem → Int32 × Mem} {lv p : Nat} (hl : lv < 3) (hr : ∀ M, okAll M → okAll (rc M).2) : ∀ n k M, okAll M → okAll (fpL rc lv p n k M).2
  | 0, _, M, h => h
  | n + 1, k, M, h => by
    have h0 := nxM_ok h hl k
    unfold fpL
    split
    · exact fpL_ok hl hr n _ _ h
    · split
      · split
        · exact h0
        · exact fpL_ok hl hr n _ _ h0
      · split
        · split
          · exact fpL_ok hl hr n _ _ (hr _ h0)
          · exact hr _ h0
        · exact fpL_ok hl hr n _ _ h0
theorem fpM_ok : ∀ p lv M, lv + p ≤ 3 → okAll M → okAll (fpM p lv M).2
  | 0, _, M, _, h => h
  | p + 1, lv, M, hl, h => fpL_ok (by omega) (fun M => fpM_ok p (lv + 1) M (by omega)) _ _ M h
noncomputable def cpM (M : Mem) : Nat → Mem
  | 0 => M
  | i + 1 => sO (cpM M i) 1 (11 + i) (M.1 1 0)
theorem cpM_kp (M : Mem) : ∀ i, Kp 11 M (cpM M i)
  | 0 => Kp.rf _ M
  | i + 1 => (cpM_kp M i).tr (Kp.sO _ _ (by omega))
theorem cpM_ok {M : Mem} (h : okAll M) : ∀ i, okAll (cpM M i)
  | 0 => h
  | i + 1 => (cpM_ok h i).sO (h 0 (by decide))
noncomputable def svL (what : Int32) : Nat → Nat → Mem → Int32 × Mem
  | 0, _, M => (-1000000009, M)
  | n + 1, j, M => if (fpM j 0 M).1 = -1000000009 then svL what n (j + 1) (fpM j 0 M).2 else (if what = 0 then nI j else if what = 1 then (fpM j 0 M).1 / 2 else dirI (fpM j 0 M).1, (fpM j 0 M).2)
noncomputable def fSolve (M : Mem) (most what : Int32) : Int32 × Mem := if wthn most 0 3 = 0 then (-1000000001, M) else if wthn what 0 2 = 0 then (-1000000001, M) else if gmS (M.1 1 0) (szN (M.1 1 0)) = 0 then (if what = 0 then 0 else -1000000009, M) else svL what most.toNatClampNeg 1 (cpM M 4)
set_option maxRecDepth 100000 in
set_option maxHeartbeats 4000000 in
theorem c_X4_magnetOf {Γ : GT} {M : Mem} {x : Int32} : Ct Γ yX4_magnetOf cX4_magnetOf 1 (some .int) 0 [.int x] M (some (.int (x / 2))) M := by
  refine ct_of (by decide) (Nat.le_of_ble_eq_true rfl) (fun K hg hr => ?_)
  show WM Γ K _ [(0, _)] 0 []
  refine wm_iload_n (q := 1) (i := 0) hg dX4_magnetOf_0 rfl rfl rfl ?_
  refine wm_iconst (q := 2) 2 hg dX4_magnetOf_1 rfl (by decide) ?_
  refine wm_idiv (q := 3) hg dX4_magnetOf_2 rfl (by decide) ?_
  exact wm_iret hg hr dX4_magnetOf_3 (rfl) (rfl)
set_option maxRecDepth 100000 in
set_option maxHeartbeats 4000000 in
theorem c_X4_directionOf {Γ : GT} {M : Mem} {x : Int32} : Ct Γ yX4_directionOf cX4_directionOf 1 (some .int) 0 [.int x] M (some (.int (dirI x))) M := by
  refine ct_of (by decide) (Nat.le_of_ble_eq_true rfl) (fun K hg hr => ?_)
  show WM Γ K _ [(0, _)] 0 []
  refine wm_iload_n (q := 1) (i := 0) hg dX4_directionOf_0 rfl rfl rfl ?_
  refine wm_iconst (q := 2) 2 hg dX4_directionOf_1 rfl (by decide) ?_
  refine wm_irem (q := 3) hg dX4_directionOf_2 rfl (by decide) ?_
  refine wm_if_ne (q := 10) (q2 := 6) hg dX4_directionOf_3 (by decide) rfl (fun h1 => ?_) (fun h1 => ?_)
  · refine wm_iconst (q := 11) (-1) hg dX4_directionOf_10 rfl (by decide) ?_
    exact wm_iret hg hr dX4_directionOf_11 (by simp [dirI, h1]) (rfl)
  · refine wm_iconst (q := 7) 1 hg dX4_directionOf_6 rfl (by decide) ?_
    refine wm_goto (q := 11) hg dX4_directionOf_7 (by decide) ?_
    exact wm_iret hg hr dX4_directionOf_11 (by simp [dirI, h1]) (rfl)
theorem mag_n {k : Nat} (h : k < 2 ^ 31) : nI k / 2 = nI (k / 2) := pk_div h (by decide) (by decide)
theorem dir_n {k : Nat} (h : k < 2 ^ 31) : dirI (nI k) = if k % 2 = 0 then 1 else -1 := by
  have e : nI k - nI k / 2 * 2 = nI (k % 2) := pk_rem h (by decide) (by decide)
  unfold dirI
  rw [e]
  have h2 : k % 2 < 2 := Nat.mod_lt _ (by decide)
  by_cases h0 : k % 2 = 0
  · rw [if_pos h0, h0, if_pos (by decide)]
  · rw [if_neg h0, show k % 2 = 1 by omega, if_neg (by decide)]
set_option maxRecDepth 100000 in
set_option maxHeartbeats 4000000 in
theorem c_X4_firstPush {Γ : GT} : ∀ (p lv : Nat) (M : Mem) (x y : Int32), lv + p ≤ 3 → okAll M → x = nI lv → y = nI p → Ct Γ yX4_firstPush cX4_firstPush 6 (some .int) (5 + p) [.ref (ad Γ 4 0 7), .int x, .int y] M (some (.int (fpM p lv M).1)) (fpM p lv M).2 := by
  intro p
  induction p with
  | zero =>
    intro lv M x y hl hok hx hy
    subst hx hy
    refine ct_of (by decide) (Nat.le_of_ble_eq_true rfl) (fun K hg hr => ?_)
    show WM Γ K _ [(0, _), (1, _), (2, _)] 0 []
    refine wm_iload_n (q := 1) (i := 2) hg dX4_firstPush_0 rfl rfl rfl ?_
    refine wm_iconst (q := 2) 1 hg dX4_firstPush_1 rfl (by decide) ?_
    refine wm_icmp_lt (q := 17) (q2 := 5) hg dX4_firstPush_2 (by decide) rfl (fun h1 => ?_) (fun h1 => ?_)
    · refine wm_ldc (q := 19) (-1000000009) hg dX4_firstPush_17 rfl ld_X4_151 ?_
      exact wm_iret hg hr dX4_firstPush_19 (rfl) (rfl)
    · exact absurd (show nI 0 < 1 by decide) h1
  | succ p ih =>
    intro lv M x y hl hok hx hy
    subst hx hy
    refine ct_of (by decide) (Nat.le_of_ble_eq_true rfl) (fun K hg hr => ?_)
    show WM Γ K _ [(0, _), (1, _), (2, _)] 0 []
    refine wm_iload_n (q := 1) (i := 2) hg dX4_firstPush_0 rfl rfl rfl ?_
    refine wm_iconst (q := 2) 1 hg dX4_firstPush_1 rfl (by decide) ?_
    refine wm_icmp_lt (q := 17) (q2 := 5) hg dX4_firstPush_2 (by decide) rfl (fun h1 => ?_) (fun h1 => ?_)
    · exact absurd h1 (nI_nlt (a := p + 1) (b := 1) (by omega) (by omega))
    · refine wm_iload_n (q := 6) (i := 1) hg dX4_firstPush_5 rfl rfl rfl ?_
      refine wm_if_lt (q := 17) (q2 := 9) hg dX4_firstPush_6 (by decide) rfl (fun h2 => ?_) (fun h2 => ?_)
      · exact absurd h2 (nI_pos (by omega))
      · refine wm_iload_n (q := 10) (i := 1) hg dX4_firstPush_9 rfl rfl rfl ?_
        refine wm_aload_n (q := 11) (i := 0) hg dX4_firstPush_10 rfl rfl rfl ?_
        refine wm_alenR (q := 12) (v := 4) hg dX4_firstPush_11 rfl (Or.inr (Or.inr ⟨rfl, rfl⟩)) ?_
        refine wm_iconst (q := 13) 1 hg dX4_firstPush_12 rfl (by decide) ?_
        refine wm_isub (q := 14) hg dX4_firstPush_13 rfl ?_
        refine wm_icmp_lt (q := 20) (q2 := 17) hg dX4_firstPush_14 (by decide) rfl (fun h3 => ?_) (fun h3 => ?_)
        · refine wm_aload_n (q := 21) (i := 0) hg dX4_firstPush_20 rfl rfl rfl ?_
          refine wm_iload_n (q := 22) (i := 1) hg dX4_firstPush_21 rfl rfl rfl ?_
          refine wm_cload (q := 23) lv hg dX4_firstPush_22 rfl rfl (by omega) ?_
          refine wm_astore_n (q := 24) (i := 3) (L' := [(0, _), (1, _), (2, _), (3, _)]) hg dX4_firstPush_23 rfl rfl rfl rfl ?_
          refine wm_aload_n (q := 25) (i := 0) hg dX4_firstPush_24 rfl rfl rfl ?_
          refine wm_iload_n (q := 26) (i := 1) hg dX4_firstPush_25 rfl rfl rfl ?_
          refine wm_iconst (q := 27) 1 hg dX4_firstPush_26 rfl (by decide) ?_
          refine wm_iadd (q := 28) hg dX4_firstPush_27 rfl ?_
          refine wm_cload (q := 29) (lv + 1) hg dX4_firstPush_28 rfl (nadd (a := lv) (b := 1) rfl (rfl : (1 : Int32) = nI 1)) (by omega) ?_
          refine wm_astore (q := 31) (i := 4) (L' := [(0, _), (1, _), (2, _), (3, _), (4, _)]) hg dX4_firstPush_29 rfl rfl rfl ?_
          refine wm_iconst (q := 32) 0 hg dX4_firstPush_31 rfl (by decide) ?_
          refine wm_istore (q := 34) (i := 5) (L' := [(0, _), (1, _), (2, _), (3, _), (4, _), (5, _)]) hg dX4_firstPush_32 rfl rfl rfl ?_
          suffices hloop : ∀ (n k : Nat) (N : Mem), k + n = 2 * szN (N.1 1 (11 + lv)) → okAll N → fpL (fpM p (lv + 1)) lv (p + 1) n k N = fpM (p + 1) lv M → WM Γ K N [(0, .ref (ad Γ 4 0 7)), (1, .int (nI lv)), (2, .int (nI (p + 1))), (3, .ref (ad Γ 1 (11 + lv) 0)), (4, .ref (ad Γ 1 (11 + (lv + 1)) 0)), (5, .int (nI k))] 34 [] from hloop (2 * szN (M.1 1 (11 + lv))) 0 M (by omega) hok rfl
          intro n
          induction n with
          | zero =>
            intro k N hk hN hF
            have hz := hN (11 + lv) (by omega)
            have hz2 := hz.2
            have hm : (2 : Int32) * (N.1 1 (11 + lv)).1 0 = nI (2 * szN (N.1 1 (11 + lv))) := nmul rfl hz.1
            refine wm_iload (q := 36) (i := 5) hg dX4_firstPush_34 rfl rfl ?_
            refine wm_iconst (q := 37) 2 hg dX4_firstPush_36 rfl (by decide) ?_
            refine wm_aload_n (q := 38) (i := 3) hg dX4_firstPush_37 rfl rfl rfl ?_
            refine wm_get (q := 41) hg dX4_firstPush_38 rfl fl_X4_54 (by first | assumption | decide | omega | (simp only [nO]; omega)) rfl ?_
            refine wm_imul (q := 42) hg dX4_firstPush_41 rfl ?_
            refine wm_icmp_ge (q := 139) (q2 := 45) hg dX4_firstPush_42 (by decide) rfl (fun hb => ?_) (fun hb => ?_)
            · refine wm_ldc (q := 141) (-1000000009) hg dX4_firstPush_139 rfl ld_X4_151 ?_
              exact wm_iret hg hr dX4_firstPush_141 (by rw [← hF]; rfl) (by rw [← hF]; rfl)
            · exact absurd (lpLe hm (by omega) (by omega)) hb
          | succ n ihn =>
            intro k N hk hN hF
            have hz := hN (11 + lv) (by omega)
            have hz2 := hz.2
            have hm : (2 : Int32) * (N.1 1 (11 + lv)).1 0 = nI (2 * szN (N.1 1 (11 + lv))) := nmul rfl hz.1
            have hk2 : nI k / 2 = nI (k / 2) := mag_n (by omega)
            have hkd := dir_n (k := k) (by omega)
            have hk5 : k / 2 < szN (N.1 1 (11 + lv)) := by omega
            have h1k := nxM_kp N lv k
            have h1o := nxM_ok hN (lv := lv) (by omega) k
            have e11 : (nxM N lv k).1 1 (11 + lv) = N.1 1 (11 + lv) := h1k.2 _ _ (Or.inr (by omega))
            have e12 : (nxM N lv k).1 1 (12 + lv) = nxX (N.1 1 (11 + lv)) (N.1 1 (12 + lv)) k := sO_same _ _ _ _
            have n12 : 11 + (lv + 1) = 12 + lv := by omega
            rw [n12]
            refine wm_iload (q := 36) (i := 5) hg dX4_firstPush_34 rfl rfl ?_
            refine wm_iconst (q := 37) 2 hg dX4_firstPush_36 rfl (by decide) ?_
            refine wm_aload_n (q := 38) (i := 3) hg dX4_firstPush_37 rfl rfl rfl ?_
            refine wm_get (q := 41) hg dX4_firstPush_38 rfl fl_X4_54 (by first | assumption | decide | omega | (simp only [nO]; omega)) rfl ?_
            refine wm_imul (q := 42) hg dX4_firstPush_41 rfl ?_
            refine wm_icmp_ge (q := 139) (q2 := 45) hg dX4_firstPush_42 (by decide) rfl (fun hb => ?_) (fun hb => ?_)
            · exact absurd hb (lpLt hm (by omega) (by omega))
            · refine wm_aload_n (q := 46) (i := 3) hg dX4_firstPush_45 rfl rfl rfl ?_
              refine wm_get (q := 49) hg dX4_firstPush_46 rfl fl_X4_105 (by first | assumption | decide | omega | (simp only [nO]; omega)) rfl ?_
              refine wm_iload (q := 51) (i := 5) hg dX4_firstPush_49 rfl rfl ?_
              refine wm_callS1 (q := 54) hg dX4_firstPush_51 rfl lk_X4_217 (by first | decide | omega) c_X4_magnetOf rfl rfl (Nat.le_of_ble_eq_true rfl) ?_
              refine wm_iaload (q := 55) (k / 2) hg dX4_firstPush_54 rfl (by first | assumption | decide | omega | (simp only [nO]; omega)) rfl hk2 (by simp only [alen]; omega) ?_
              refine wm_iconst (q := 56) 1 hg dX4_firstPush_55 rfl (by decide) ?_
              refine wm_icmp_ne (q := 62) (q2 := 59) hg dX4_firstPush_56 (by decide) rfl (fun h6 => ?_) (fun h6 => ?_)
              · refine wm_aload (q := 64) (i := 4) hg dX4_firstPush_62 rfl rfl ?_
                refine wm_aload_n (q := 65) (i := 3) hg dX4_firstPush_64 rfl rfl rfl ?_
                refine wm_callV0 (q := 68) hg dX4_firstPush_65 rfl lk_X4_238 (by first | decide | omega) (c_X1_takeAngles (by omega) (by omega)) (by first | assumption | decide | omega | (simp only [nO]; omega)) ⟨rfl, by decide⟩ rfl rfl (Nat.le_of_ble_eq_true rfl) ?_
                refine wm_aload (q := 70) (i := 4) hg dX4_firstPush_68 rfl rfl ?_
                refine wm_iload (q := 72) (i := 5) hg dX4_firstPush_70 rfl rfl ?_
                refine wm_callS1 (q := 75) hg dX4_firstPush_72 rfl lk_X4_217 (by first | decide | omega) c_X4_magnetOf rfl rfl (Nat.le_of_ble_eq_true rfl) ?_
                refine wm_iload (q := 77) (i := 5) hg dX4_firstPush_75 rfl rfl ?_
                refine wm_callS1 (q := 80) hg dX4_firstPush_77 rfl lk_X4_220 (by first | decide | omega) c_X4_directionOf rfl rfl (Nat.le_of_ble_eq_true rfl) ?_
                refine wm_callV0 (q := 83) hg dX4_firstPush_80 rfl lk_X4_129 (by first | decide | omega) (c_X1_turn (t := k / 2) (by omega) hk2 (by omega)) (by first | assumption | decide | omega | (simp only [nO]; omega)) ⟨rfl, by decide⟩ rfl rfl (Nat.le_of_ble_eq_true rfl) ?_
                refine wm_aload (q := 85) (i := 4) hg dX4_firstPush_83 rfl rfl ?_
                refine wm_null (q := 86) hg dX4_firstPush_85 rfl ?_
                refine wm_callV1 (q := 89) hg dX4_firstPush_86 rfl lk_X4_73 (by first | decide | omega) (c_settle_n (by omega) (by rw [sO_same]; exact ok10_1 rfl (by rw [sO_same]; exact ok10_1 rfl (hN (12 + lv) (by omega))))) (by first | assumption | decide | omega | (simp only [nO]; omega)) ⟨rfl, by decide⟩ rfl rfl (Nat.le_of_ble_eq_true rfl) ?_
                refine wm_mem (M' := nxM N lv k) (by simp only [sO_same, sO_sO, nxM, nxX, hkd]) ?_
                refine wm_pop (q := 90) hg dX4_firstPush_89 rfl rfl ?_
                refine wm_iload_n (q := 91) (i := 2) hg dX4_firstPush_90 rfl rfl rfl ?_
                refine wm_iconst (q := 92) 1 hg dX4_firstPush_91 rfl (by decide) ?_
                refine wm_icmp_ne (q := 106) (q2 := 95) hg dX4_firstPush_92 (by decide) rfl (fun h7 => ?_) (fun h7 => ?_)
                · have hp1 : ¬ p + 1 = 1 := fun z => h7 (by rw [z]; rfl)
                  refine wm_aload (q := 108) (i := 4) hg dX4_firstPush_106 rfl rfl ?_
                  refine wm_aload_n (q := 109) (i := 3) hg dX4_firstPush_108 rfl rfl rfl ?_
                  refine wm_callV1 (q := 112) hg dX4_firstPush_109 rfl lk_X4_122 (by first | decide | omega) (c_X1_differencesFrom (by omega) (h1o _ (by omega)) (by omega)) (by first | assumption | decide | omega | (simp only [nO]; omega)) ⟨rfl, by decide⟩ rfl rfl (Nat.le_of_ble_eq_true rfl) ?_
                  refine wm_if_le (q := 133) (q2 := 115) hg dX4_firstPush_112 (by decide) rfl (fun h8 => ?_) (fun h8 => ?_)
                  · have h8n := Int32.not_lt.mpr h8
                    refine wm_iinc (q := 136) (L' := [(0, _), (1, _), (2, _), (3, _), (4, _), (5, _)]) (nI (k + 1)) hg dX4_firstPush_133 rfl rfl (nadd rfl rfl) rfl rfl ?_
                    refine wm_goto (q := 34) hg dX4_firstPush_136 (by decide) ?_
                    refine wm_Leq (by rw [← n12]) (ihn (k + 1) (nxM N lv k) (by rw [e11]; omega) h1o (by rw [← hF]; simp only [fpL, if_neg h6, if_neg hp1, if_neg h8n]))
                  · have h8n := Int32.not_le.mp h8
                    have hq := fpM_kp p (lv + 1) (nxM N lv k)
                    have hqo := fpM_ok p (lv + 1) (nxM N lv k) (by omega) h1o
                    have e21 : (fpM p (lv + 1) (nxM N lv k)).2.1 1 (11 + lv) = N.1 1 (11 + lv) := (hq.2 _ _ (Or.inr (by omega))).trans e11
                    refine wm_aload_n (q := 116) (i := 0) hg dX4_firstPush_115 rfl rfl rfl ?_
                    refine wm_iload_n (q := 117) (i := 1) hg dX4_firstPush_116 rfl rfl rfl ?_
                    refine wm_iconst (q := 118) 1 hg dX4_firstPush_117 rfl (by decide) ?_
                    refine wm_iadd (q := 119) hg dX4_firstPush_118 rfl ?_
                    refine wm_iload_n (q := 120) (i := 2) hg dX4_firstPush_119 rfl rfl rfl ?_
                    refine wm_iconst (q := 121) 1 hg dX4_firstPush_120 rfl (by decide) ?_
                    refine wm_isub (q := 122) hg dX4_firstPush_121 rfl ?_
                    refine wm_callS1 (q := 125) hg dX4_firstPush_122 rfl lk_X4_213 (by first | decide | omega) (ih (lv + 1) (nxM N lv k) _ _ (by omega) h1o (nadd rfl rfl) (nsub (a := p + 1) (b := 1) rfl rfl (by omega))) rfl rfl (Nat.le_of_ble_eq_true rfl) ?_
                    refine wm_ldc (q := 127) (-1000000009) hg dX4_firstPush_125 rfl ld_X4_151 ?_
                    refine wm_icmp_eq (q := 133) (q2 := 130) hg dX4_firstPush_127 (by decide) rfl (fun h9 => ?_) (fun h9 => ?_)
                    · refine wm_iinc (q := 136) (L' := [(0, _), (1, _), (2, _), (3, _), (4, _), (5, _)]) (nI (k + 1)) hg dX4_firstPush_133 rfl rfl (nadd rfl rfl) rfl rfl ?_
                      refine wm_goto (q := 34) hg dX4_firstPush_136 (by decide) ?_
                      refine wm_Leq (by rw [← n12]) (ihn (k + 1) (fpM p (lv + 1) (nxM N lv k)).2 (by rw [e21]; omega) hqo (by rw [← hF]; simp only [fpL, if_neg h6, if_neg hp1, if_pos h8n, if_pos h9]))
                    · refine wm_iload (q := 132) (i := 5) hg dX4_firstPush_130 rfl rfl ?_
                      exact wm_iret hg hr dX4_firstPush_132 (by rw [← hF]; simp only [fpL, if_neg h6, if_neg hp1, if_pos h8n, if_neg h9]) (by rw [← hF]; simp only [fpL, if_neg h6, if_neg hp1, if_pos h8n, if_neg h9])
                · have hp1 : p + 1 = 1 := (nI_eq (a := p + 1) (b := 1) (by omega) (by decide)).mp h7
                  refine wm_aload (q := 97) (i := 4) hg dX4_firstPush_95 rfl rfl ?_
                  refine wm_callV1 (q := 100) hg dX4_firstPush_97 rfl lk_X4_177 (by first | decide | omega) (c_X1_goalsMissed (by omega) (h1o _ (by omega))) (by first | assumption | decide | omega | (simp only [nO]; omega)) ⟨rfl, by decide⟩ rfl rfl (Nat.le_of_ble_eq_true rfl) ?_
                  refine wm_if_ne (q := 133) (q2 := 103) hg dX4_firstPush_100 (by decide) rfl (fun h8 => ?_) (fun h8 => ?_)
                  · refine wm_iinc (q := 136) (L' := [(0, _), (1, _), (2, _), (3, _), (4, _), (5, _)]) (nI (k + 1)) hg dX4_firstPush_133 rfl rfl (nadd rfl rfl) rfl rfl ?_
                    refine wm_goto (q := 34) hg dX4_firstPush_136 (by decide) ?_
                    refine wm_Leq (by rw [← n12]) (ihn (k + 1) (nxM N lv k) (by rw [e11]; omega) h1o (by rw [← hF]; simp only [fpL, if_neg h6, if_pos hp1, if_neg h8]))
                  · refine wm_iload (q := 105) (i := 5) hg dX4_firstPush_103 rfl rfl ?_
                    exact wm_iret hg hr dX4_firstPush_105 (by rw [← hF]; simp only [fpL, if_neg h6, if_pos hp1, if_pos h8]) (by rw [← hF]; simp only [fpL, if_neg h6, if_pos hp1, if_pos h8])
              · refine wm_goto (q := 133) hg dX4_firstPush_59 (by decide) ?_
                refine wm_iinc (q := 136) (L' := [(0, _), (1, _), (2, _), (3, _), (4, _), (5, _)]) (nI (k + 1)) hg dX4_firstPush_133 rfl rfl (nadd rfl rfl) rfl rfl ?_
                refine wm_goto (q := 34) hg dX4_firstPush_136 (by decide) ?_
                refine wm_Leq (by rw [← n12]) (ihn (k + 1) N (by omega) hN (by rw [← hF]; simp only [fpL, if_pos h6]))
        · exact absurd (show nI lv < 4 - 1 from nI_lt (a := lv) (b := 3) (by omega) (by decide)) h3
set_option maxRecDepth 100000 in
set_option maxHeartbeats 4000000 in
theorem c_X4_solve {Γ : GT} {M : Mem} {most what : Int32} (hI : InvC M) : Ct Γ yX4_solve cX4_solve 5 (some .int) 9 [.ref (ad Γ 4 0 0), .int most, .int what] M (some (.int (fSolve M most what).1)) (fSolve M most what).2 := by
  refine ct_of (by decide) (Nat.le_of_ble_eq_true rfl) (fun K hg hr => ?_)
  show WM Γ K _ [(0, _), (1, _), (2, _)] 0 []
  obtain ⟨hU, hC, hBB, hT⟩ := hI
  have hz := hC 0 (by decide)
  have hB := hBB 0 (by decide)
  have hz2 := hz.2
  refine wm_iload_n (q := 1) (i := 1) hg dX4_solve_0 rfl rfl rfl ?_
  refine wm_iconst (q := 2) 0 hg dX4_solve_1 rfl (by decide) ?_
  refine wm_iconst (q := 3) 3 hg dX4_solve_2 rfl (by decide) ?_
  refine wm_callS1 (q := 6) hg dX4_solve_3 rfl lk_X4_45 (by first | decide | omega) c_X4_isWithin rfl rfl (Nat.le_of_ble_eq_true rfl) ?_
  refine wm_if_eq (q := 18) (q2 := 9) hg dX4_solve_6 (by decide) rfl (fun h1 => ?_) (fun h1 => ?_)
  · refine wm_ldc (q := 20) (-1000000001) hg dX4_solve_18 rfl ld_X4_49 ?_
    exact wm_iret hg hr dX4_solve_20 (by simp only [fSolve, if_pos h1]) (by simp only [fSolve, if_pos h1])
  · refine wm_iload_n (q := 10) (i := 2) hg dX4_solve_9 rfl rfl rfl ?_
    refine wm_iconst (q := 11) 0 hg dX4_solve_10 rfl (by decide) ?_
    refine wm_iconst (q := 12) 2 hg dX4_solve_11 rfl (by decide) ?_
    refine wm_callS1 (q := 15) hg dX4_solve_12 rfl lk_X4_45 (by first | decide | omega) c_X4_isWithin rfl rfl (Nat.le_of_ble_eq_true rfl) ?_
    refine wm_if_ne (q := 21) (q2 := 18) hg dX4_solve_15 (by decide) rfl (fun h2 => ?_) (fun h2 => ?_)
    · refine wm_aload_n (q := 22) (i := 0) hg dX4_solve_21 rfl rfl rfl ?_
      refine wm_get (q := 25) hg dX4_solve_22 rfl fl_X4_10 (by first | assumption | decide | omega | (simp only [nO]; omega)) rfl ?_
      refine wm_get (q := 28) hg dX4_solve_25 rfl fl_X4_50 (by first | assumption | decide | omega | (simp only [nO]; omega)) rfl ?_
      refine wm_callV1 (q := 31) hg dX4_solve_28 rfl lk_X4_177 (by first | decide | omega) (c_X1_goalsMissed (by first | assumption | decide | omega) (by first | assumption | decide | omega)) (by first | assumption | decide | omega | (simp only [nO]; omega)) ⟨rfl, by decide⟩ rfl rfl (Nat.le_of_ble_eq_true rfl) ?_
      refine wm_if_ne (q := 45) (q2 := 34) hg dX4_solve_31 (by decide) rfl (fun h3 => ?_) (fun h3 => ?_)
      · obtain ⟨a, -, ha2, ha⟩ := wthn_n (lo := 0) (hi := 3) h1 (by decide) (by decide)
        have hac : most.toNatClampNeg = a := by rw [ha, nI_clamp (by omega)]
        have hF : fSolve M most what = svL what a 1 (cpM M 4) := by simp only [fSolve, if_neg h1, if_neg h2, if_neg h3, hac]
        rw [hF] at hr
        subst ha
        refine wm_iconst (q := 46) 0 hg dX4_solve_45 rfl (by decide) ?_
        refine wm_istore_n (q := 47) (i := 3) (L' := [(0, _), (1, _), (2, _), (3, _)]) hg dX4_solve_46 rfl rfl rfl rfl ?_
        suffices hloop : ∀ (n i : Nat), i + n = 4 → WM Γ K (cpM M i) [(0, .ref (ad Γ 4 0 0)), (1, .int (nI a)), (2, .int what), (3, .int (nI i))] 47 [] from hloop 4 0 (by omega)
        intro n
        induction n with
        | zero =>
          intro i hi 
          refine wm_iload_n (q := 48) (i := 3) hg dX4_solve_47 rfl rfl rfl ?_
          refine wm_aload_n (q := 49) (i := 0) hg dX4_solve_48 rfl rfl rfl ?_
          refine wm_get (q := 52) hg dX4_solve_49 rfl fl_X4_40 (by first | assumption | decide | omega | (simp only [nO]; omega)) rfl ?_
          refine wm_alenR (q := 53) (v := 4) hg dX4_solve_52 rfl (Or.inr (Or.inr ⟨rfl, rfl⟩)) ?_
          refine wm_icmp_ge (q := 78) (q2 := 56) hg dX4_solve_53 (by decide) rfl (fun hb => ?_) (fun hb => ?_)
          · have he : i = 4 := by omega
            subst he
            refine wm_iconst (q := 79) 1 hg dX4_solve_78 rfl (by decide) ?_
            refine wm_istore_n (q := 80) (i := 3) (L' := [(0, _), (1, _), (2, _), (3, _)]) hg dX4_solve_79 rfl rfl rfl rfl ?_
            suffices hl2 : ∀ (n j : Nat) (N : Mem), j + n = a + 1 → 1 ≤ j → okAll N → svL what n j N = svL what a 1 (cpM M 4) → WM Γ K N [(0, .ref (ad Γ 4 0 0)), (1, .int (nI a)), (2, .int what), (3, .int (nI j))] 80 [] from hl2 a 1 (cpM M 4) (by omega) (by decide) (cpM_ok hC 4) rfl
            intro n
            induction n with
            | zero =>
              intro j N hj hj1 hN hS
              refine wm_iload_n (q := 81) (i := 3) hg dX4_solve_80 rfl rfl rfl ?_
              refine wm_iload_n (q := 82) (i := 1) hg dX4_solve_81 rfl rfl rfl ?_
              refine wm_icmp_gt (q := 152) (q2 := 85) hg dX4_solve_82 (by decide) rfl (fun hq => ?_) (fun hq => ?_)
              · refine wm_ldc (q := 154) (-1000000009) hg dX4_solve_152 rfl ld_X4_151 ?_
                exact wm_iret hg hr dX4_solve_154 (by rw [← hS]; rfl) (by rw [← hS]; rfl)
              · exact absurd (nI_lt (by omega) (by omega)) hq
            | succ n ihn =>
              intro j N hj hj1 hN hS
              refine wm_iload_n (q := 81) (i := 3) hg dX4_solve_80 rfl rfl rfl ?_
              refine wm_iload_n (q := 82) (i := 1) hg dX4_solve_81 rfl rfl rfl ?_
              refine wm_icmp_gt (q := 152) (q2 := 85) hg dX4_solve_82 (by decide) rfl (fun hq => ?_) (fun hq => ?_)
              · exact absurd hq (nI_nlt (by omega) (by omega))
              · refine wm_aload_n (q := 86) (i := 0) hg dX4_solve_85 rfl rfl rfl ?_
                refine wm_get (q := 89) hg dX4_solve_86 rfl fl_X4_40 (by first | assumption | decide | omega | (simp only [nO]; omega)) rfl ?_
                refine wm_iconst (q := 90) 0 hg dX4_solve_89 rfl (by decide) ?_
                refine wm_iload_n (q := 91) (i := 3) hg dX4_solve_90 rfl rfl rfl ?_
                refine wm_callS1 (q := 94) hg dX4_solve_91 rfl lk_X4_213 (by first | decide | omega) (c_X4_firstPush j 0 N _ _ (by omega) hN (rfl : (0 : Int32) = nI 0) rfl) rfl rfl (Nat.le_of_ble_eq_true rfl) ?_
                refine wm_istore (q := 96) (i := 4) (L' := [(0, _), (1, _), (2, _), (3, _), (4, _)]) hg dX4_solve_94 rfl rfl rfl ?_
                refine wm_iload (q := 98) (i := 4) hg dX4_solve_96 rfl rfl ?_
                refine wm_ldc (q := 100) (-1000000009) hg dX4_solve_98 rfl ld_X4_151 ?_
                refine wm_icmp_eq (q := 146) (q2 := 103) hg dX4_solve_100 (by decide) rfl (fun h6 => ?_) (fun h6 => ?_)
                · refine wm_iinc (q := 149) (L' := [(0, _), (1, _), (2, _), (3, _), (4, _)]) (nI (j + 1)) hg dX4_solve_146 rfl rfl (nadd rfl rfl) rfl rfl ?_
                  refine wm_goto (q := 80) hg dX4_solve_149 (by decide) ?_
                  refine wm_L (L' := [(0, _), (1, _), (2, _), (3, _)]) [0, 1, 2, 3] rfl ?_
                  exact ihn (j + 1) (fpM j 0 N).2 (by omega) (by omega) (fpM_ok j 0 N (by omega) hN) (by rw [← hS]; simp only [svL, if_pos h6])
                · refine wm_iload_n (q := 104) (i := 2) hg dX4_solve_103 rfl rfl rfl ?_
                  by_cases hk0 : what = 0
                  · subst hk0
                    refine wm_lookup (q := 132) (off := 28) hg dX4_solve_104 (by decide) (by decide) (by decide) ?_
                    refine wm_iload_n (q := 133) (i := 3) hg dX4_solve_132 rfl rfl rfl ?_
                    exact wm_iret hg hr dX4_solve_133 (by rw [← hS]; simp only [svL, if_neg h6, eq_self, if_true]) (by rw [← hS]; simp only [svL, if_neg h6])
                  · by_cases hk1 : what = 1
                    · subst hk1
                      refine wm_lookup (q := 134) (off := 30) hg dX4_solve_104 (by decide) (by decide) (by decide) ?_
                      refine wm_iload (q := 136) (i := 4) hg dX4_solve_134 rfl rfl ?_
                      refine wm_callS1 (q := 139) hg dX4_solve_136 rfl lk_X4_217 (by first | decide | omega) c_X4_magnetOf rfl rfl (Nat.le_of_ble_eq_true rfl) ?_
                      exact wm_iret hg hr dX4_solve_139 (by rw [← hS]; simp only [svL, if_neg h6, if_neg (show ¬ (1 : Int32) = 0 by decide), eq_self, if_true]) (by rw [← hS]; simp only [svL, if_neg h6])
                    · have hj0 : what.toInt ≠ 0 := fun z => hk0 (Int32.toInt_inj.mp (z.trans (by decide)))
                      have hj1 : what.toInt ≠ 1 := fun z => hk1 (Int32.toInt_inj.mp (z.trans (by decide)))
                      refine wm_lookup (q := 140) (off := 36) hg dX4_solve_104 (by decide) (by simp [Op.lookupswitch.offset_cons, Op.lookupswitch.offset_nil, Ne.symm hj0, Ne.symm hj1]) (by decide) ?_
                      refine wm_iload (q := 142) (i := 4) hg dX4_solve_140 rfl rfl ?_
                      refine wm_callS1 (q := 145) hg dX4_solve_142 rfl lk_X4_220 (by first | decide | omega) c_X4_directionOf rfl rfl (Nat.le_of_ble_eq_true rfl) ?_
                      exact wm_iret hg hr dX4_solve_145 (by rw [← hS]; simp only [svL, if_neg h6, if_neg hk0, if_neg hk1]) (by rw [← hS]; simp only [svL, if_neg h6])
          · exact absurd (nI_le (a := 4) (b := i) (by omega) (by omega)) hb
        | succ n ih =>
          intro i hi 
          refine wm_iload_n (q := 48) (i := 3) hg dX4_solve_47 rfl rfl rfl ?_
          refine wm_aload_n (q := 49) (i := 0) hg dX4_solve_48 rfl rfl rfl ?_
          refine wm_get (q := 52) hg dX4_solve_49 rfl fl_X4_40 (by first | assumption | decide | omega | (simp only [nO]; omega)) rfl ?_
          refine wm_alenR (q := 53) (v := 4) hg dX4_solve_52 rfl (Or.inr (Or.inr ⟨rfl, rfl⟩)) ?_
          refine wm_icmp_ge (q := 78) (q2 := 56) hg dX4_solve_53 (by decide) rfl (fun hb => ?_) (fun hb => ?_)
          · exact absurd hb (nI_ge (a := i) (b := 4) (by omega) (by decide))
          · refine wm_aload_n (q := 57) (i := 0) hg dX4_solve_56 rfl rfl rfl ?_
            refine wm_get (q := 60) hg dX4_solve_57 rfl fl_X4_40 (by first | assumption | decide | omega | (simp only [nO]; omega)) rfl ?_
            refine wm_iload_n (q := 61) (i := 3) hg dX4_solve_60 rfl rfl rfl ?_
            refine wm_cload (q := 62) i hg dX4_solve_61 rfl rfl (by omega) ?_
            refine wm_aload_n (q := 63) (i := 0) hg dX4_solve_62 rfl rfl rfl ?_
            refine wm_get (q := 66) hg dX4_solve_63 rfl fl_X4_10 (by first | assumption | decide | omega | (simp only [nO]; omega)) rfl ?_
            refine wm_get (q := 69) hg dX4_solve_66 rfl fl_X4_50 (by first | assumption | decide | omega | (simp only [nO]; omega)) rfl ?_
            refine wm_callV0 (q := 72) hg dX4_solve_69 rfl lk_X4_205 (by first | decide | omega) (c_X1_takeFrom (by first | assumption | decide | omega) (by first | assumption | decide | omega) (by first | assumption | decide | omega)) (by first | assumption | decide | omega | (simp only [nO]; omega)) ⟨rfl, by decide⟩ rfl rfl (Nat.le_of_ble_eq_true rfl) ?_
            refine wm_iinc (q := 75) (L' := [(0, _), (1, _), (2, _), (3, _)]) (nI (i + 1)) hg dX4_solve_72 rfl rfl (nadd rfl rfl) rfl rfl ?_
            refine wm_goto (q := 47) hg dX4_solve_75 (by decide) ?_
            exact wm_mem (by simp only [cpM, (cpM_kp M i).2 1 0 (Or.inr (by decide))]) (ih (i + 1) (by omega))
      · refine wm_iload_n (q := 35) (i := 2) hg dX4_solve_34 rfl rfl rfl ?_
        refine wm_if_ne (q := 42) (q2 := 38) hg dX4_solve_35 (by decide) rfl (fun h4 => ?_) (fun h4 => ?_)
        · refine wm_ldc (q := 44) (-1000000009) hg dX4_solve_42 rfl ld_X4_151 ?_
          exact wm_iret hg hr dX4_solve_44 (by simp only [fSolve, if_neg h1, if_neg h2, if_pos h3, if_neg h4]) (by simp only [fSolve, if_neg h1, if_neg h2, if_pos h3])
        · refine wm_iconst (q := 39) 0 hg dX4_solve_38 rfl (by decide) ?_
          refine wm_goto (q := 44) hg dX4_solve_39 (by decide) ?_
          exact wm_iret hg hr dX4_solve_44 (by simp only [fSolve, if_neg h1, if_neg h2, if_pos h3, if_pos h4]) (by simp only [fSolve, if_neg h1, if_neg h2, if_pos h3])
    · refine wm_ldc (q := 20) (-1000000001) hg dX4_solve_18 rfl ld_X4_49 ?_
      exact wm_iret hg hr dX4_solve_20 (by simp only [fSolve, if_neg h1, if_pos h2]) (by simp only [fSolve, if_neg h1, if_pos h2])
