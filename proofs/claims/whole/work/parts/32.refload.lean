/-! ===== the reference: reading the text ===== -/
def bhv (T : OV) (i : Nat) : Int32 := if i = 0 then 0 else wthn (T.2 0 (i - 1)) 48 55
def rdS (T : OV) (i : Nat) (X : OV) : Int32 × OV :=
  if wthn (T.2 0 i) 48 55 = 0 then
    (if T.2 0 i = 33 then (if bhv T i = 0 then (1, X) else if X.1 0 ≤ 0 then (1, X) else (0, oA X 2 (upd (X.2 2) (szN X - 1) 1))) else if T.2 0 i = 32 then (0, X) else (1, X))
  else if X.1 0 < 10 then (0, piX X (szN X) (T.2 0 i - 48)) else (2, X)
theorem bhv_s (T : OV) (i : Nat) : bhv T (i + 1) = wthn (T.2 0 i) 48 55 := by
  unfold bhv
  rw [if_neg (by omega), Nat.add_sub_cancel]
theorem rdG_s (T : OV) (n i : Nat) (X : OV) : rdG T (n + 1) i X (bhv T i) = if (rdS T i X).1 = 0 then rdG T n (i + 1) (rdS T i X).2 (bhv T (i + 1)) else ((rdS T i X).1, i, X) := by
  rw [bhv_s, show rdG T (n + 1) i X (bhv T i) = (if wthn (T.2 0 i) 48 55 = 0 then
      (if T.2 0 i = 33 then (if bhv T i = 0 then (if T.2 0 i = 32 then rdG T n (i + 1) X (wthn (T.2 0 i) 48 55) else (1, i, X)) else if X.1 0 ≤ 0 then (if T.2 0 i = 32 then rdG T n (i + 1) X (wthn (T.2 0 i) 48 55) else (1, i, X)) else rdG T n (i + 1) (oA X 2 (upd (X.2 2) (szN X - 1) 1)) (wthn (T.2 0 i) 48 55))
       else if T.2 0 i = 32 then rdG T n (i + 1) X (wthn (T.2 0 i) 48 55) else (1, i, X))
    else if X.1 0 < 10 then rdG T n (i + 1) (piX X (szN X) (T.2 0 i - 48)) (wthn (T.2 0 i) 48 55) else (2, i, X)) from rfl]
  unfold rdS
  by_cases h1 : wthn (T.2 0 i) 48 55 = 0
  · simp only [if_pos h1]
    by_cases h2 : T.2 0 i = 33
    · have h3 : ¬ T.2 0 i = 32 := by rw [h2]; decide
      simp only [if_pos h2]
      by_cases h4 : bhv T i = 0
      · simp only [if_pos h4, if_neg h3]
        rw [if_neg (by decide)]
      · simp only [if_neg h4]
        by_cases h5 : X.1 0 ≤ 0
        · simp only [if_pos h5, if_neg h3]
          rw [if_neg (by decide)]
        · simp only [if_neg h5]
          rw [if_pos trivial]
    · simp only [if_neg h2]
      by_cases h3 : T.2 0 i = 32
      · simp only [if_pos h3]
        rw [if_pos trivial]
      · simp only [if_neg h3]
        rw [if_neg (by decide)]
  · simp only [if_neg h1]
    by_cases h2 : X.1 0 < 10
    · simp only [if_pos h2]
      rw [if_pos trivial]
    · simp only [if_neg h2]
      rw [if_neg (by decide)]
def LD (R X : OV) : Prop := ok10 X ∧ R.1 18 = X.1 0 ∧ ∀ k, k < szN X → R.2 16 k = X.2 1 k ∧ R.2 17 k = X.2 2 k ∧ rngA X k ∧ X.2 3 k = -1000000009
def RKp (R R' : OV) : Prop := (∀ s, s ≠ 16 → s ≠ 17 → R'.2 s = R.2 s) ∧ ∀ s, s ≠ 18 → s ≠ 19 → s ≠ 20 → R'.1 s = R.1 s
theorem RKp.rf (R : OV) : RKp R R := ⟨fun _ _ _ => rfl, fun _ _ _ _ => rfl⟩
theorem RKp.tr {R S T : OV} (h : RKp R S) (k : RKp S T) : RKp R T := ⟨fun s a b => (k.1 s a b).trans (h.1 s a b), fun s a b c => (k.2 s a b c).trans (h.2 s a b c)⟩
def rdQ (T : OV) (i : Nat) (X R' : OV) : Prop := if (rdS T i X).1 = 0 then LD R' (rdS T i X).2 ∧ R'.1 19 = -1000000009 else R'.1 19 = (rdS T i X).1 ∧ R'.1 20 = nI i
theorem LD_dig {R X : OV} (h : LD R X) (h10 : szN X < 10) {c : Int32} (hc : ¬ wthn c 48 55 = 0) : LD (oI (oA (oA R 16 (upd (R.2 16) (szN X) (c - 48))) 17 (upd (R.2 17) (szN X) 0)) 18 (R.1 18 + 1)) (piX X (szN X) (c - 48)) := by
  obtain ⟨o1, o2, o3⟩ := h
  have e : piX X (szN X) (c - 48) = (upd X.1 0 (X.1 0 + 1), st3 X (szN X) (c - 48) 0 (-1000000009)) := by unfold piX; rw [Nat.sub_self]; rfl
  have e0 : (piX X (szN X) (c - 48)).1 0 = nI (szN X + 1) := by rw [piX_0, o1.1]; exact nI_1 _
  have ez := szN_of e0 (by omega)
  obtain ⟨v, hv1, hv2, hv⟩ := wthn_n (lo := 48) (hi := 55) hc (by decide) (by decide)
  have hcv : c - 48 = nI (v - 48) := nsub hv rfl hv1
  refine ⟨ok10_pi o1 h10 _ _, ?_, fun k hk => ?_⟩
  · rw [oI_w, piX_0, o2]
  · rw [ez] at hk
    obtain ⟨s1, s2, s3⟩ := st3_at X (szN X) k (c - 48) 0 (-1000000009)
    have f1 : (piX X (szN X) (c - 48)).2 1 k = if k = szN X then c - 48 else X.2 1 k := by rw [e]; exact s1
    have f2 : (piX X (szN X) (c - 48)).2 2 k = if k = szN X then 0 else X.2 2 k := by rw [e]; exact s2
    have f3 : (piX X (szN X) (c - 48)).2 3 k = if k = szN X then -1000000009 else X.2 3 k := by rw [e]; exact s3
    unfold rngA
    rw [f1, f2, f3]
    show updA (updA R.2 16 (upd (R.2 16) (szN X) (c - 48))) 17 (upd (R.2 17) (szN X) 0) 16 k = _ ∧ updA (updA R.2 16 (upd (R.2 16) (szN X) (c - 48))) 17 (upd (R.2 17) (szN X) 0) 17 k = _ ∧ _
    rw [updA_ne _ _ (show (16:Nat) ≠ 17 by decide), updA_same, updA_same]
    by_cases hks : k = szN X
    · subst hks
      rw [upd_same, upd_same, if_pos rfl, if_pos rfl, if_pos rfl]
      exact ⟨rfl, rfl, ⟨⟨v - 48, by omega, hcv⟩, Or.inl rfl, Or.inl rfl⟩, rfl⟩
    · rw [upd_ne _ _ hks, upd_ne _ _ hks, if_neg hks, if_neg hks, if_neg hks]
      exact o3 k (by omega)
theorem LD_hold {R X : OV} (h : LD R X) {p : Nat} : LD (oA R 17 (upd (R.2 17) p 1)) (oA X 2 (upd (X.2 2) p 1)) := by
  obtain ⟨o1, o2, o3⟩ := h
  have ez : szN (oA X 2 (upd (X.2 2) p 1)) = szN X := rfl
  refine ⟨o1, o2, fun k hk => ?_⟩
  rw [ez] at hk
  obtain ⟨a1, a2, ⟨r1, r2, r3⟩, a4⟩ := o3 k hk
  unfold rngA
  rw [oA_w, oA_w]
  refine ⟨a1, ?_, ⟨r1, ?_, r3⟩, a4⟩
  · by_cases hkp : k = p
    · subst hkp; rw [upd_same, upd_same]
    · rw [upd_ne _ _ hkp, upd_ne _ _ hkp]; exact a2
  · by_cases hkp : k = p
    · subst hkp; rw [upd_same]; exact Or.inr rfl
    · rw [upd_ne _ _ hkp]; exact r2
theorem RKp_A {R : OV} {s : Nat} (f : Nat → Int32) (h : s = 16 ∨ s = 17) : RKp R (oA R s f) := ⟨fun t a b => updA_ne _ _ (by rcases h with rfl | rfl <;> assumption), fun _ _ _ _ => rfl⟩
theorem RKp_I {R : OV} {s : Nat} (v : Int32) (h : s = 18 ∨ s = 19 ∨ s = 20) : RKp R (oI R s v) := ⟨fun _ _ _ => rfl, fun t a b c => upd_ne _ _ (by rcases h with rfl | rfl | rfl <;> assumption)⟩
set_option maxRecDepth 100000 in
set_option maxHeartbeats 4000000 in
theorem c_X5_fails {Γ : GT} {M : Mem} {R : OV} {a b : Int32} : Ct Γ yX5_fails cX5_fails 3 none 0 [.ref (ad Γ 5 0 0), .int a, .int b] (sR M R) none (sR M (oI (oI R 19 a) 20 b)) := by
  refine ct_of (by decide) (Nat.le_of_ble_eq_true rfl) (fun K hg hr => ?_)
  show WM Γ K _ [(0, _), (1, _), (2, _)] 0 []
  refine wm_aload_n (q := 1) (i := 0) hg dX5_fails_0 rfl rfl rfl ?_
  refine wm_iload_n (q := 2) (i := 1) hg dX5_fails_1 rfl rfl rfl ?_
  refine wm_rput (q := 5) hg dX5_fails_2 rfl fl_X5_177 rfl ?_
  refine wm_aload_n (q := 6) (i := 0) hg dX5_fails_5 rfl rfl rfl ?_
  refine wm_iload_n (q := 7) (i := 2) hg dX5_fails_6 rfl rfl rfl ?_
  refine wm_rput (q := 10) hg dX5_fails_7 rfl fl_X5_180 rfl ?_
  exact wm_vret hg hr dX5_fails_10 (rfl)
set_option maxRecDepth 100000 in
set_option maxHeartbeats 4000000 in
theorem c_X5_readByte {Γ : GT} {M : Mem} {R T X : OV} {i : Nat} {x : Int32} (hx : x = nI i) (hT : relT T R) (hi : i < txN T) (hn : txN T ≤ 40) (hL : LD R X) (hb : bhv T i ≠ 0 → 1 ≤ szN X) (hw : R.1 19 = -1000000009) : CtR Γ yX5_readByte cX5_readByte 4 none 1 [.ref (ad Γ 5 0 0), .int x] M R none (fun R' => RKp R R' ∧ rdQ T i X R') := by
  refine ctr_of (by decide) (Nat.le_of_ble_eq_true rfl) (fun K hg hr => ?_)
  show WM Γ K _ [(0, _), (1, _)] 0 []
  subst hx
  have hq := hT.2.1 i hi
  have hz := hL.1
  have hz1 := hz.1
  have hz2 := hz.2
  have hr18 : R.1 18 = nI (szN X) := hL.2.1.trans hz1
  have hmain : WM Γ K (sR M R) [(0, .ref (ad Γ 5 0 0)), (1, .int (nI i)), (2, .int (R.2 5 i)), (3, .int (bhv T i))] 35 [] := by
    refine wm_iload_n (q := 36) (i := 2) hg dX5_readByte_35 rfl rfl rfl ?_
    refine wm_bipush (q := 38) 48 hg dX5_readByte_36 rfl (by decide) ?_
    refine wm_bipush (q := 40) 55 hg dX5_readByte_38 rfl (by decide) ?_
    refine wm_callS1 (q := 43) hg dX5_readByte_40 rfl lk_X5_52 (by first | decide | omega) c_X5_isIn rfl rfl (Nat.le_of_ble_eq_true rfl) ?_
    refine wm_if_eq (q := 98) (q2 := 46) hg dX5_readByte_43 (by decide) rfl (fun h1 => ?_) (fun h1 => ?_)
    · rw [hq] at h1
      refine wm_iload_n (q := 99) (i := 2) hg dX5_readByte_98 rfl rfl rfl ?_
      refine wm_bipush (q := 101) 33 hg dX5_readByte_99 rfl (by decide) ?_
      refine wm_icmp_ne (q := 123) (q2 := 104) hg dX5_readByte_101 (by decide) rfl (fun h2 => ?_) (fun h2 => ?_)
      · rw [hq] at h2
        refine wm_iload_n (q := 124) (i := 2) hg dX5_readByte_123 rfl rfl rfl ?_
        refine wm_bipush (q := 126) 32 hg dX5_readByte_124 rfl (by decide) ?_
        refine wm_icmp_eq (q := 135) (q2 := 129) hg dX5_readByte_126 (by decide) rfl (fun h3 => ?_) (fun h3 => ?_)
        · rw [hq] at h3
          exact wm_vrret hg hr dX5_readByte_135 ⟨RKp.rf R, by unfold rdQ; rw [show rdS T i X = (0, X) from by unfold rdS; rw [if_pos h1, if_neg h2, if_pos h3]]; rw [if_pos rfl]; exact ⟨hL, hw⟩⟩
        · rw [hq] at h3
          refine wm_aload_n (q := 130) (i := 0) hg dX5_readByte_129 rfl rfl rfl ?_
          refine wm_iconst (q := 131) 1 hg dX5_readByte_130 rfl (by decide) ?_
          refine wm_iload_n (q := 132) (i := 1) hg dX5_readByte_131 rfl rfl rfl ?_
          refine wm_callV0 (q := 135) hg dX5_readByte_132 rfl lk_X5_186 (by first | decide | omega) c_X5_fails (by first | assumption | decide | omega | (simp only [nO]; omega)) ⟨rfl, by decide⟩ rfl rfl (Nat.le_of_ble_eq_true rfl) ?_
          exact wm_vrret hg hr dX5_readByte_135 ⟨(RKp_I _ (by decide)).tr (RKp_I _ (by decide)), by unfold rdQ; rw [show rdS T i X = (1, X) from by unfold rdS; rw [if_pos h1, if_neg h2, if_neg h3]]; rw [if_neg (show ¬ (1 : Int32) = 0 by decide)]; exact ⟨by rw [oI_x _ _ (by decide), oI_w], oI_w _ _ _⟩⟩
      · rw [hq] at h2
        refine wm_iload_n (q := 105) (i := 3) hg dX5_readByte_104 rfl rfl rfl ?_
        refine wm_if_eq (q := 123) (q2 := 108) hg dX5_readByte_105 (by decide) rfl (fun h4 => ?_) (fun h4 => ?_)
        · refine wm_iload_n (q := 124) (i := 2) hg dX5_readByte_123 rfl rfl rfl ?_
          refine wm_bipush (q := 126) 32 hg dX5_readByte_124 rfl (by decide) ?_
          refine wm_icmp_eq (q := 135) (q2 := 129) hg dX5_readByte_126 (by decide) rfl (fun h3 => ?_) (fun h3 => ?_)
          · rw [hq] at h3
            exact absurd h3 (by rw [h2]; decide)
          · rw [hq] at h3
            refine wm_aload_n (q := 130) (i := 0) hg dX5_readByte_129 rfl rfl rfl ?_
            refine wm_iconst (q := 131) 1 hg dX5_readByte_130 rfl (by decide) ?_
            refine wm_iload_n (q := 132) (i := 1) hg dX5_readByte_131 rfl rfl rfl ?_
            refine wm_callV0 (q := 135) hg dX5_readByte_132 rfl lk_X5_186 (by first | decide | omega) c_X5_fails (by first | assumption | decide | omega | (simp only [nO]; omega)) ⟨rfl, by decide⟩ rfl rfl (Nat.le_of_ble_eq_true rfl) ?_
            exact wm_vrret hg hr dX5_readByte_135 ⟨(RKp_I _ (by decide)).tr (RKp_I _ (by decide)), by unfold rdQ; rw [show rdS T i X = (1, X) from by unfold rdS; rw [if_pos h1, if_pos h2, if_pos h4]]; rw [if_neg (show ¬ (1 : Int32) = 0 by decide)]; exact ⟨by rw [oI_x _ _ (by decide), oI_w], oI_w _ _ _⟩⟩
        · have hs1 := hb h4
          have hs0 : ¬ X.1 0 ≤ 0 := by rw [hz1]; exact nI_ge (a := 0) (b := szN X) (by omega) (by omega)
          refine wm_aload_n (q := 109) (i := 0) hg dX5_readByte_108 rfl rfl rfl ?_
          refine wm_get (q := 112) hg dX5_readByte_109 rfl fl_X5_45 (by first | assumption | decide | omega | (simp only [nO]; omega)) rfl ?_
          refine wm_aload_n (q := 113) (i := 0) hg dX5_readByte_112 rfl rfl rfl ?_
          refine wm_rget (q := 116) hg dX5_readByte_113 rfl fl_X5_183 rfl ?_
          refine wm_iconst (q := 117) 1 hg dX5_readByte_116 rfl (by decide) ?_
          refine wm_isub (q := 118) hg dX5_readByte_117 rfl ?_
          refine wm_iconst (q := 119) 1 hg dX5_readByte_118 rfl (by decide) ?_
          refine wm_rstore (q := 120) ((szN X) - 1) hg dX5_readByte_119 rfl rfl (nsub (a := (szN X)) (b := 1) hr18 (rfl : (1 : Int32) = nI 1) (by omega)) (by simp only [alen]; omega) ?_
          refine wm_goto (q := 135) hg dX5_readByte_120 (by decide) ?_
          exact wm_vrret hg hr dX5_readByte_135 ⟨RKp_A _ (by decide), by unfold rdQ; rw [show rdS T i X = (0, oA X 2 (upd (X.2 2) (szN X - 1) 1)) from by unfold rdS; rw [if_pos h1, if_pos h2, if_neg h4, if_neg hs0]]; rw [if_pos rfl]; exact ⟨LD_hold hL, hw⟩⟩
    · rw [hq] at h1
      refine wm_aload_n (q := 47) (i := 0) hg dX5_readByte_46 rfl rfl rfl ?_
      refine wm_rget (q := 50) hg dX5_readByte_47 rfl fl_X5_183 rfl ?_
      refine wm_bipush (q := 52) 10 hg dX5_readByte_50 rfl (by decide) ?_
      refine wm_icmp_ne (q := 62) (q2 := 55) hg dX5_readByte_52 (by decide) rfl (fun h2 => ?_) (fun h2 => ?_)
      · have hlt : szN X < 10 := by
          rcases Nat.lt_or_ge (szN X) 10 with z | z
          · exact z
          · exact absurd (by rw [hr18, show szN X = 10 by omega]; rfl) h2
        have hl3 : X.1 0 < 10 := by rw [hz1]; exact nI_lt hlt (by decide)
        refine wm_aload_n (q := 63) (i := 0) hg dX5_readByte_62 rfl rfl rfl ?_
        refine wm_get (q := 66) hg dX5_readByte_63 rfl fl_X5_42 (by first | assumption | decide | omega | (simp only [nO]; omega)) rfl ?_
        refine wm_aload_n (q := 67) (i := 0) hg dX5_readByte_66 rfl rfl rfl ?_
        refine wm_rget (q := 70) hg dX5_readByte_67 rfl fl_X5_183 rfl ?_
        refine wm_iload_n (q := 71) (i := 2) hg dX5_readByte_70 rfl rfl rfl ?_
        refine wm_bipush (q := 73) 48 hg dX5_readByte_71 rfl (by decide) ?_
        refine wm_isub (q := 74) hg dX5_readByte_73 rfl ?_
        refine wm_rstore (q := 75) (szN X) hg dX5_readByte_74 rfl rfl hr18 (by simp only [alen]; omega) ?_
        refine wm_aload_n (q := 76) (i := 0) hg dX5_readByte_75 rfl rfl rfl ?_
        refine wm_get (q := 79) hg dX5_readByte_76 rfl fl_X5_45 (by first | assumption | decide | omega | (simp only [nO]; omega)) rfl ?_
        refine wm_aload_n (q := 80) (i := 0) hg dX5_readByte_79 rfl rfl rfl ?_
        refine wm_rget (q := 83) hg dX5_readByte_80 rfl fl_X5_183 rfl ?_
        refine wm_iconst (q := 84) 0 hg dX5_readByte_83 rfl (by decide) ?_
        refine wm_rstore (q := 85) (szN X) hg dX5_readByte_84 rfl rfl hr18 (by simp only [alen]; omega) ?_
        refine wm_aload_n (q := 86) (i := 0) hg dX5_readByte_85 rfl rfl rfl ?_
        refine wm_dup (q := 87) hg dX5_readByte_86 rfl rfl ?_
        refine wm_rget (q := 90) hg dX5_readByte_87 rfl fl_X5_183 rfl ?_
        refine wm_iconst (q := 91) 1 hg dX5_readByte_90 rfl (by decide) ?_
        refine wm_iadd (q := 92) hg dX5_readByte_91 rfl ?_
        refine wm_rput (q := 95) hg dX5_readByte_92 rfl fl_X5_183 rfl ?_
        refine wm_goto (q := 135) hg dX5_readByte_95 (by decide) ?_
        refine wm_R (R' := oI (oA (oA R 16 (upd (R.2 16) (szN X) (T.2 0 i - 48))) 17 (upd (R.2 17) (szN X) 0)) 18 (R.1 18 + 1)) (by rw [← hq]; rfl) ?_
        exact wm_vrret hg hr dX5_readByte_135 ⟨((RKp_A _ (by decide)).tr (RKp_A _ (by decide))).tr (RKp_I _ (by decide)), by unfold rdQ; rw [show rdS T i X = (0, piX X (szN X) (T.2 0 i - 48)) from by unfold rdS; rw [if_neg h1, if_pos hl3]]; rw [if_pos rfl]; exact ⟨LD_dig hL hlt h1, (oI_x _ _ (by decide)).trans hw⟩⟩
      · have hl3 : ¬ X.1 0 < 10 := by rw [← hL.2.1, h2]; decide
        refine wm_aload_n (q := 56) (i := 0) hg dX5_readByte_55 rfl rfl rfl ?_
        refine wm_iconst (q := 57) 2 hg dX5_readByte_56 rfl (by decide) ?_
        refine wm_iload_n (q := 58) (i := 1) hg dX5_readByte_57 rfl rfl rfl ?_
        refine wm_callV0 (q := 61) hg dX5_readByte_58 rfl lk_X5_186 (by first | decide | omega) c_X5_fails (by first | assumption | decide | omega | (simp only [nO]; omega)) ⟨rfl, by decide⟩ rfl rfl (Nat.le_of_ble_eq_true rfl) ?_
        exact wm_vrret hg hr dX5_readByte_61 ⟨(RKp_I _ (by decide)).tr (RKp_I _ (by decide)), by unfold rdQ; rw [show rdS T i X = (2, X) from by unfold rdS; rw [if_neg h1, if_neg hl3]]; rw [if_neg (show ¬ (2 : Int32) = 0 by decide)]; exact ⟨by rw [oI_x _ _ (by decide), oI_w], oI_w _ _ _⟩⟩
  refine wm_aload_n (q := 1) (i := 0) hg dX5_readByte_0 rfl rfl rfl ?_
  refine wm_get (q := 4) hg dX5_readByte_1 rfl fl_X5_22 (by first | assumption | decide | omega | (simp only [nO]; omega)) rfl ?_
  refine wm_iload_n (q := 5) (i := 1) hg dX5_readByte_4 rfl rfl rfl ?_
  refine wm_rload (q := 6) i hg dX5_readByte_5 rfl rfl rfl (by simp only [alen]; omega) ?_
  refine wm_istore_n (q := 7) (i := 2) (L' := [(0, _), (1, _), (2, _)]) hg dX5_readByte_6 rfl rfl rfl rfl ?_
  refine wm_iload_n (q := 8) (i := 1) hg dX5_readByte_7 rfl rfl rfl ?_
  refine wm_if_le (q := 33) (q2 := 11) hg dX5_readByte_8 (by decide) rfl (fun hk0 => ?_) (fun hk0 => ?_)
  · refine wm_iconst (q := 34) 0 hg dX5_readByte_33 rfl (by decide) ?_
    refine wm_istore_n (q := 35) (i := 3) (L' := [(0, _), (1, _), (2, _), (3, _)]) hg dX5_readByte_34 rfl rfl rfl rfl ?_
    exact wm_Leq (by have e : i = 0 := by { rcases Nat.eq_zero_or_pos i with z | z; exact z; exact absurd hk0 (nI_ge (a := 0) (b := i) z (by omega)) }; unfold bhv; rw [if_pos e]) hmain
  · have hi1 : 1 ≤ i := by
      rcases Nat.eq_zero_or_pos i with z | z
      · exact absurd (by rw [z]; decide) hk0
      · exact z
    refine wm_aload_n (q := 12) (i := 0) hg dX5_readByte_11 rfl rfl rfl ?_
    refine wm_get (q := 15) hg dX5_readByte_12 rfl fl_X5_22 (by first | assumption | decide | omega | (simp only [nO]; omega)) rfl ?_
    refine wm_iload_n (q := 16) (i := 1) hg dX5_readByte_15 rfl rfl rfl ?_
    refine wm_iconst (q := 17) 1 hg dX5_readByte_16 rfl (by decide) ?_
    refine wm_isub (q := 18) hg dX5_readByte_17 rfl ?_
    refine wm_rload (q := 19) (i - 1) hg dX5_readByte_18 rfl rfl (nsub (a := i) (b := 1) rfl (rfl : (1 : Int32) = nI 1) (by omega)) (by simp only [alen]; omega) ?_
    refine wm_bipush (q := 21) 48 hg dX5_readByte_19 rfl (by decide) ?_
    refine wm_bipush (q := 23) 55 hg dX5_readByte_21 rfl (by decide) ?_
    refine wm_callS1 (q := 26) hg dX5_readByte_23 rfl lk_X5_52 (by first | decide | omega) c_X5_isIn rfl rfl (Nat.le_of_ble_eq_true rfl) ?_
    refine wm_if_eq (q := 33) (q2 := 29) hg dX5_readByte_26 (by decide) rfl (fun hk1 => ?_) (fun hk1 => ?_)
    · refine wm_iconst (q := 34) 0 hg dX5_readByte_33 rfl (by decide) ?_
      refine wm_istore_n (q := 35) (i := 3) (L' := [(0, _), (1, _), (2, _), (3, _)]) hg dX5_readByte_34 rfl rfl rfl rfl ?_
      exact wm_Leq (by unfold bhv; rw [if_neg (show ¬ i = 0 by omega), ← hT.2.1 (i - 1) (by omega), hk1]) hmain
    · refine wm_iconst (q := 30) 1 hg dX5_readByte_29 rfl (by decide) ?_
      refine wm_goto (q := 34) hg dX5_readByte_30 (by decide) ?_
      refine wm_istore_n (q := 35) (i := 3) (L' := [(0, _), (1, _), (2, _), (3, _)]) hg dX5_readByte_34 rfl rfl rfl rfl ?_
      exact wm_Leq (by unfold bhv; rw [if_neg (show ¬ i = 0 by omega), ← hT.2.1 (i - 1) (by omega), (wthn_01 _ _ _).resolve_left hk1]) hmain
def raQ (T C R' : OV) : Prop := if (rdR T C).1 = 0 then LD R' (rdR T C).2.2 ∧ R'.1 19 = -1000000009 ∧ 1 ≤ szN (rdR T C).2.2 else ¬ R'.1 19 = -1000000009 ∧ R'.1 19 = (rdR T C).1 ∧ R'.1 20 = nI (rdR T C).2.1
theorem LD_RK {R R' X : OV} (h : LD R X) (h6 : R'.2 16 = R.2 16) (h7 : R'.2 17 = R.2 17) (h8 : R'.1 18 = R.1 18) : LD R' X := ⟨h.1, h8.trans h.2.1, fun k hk => by rw [h6, h7]; exact h.2.2 k hk⟩
theorem relT_RK {T R R' : OV} (h : relT T R) (k : RKp R R') : relT T R' := ⟨(k.2 6 (by decide) (by decide) (by decide)).trans h.1, fun j hj => by rw [k.1 5 (by decide) (by decide)]; exact h.2.1 j hj, (k.2 7 (by decide) (by decide) (by decide)).trans h.2.2.1, (k.2 8 (by decide) (by decide) (by decide)).trans h.2.2.2⟩
theorem rdS_kind (T : OV) (i : Nat) (X : OV) : (rdS T i X).1 = 0 ∨ (rdS T i X).1 = 1 ∨ (rdS T i X).1 = 2 := by
  unfold rdS
  (repeat' split) <;> first | exact Or.inl rfl | exact Or.inr (Or.inl rfl) | exact Or.inr (Or.inr rfl)
theorem rdS_bh {T X : OV} {i : Nat} (hX : ok10 X) (hb : bhv T i ≠ 0 → 1 ≤ szN X) (h0 : (rdS T i X).1 = 0) : bhv T (i + 1) ≠ 0 → 1 ≤ szN (rdS T i X).2 := by
  rw [bhv_s]
  intro h1
  unfold rdS at h0 ⊢
  rw [if_neg h1] at h0 ⊢
  by_cases h2 : X.1 0 < 10
  · rw [if_pos h2]
    have hz := hX.2
    have hlt : szN X < 10 := by
      rcases Nat.lt_or_ge (szN X) 10 with z | z
      · exact z
      · exact absurd h2 (by rw [hX.1]; exact nI_nlt (a := szN X) (b := 10) z (by omega))
    have e0 : (piX X (szN X) (T.2 0 i - 48)).1 0 = nI (szN X + 1) := by rw [piX_0, hX.1]; exact nI_1 _
    show 1 ≤ szN (piX X (szN X) (T.2 0 i - 48))
    rw [szN_of e0 (by omega)]
    omega
  · rw [if_neg h2] at h0
    exact absurd h0 (show ¬ (2 : Int32) = 0 by decide)
set_option maxRecDepth 100000 in
set_option maxHeartbeats 4000000 in
theorem c_X5_readAll {Γ : GT} {M : Mem} {R T C : OV} (hT0 : relT T R) (ht1 : T.1 1 = nI (txN T)) (hn : txN T ≤ 40) : CtR Γ yX5_readAll cX5_readAll 2 none 2 [.ref (ad Γ 5 0 0)] M R none (fun R' => RKp R R' ∧ raQ T C R') := by
  refine ctr_of (by decide) (Nat.le_of_ble_eq_true rfl) (fun K hg hr => ?_)
  show WM Γ K _ [(0, _)] 0 []
  refine wm_aload_n (q := 1) (i := 0) hg dX5_readAll_0 rfl rfl rfl ?_
  refine wm_iconst (q := 2) 0 hg dX5_readAll_1 rfl (by decide) ?_
  refine wm_rput (q := 5) hg dX5_readAll_2 rfl fl_X5_183 rfl ?_
  refine wm_aload_n (q := 6) (i := 0) hg dX5_readAll_5 rfl rfl rfl ?_
  refine wm_ldc (q := 8) (-1000000009) hg dX5_readAll_6 rfl ld_X5_25 ?_
  refine wm_ldc (q := 10) (-1000000009) hg dX5_readAll_8 rfl ld_X5_25 ?_
  refine wm_callV0 (q := 13) hg dX5_readAll_10 rfl lk_X5_186 (by first | decide | omega) c_X5_fails (by first | assumption | decide | omega | (simp only [nO]; omega)) ⟨rfl, by decide⟩ rfl rfl (Nat.le_of_ble_eq_true rfl) ?_
  refine wm_iconst (q := 14) 0 hg dX5_readAll_13 rfl (by decide) ?_
  refine wm_istore_n (q := 15) (i := 1) (L' := [(0, _), (1, _)]) hg dX5_readAll_14 rfl rfl rfl rfl ?_
  have hflt : ∀ (k : Int32) (R2 : OV), RKp R R2 → ¬ R2.1 19 = -1000000009 → ¬ (rdR T C).1 = 0 → R2.1 19 = (rdR T C).1 → R2.1 20 = nI (rdR T C).2.1 → WM Γ K (sR M R2) [(0, .ref (ad Γ 5 0 0)), (1, .int k)] 15 [] := by
    intro k R2 hk1 hk2 hk3 hk4 hk5
    refine wm_iload_n (q := 16) (i := 1) hg dX5_readAll_15 rfl rfl rfl ?_
    refine wm_aload_n (q := 17) (i := 0) hg dX5_readAll_16 rfl rfl rfl ?_
    refine wm_rget (q := 20) hg dX5_readAll_17 rfl fl_X5_132 rfl ?_
    refine wm_icmp_ge (q := 43) (q2 := 23) hg dX5_readAll_20 (by decide) rfl (fun h1 => ?_) (fun h1 => ?_)
    · refine wm_aload_n (q := 44) (i := 0) hg dX5_readAll_43 rfl rfl rfl ?_
      refine wm_rget (q := 47) hg dX5_readAll_44 rfl fl_X5_177 rfl ?_
      refine wm_ldc (q := 49) (-1000000009) hg dX5_readAll_47 rfl ld_X5_25 ?_
      refine wm_icmp_ne (q := 68) (q2 := 52) hg dX5_readAll_49 (by decide) rfl (fun hy => ?_) (fun hy => ?_)
      · exact wm_vrret hg hr dX5_readAll_68 (⟨hk1, by unfold raQ; rw [if_neg hk3]; exact ⟨hk2, hk4, hk5⟩⟩)
      · exact absurd hy hk2
    · refine wm_aload_n (q := 24) (i := 0) hg dX5_readAll_23 rfl rfl rfl ?_
      refine wm_rget (q := 27) hg dX5_readAll_24 rfl fl_X5_177 rfl ?_
      refine wm_ldc (q := 29) (-1000000009) hg dX5_readAll_27 rfl ld_X5_25 ?_
      refine wm_icmp_ne (q := 43) (q2 := 32) hg dX5_readAll_29 (by decide) rfl (fun hx => ?_) (fun hx => ?_)
      · refine wm_aload_n (q := 44) (i := 0) hg dX5_readAll_43 rfl rfl rfl ?_
        refine wm_rget (q := 47) hg dX5_readAll_44 rfl fl_X5_177 rfl ?_
        refine wm_ldc (q := 49) (-1000000009) hg dX5_readAll_47 rfl ld_X5_25 ?_
        refine wm_icmp_ne (q := 68) (q2 := 52) hg dX5_readAll_49 (by decide) rfl (fun hy => ?_) (fun hy => ?_)
        · exact wm_vrret hg hr dX5_readAll_68 (⟨hk1, by unfold raQ; rw [if_neg hk3]; exact ⟨hk2, hk4, hk5⟩⟩)
        · exact absurd hy hk2
      · exact absurd hx hk2
  suffices hloop : ∀ (n i : Nat), i + n = txN T → ∀ (R1 X : OV), RKp R R1 → LD R1 X → R1.1 19 = -1000000009 → (bhv T i ≠ 0 → 1 ≤ szN X) → rdR T C = rdG T (txN T - i) i X (bhv T i) → WM Γ K (sR M R1) [(0, .ref (ad Γ 5 0 0)), (1, .int (nI i))] 15 [] from hloop (txN T) 0 (by omega) _ (oI C 0 0) ((RKp_I _ (by decide)).tr ((RKp_I _ (by decide)).tr (RKp_I _ (by decide)))) ⟨ok10_0 C, by rw [oI_x _ _ (by decide), oI_x _ _ (by decide), oI_w, oI_w], fun k hk => absurd hk (by rw [szN_0]; exact Nat.not_lt_zero k)⟩ (by rw [oI_x _ _ (by decide), oI_w]) (fun z => absurd rfl z) rfl
  intro n
  induction n with
  | zero =>
    intro i hi R1 X hRK hL hw hb hrd
    have hlen : R1.1 6 = nI (txN T) := ((hRK.2 6 (by decide) (by decide) (by decide)).trans hT0.1).trans ht1
    refine wm_iload_n (q := 16) (i := 1) hg dX5_readAll_15 rfl rfl rfl ?_
    refine wm_aload_n (q := 17) (i := 0) hg dX5_readAll_16 rfl rfl rfl ?_
    refine wm_rget (q := 20) hg dX5_readAll_17 rfl fl_X5_132 rfl ?_
    refine wm_icmp_ge (q := 43) (q2 := 23) hg dX5_readAll_20 (by decide) rfl (fun hb2 => ?_) (fun hb2 => ?_)
    · refine wm_aload_n (q := 44) (i := 0) hg dX5_readAll_43 rfl rfl rfl ?_
      refine wm_rget (q := 47) hg dX5_readAll_44 rfl fl_X5_177 rfl ?_
      refine wm_ldc (q := 49) (-1000000009) hg dX5_readAll_47 rfl ld_X5_25 ?_
      refine wm_icmp_ne (q := 68) (q2 := 52) hg dX5_readAll_49 (by decide) rfl (fun h2 => ?_) (fun h2 => ?_)
      · exact absurd hw h2
      · have hin : i = txN T := by omega
        have hrd2 : rdR T C = (if 0 < X.1 0 then 0 else 3, txN T, X) := by rw [hrd, hin, Nat.sub_self]; rfl
        have hz := hL.1
        have hz2 := hz.2
        refine wm_aload_n (q := 53) (i := 0) hg dX5_readAll_52 rfl rfl rfl ?_
        refine wm_rget (q := 56) hg dX5_readAll_53 rfl fl_X5_183 rfl ?_
        refine wm_if_ne (q := 68) (q2 := 59) hg dX5_readAll_56 (by decide) rfl (fun h3 => ?_) (fun h3 => ?_)
        · have hs1 : 1 ≤ szN X := Nat.pos_of_ne_zero (fun z => h3 (by rw [hL.2.1, hz.1, z]; rfl))
          have hp : 0 < X.1 0 := by rw [hz.1]; exact nI_lt (a := 0) (by omega) (by omega)
          rw [if_pos hp] at hrd2
          exact wm_vrret hg hr dX5_readAll_68 ⟨hRK, by unfold raQ; rw [hrd2, if_pos rfl]; exact ⟨hL, hw, hs1⟩⟩
        · have hs0 : szN X = 0 := by have e : nI (szN X) = nI 0 := by { rw [← hz.1, ← hL.2.1, h3]; rfl }; exact (nI_eq (by omega) (by omega)).mp e
          have hp : ¬ 0 < X.1 0 := by rw [hz.1, hs0]; decide
          rw [if_neg hp] at hrd2
          refine wm_aload_n (q := 60) (i := 0) hg dX5_readAll_59 rfl rfl rfl ?_
          refine wm_iconst (q := 61) 3 hg dX5_readAll_60 rfl (by decide) ?_
          refine wm_aload_n (q := 62) (i := 0) hg dX5_readAll_61 rfl rfl rfl ?_
          refine wm_rget (q := 65) hg dX5_readAll_62 rfl fl_X5_132 rfl ?_
          refine wm_callV0 (q := 68) hg dX5_readAll_65 rfl lk_X5_186 (by first | decide | omega) c_X5_fails (by first | assumption | decide | omega | (simp only [nO]; omega)) ⟨rfl, by decide⟩ rfl rfl (Nat.le_of_ble_eq_true rfl) ?_
          exact wm_vrret hg hr dX5_readAll_68 ⟨hRK.tr ((RKp_I _ (by decide)).tr (RKp_I _ (by decide))), by unfold raQ; rw [hrd2, if_neg (show ¬ (3 : Int32) = 0 by decide)]; exact ⟨by rw [oI_x _ _ (by decide), oI_w]; decide, by rw [oI_x _ _ (by decide), oI_w], by rw [oI_w]; exact hlen⟩⟩
    · exact absurd (lpLe hlen (by omega) (by omega)) hb2
  | succ n ih =>
    intro i hi R1 X hRK hL hw hb hrd
    have hlen : R1.1 6 = nI (txN T) := ((hRK.2 6 (by decide) (by decide) (by decide)).trans hT0.1).trans ht1
    refine wm_iload_n (q := 16) (i := 1) hg dX5_readAll_15 rfl rfl rfl ?_
    refine wm_aload_n (q := 17) (i := 0) hg dX5_readAll_16 rfl rfl rfl ?_
    refine wm_rget (q := 20) hg dX5_readAll_17 rfl fl_X5_132 rfl ?_
    refine wm_icmp_ge (q := 43) (q2 := 23) hg dX5_readAll_20 (by decide) rfl (fun hb2 => ?_) (fun hb2 => ?_)
    · exact absurd hb2 (lpLt hlen (by omega) (by omega))
    · refine wm_aload_n (q := 24) (i := 0) hg dX5_readAll_23 rfl rfl rfl ?_
      refine wm_rget (q := 27) hg dX5_readAll_24 rfl fl_X5_177 rfl ?_
      refine wm_ldc (q := 29) (-1000000009) hg dX5_readAll_27 rfl ld_X5_25 ?_
      refine wm_icmp_ne (q := 43) (q2 := 32) hg dX5_readAll_29 (by decide) rfl (fun hx => ?_) (fun hx => ?_)
      · exact absurd hw hx
      · refine wm_aload_n (q := 33) (i := 0) hg dX5_readAll_32 rfl rfl rfl ?_
        have hi2 : i < txN T := by omega
        refine wm_iload_n (q := 34) (i := 1) hg dX5_readAll_33 rfl rfl rfl ?_
        refine wm_callR0 (q := 37) hg dX5_readAll_34 rfl lk_X5_190 (by first | decide | omega) (c_X5_readByte (T := T) (X := X) rfl (relT_RK hT0 hRK) hi2 hn hL hb hw) (by first | assumption | decide | omega | (simp only [nO]; omega)) ⟨rfl, by decide⟩ rfl rfl (Nat.le_of_ble_eq_true rfl) (fun R2 ⟨hRK2, hQ2⟩ => ?_)
        refine wm_iinc (q := 40) (L' := [(0, _), (1, _)]) (nI (i + 1)) hg dX5_readAll_37 rfl rfl (nadd rfl rfl) rfl rfl ?_
        refine wm_goto (q := 15) hg dX5_readAll_40 (by decide) ?_
        by_cases hk0 : (rdS T i X).1 = 0
        · unfold rdQ at hQ2; rw [if_pos hk0] at hQ2
          exact ih (i + 1) (by omega) R2 (rdS T i X).2 (hRK.tr hRK2) hQ2.1 hQ2.2 (rdS_bh hL.1 hb hk0) (by rw [hrd, show txN T - i = txN T - (i + 1) + 1 by omega, rdG_s, if_pos hk0])
        · unfold rdQ at hQ2; rw [if_neg hk0] at hQ2
          have hrd3 : rdR T C = ((rdS T i X).1, i, X) := by rw [hrd, show txN T - i = txN T - (i + 1) + 1 by omega, rdG_s, if_neg hk0]
          exact hflt _ R2 (hRK.tr hRK2) (by rw [hQ2.1]; rcases rdS_kind T i X with z | z | z <;> rw [z] <;> decide) (by rw [hrd3]; exact hk0) (by rw [hrd3]; exact hQ2.1) (by rw [hrd3]; exact hQ2.2)
