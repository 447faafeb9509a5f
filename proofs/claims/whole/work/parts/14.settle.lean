/-! ===== settling ===== -/
def soM (up dn : Int32) : Int32 := if up < dn then dn else up
def soU (X : OV) (i : Nat) : Int32 := part X (nI i) (X.2 1 i) - part X (nI i) (X.2 1 i + 1)
def soD (X : OV) (i : Nat) : Int32 := part X (nI i) (X.2 1 i) - part X (nI i) (X.2 1 i - 1)
def soS (X : OV) (i : Nat) (b : Int32 × Int32 × Int32) : Int32 × Int32 × Int32 :=
  if X.2 2 i = 1 then b else if soM (soU X i) (soD X i) ≤ b.2.2 then b else (nI i, if soU X i < soD X i then -1 else 1, soM (soU X i) (soD X i))
def soA (X : OV) : Nat → Int32 × Int32 × Int32
  | 0 => (-1, 0, X.1 5)
  | i + 1 => soS X i (soA X i)
def soB (X : OV) : Int32 × Int32 × Int32 := soA X (szN X)
theorem soA_h {X : OV} {i : Nat} (h1 : X.2 2 i = 1) : soA X (i + 1) = soA X i := if_pos h1
theorem soA_k {X : OV} {i : Nat} (h1 : ¬ X.2 2 i = 1) (h2 : soM (soU X i) (soD X i) ≤ (soA X i).2.2) : soA X (i + 1) = soA X i := (if_neg h1).trans (if_pos h2)
theorem soA_p {X : OV} {i : Nat} (h1 : ¬ X.2 2 i = 1) (h2 : ¬ soM (soU X i) (soD X i) ≤ (soA X i).2.2) (h3 : soU X i < soD X i) : soA X (i + 1) = (nI i, -1, soM (soU X i) (soD X i)) := ((if_neg h1).trans (if_neg h2)).trans (by rw [if_pos h3])
theorem soA_q {X : OV} {i : Nat} (h1 : ¬ X.2 2 i = 1) (h2 : ¬ soM (soU X i) (soD X i) ≤ (soA X i).2.2) (h3 : ¬ soU X i < soD X i) : soA X (i + 1) = (nI i, 1, soM (soU X i) (soD X i)) := ((if_neg h1).trans (if_neg h2)).trans (by rw [if_neg h3])
theorem soA_lt (X : OV) : ∀ i, i < 2 ^ 31 → (soA X i).1 < 0 ∨ (soA X i).1.toNatClampNeg < i
  | 0, _ => Or.inl (show (-1 : Int32) < 0 by decide)
  | i + 1, h => by
    have h0 := soA_lt X i (by omega)
    have hn : (nI i).toNatClampNeg < i + 1 := by rw [nI_clamp (by omega)]; omega
    by_cases h1 : X.2 2 i = 1
    · rw [soA_h h1]; exact h0.imp id (fun q => by omega)
    · by_cases h2 : soM (soU X i) (soD X i) ≤ (soA X i).2.2
      · rw [soA_k h1 h2]; exact h0.imp id (fun q => by omega)
      · by_cases h3 : soU X i < soD X i
        · rw [soA_p h1 h2 h3]; exact Or.inr hn
        · rw [soA_q h1 h2 h3]; exact Or.inr hn
def tn1 (X : OV) : OV := turnX X (soB X).1.toNatClampNeg (soB X).2.1
def en1 (X B : OV) : OV := enX B (soB X).1 (soB X).2.1 (soB X).2.2
def stX : Nat → OV → Nat × OV
  | 0, X => (0, X)
  | f + 1, X => if (soB X).1 < 0 then (0, X) else ((stX f (tn1 X)).1 + 1, (stX f (tn1 X)).2)
def stB : Nat → OV → OV → Nat × OV × OV
  | 0, X, B => (0, X, B)
  | f + 1, X, B => if (soB X).1 < 0 then (0, X, B) else ((stB f (tn1 X) (en1 X B)).1 + 1, (stB f (tn1 X) (en1 X B)).2)
theorem tn1_1 (X : OV) : (tn1 X).1 = X.1 := rfl
theorem okB_en {B : OV} (hb : okB B) (m d f : Int32) : okB (enX B m d f) := by
  have key : ∀ (B : OV), B.1 4 = nI (lgN B) → lgN B < 30 → okB (enY B m d f) := by
    intro B h1 h2
    have e : (enY B m d f).1 4 = nI (lgN B + 1) := by
      simp only [enY, upd]
      show B.1 4 + 1 = _
      rw [h1]
      exact nI_1 _
    have e2 : lgN (enY B m d f) = lgN B + 1 := by
      unfold lgN at *
      rw [e, nI_clamp (by omega)]
    exact ⟨by rw [e, e2], by omega⟩
  unfold enX
  split
  · next h =>
    refine key B hb.1 ?_
    rcases Nat.lt_or_ge (lgN B) 30 with q | q
    · exact q
    · exact absurd h (by rw [hb.1]; exact nI_nlt q (by have := hb.2; omega))
  · exact key (doX B) rfl (by rw [lgN_do]; decide)
set_option maxRecDepth 100000 in
set_option maxHeartbeats 4000000 in
theorem c_settleOnce_n0 {Γ : GT} {M : Mem} {c : Nat} (hc : c < 15) (hz : ok10 (M.1 1 c)) (hs : (soB (M.1 1 c)).1 < 0) : Ct Γ yX1_settleOnce cX1_settleOnce 9 (some .boolean) 3 [.ref (ad Γ 1 c 0), .null] M (some (.int 0)) M := by
  refine ct_of (by decide) (Nat.le_of_ble_eq_true rfl) (fun K hg hr => ?_)
  show WM Γ K _ [(0, _), (1, _)] 0 []
  have hz2 := hz.2
  refine wm_iconst (q := 1) (-1) hg dX1_settleOnce_0 rfl (by decide) ?_
  refine wm_istore_n (q := 2) (i := 2) (L' := [(0, _), (1, _), (2, _)]) hg dX1_settleOnce_1 rfl rfl rfl rfl ?_
  refine wm_iconst (q := 3) 0 hg dX1_settleOnce_2 rfl (by decide) ?_
  refine wm_istore_n (q := 4) (i := 3) (L' := [(0, _), (1, _), (2, _), (3, _)]) hg dX1_settleOnce_3 rfl rfl rfl rfl ?_
  refine wm_aload_n (q := 5) (i := 0) hg dX1_settleOnce_4 rfl rfl rfl ?_
  refine wm_get (q := 8) hg dX1_settleOnce_5 rfl fl_X1_28 (by first | assumption | decide | omega | (simp only [nO]; omega)) rfl ?_
  refine wm_istore (q := 10) (i := 4) (L' := [(0, _), (1, _), (2, _), (3, _), (4, _)]) hg dX1_settleOnce_8 rfl rfl rfl ?_
  refine wm_iconst (q := 11) 0 hg dX1_settleOnce_10 rfl (by decide) ?_
  refine wm_istore (q := 13) (i := 5) (L' := [(0, _), (1, _), (2, _), (3, _), (4, _), (5, _)]) hg dX1_settleOnce_11 rfl rfl rfl ?_
  suffices hloop : ∀ (n i : Nat), i + n = (szN (M.1 1 c)) → WM Γ K M [(0, .ref (ad Γ 1 c 0)), (1, .null), (2, .int (soA (M.1 1 c) i).1), (3, .int (soA (M.1 1 c) i).2.1), (4, .int (soA (M.1 1 c) i).2.2), (5, .int (nI i))] 13 [] from hloop (szN (M.1 1 c)) 0 (by omega)
  intro n
  induction n with
  | zero =>
    intro i hi 
    refine wm_iload (q := 15) (i := 5) hg dX1_settleOnce_13 rfl rfl ?_
    refine wm_aload_n (q := 16) (i := 0) hg dX1_settleOnce_15 rfl rfl rfl ?_
    refine wm_get (q := 19) hg dX1_settleOnce_16 rfl fl_X1_9 (by first | assumption | decide | omega | (simp only [nO]; omega)) rfl ?_
    refine wm_icmp_ge (q := 134) (q2 := 22) hg dX1_settleOnce_19 (by decide) rfl (fun hb => ?_) (fun hb => ?_)
    · have he : i = szN (M.1 1 c) := by omega
      subst he
      refine wm_iload_n (q := 135) (i := 2) hg dX1_settleOnce_134 rfl rfl rfl ?_
      refine wm_if_ge (q := 140) (q2 := 138) hg dX1_settleOnce_135 (by decide) rfl (fun hq => ?_) (fun hq => ?_)
      · exact absurd hs (Int32.not_lt.mpr hq)
      · refine wm_iconst (q := 139) 0 hg dX1_settleOnce_138 rfl (by decide) ?_
        exact wm_zret hg hr dX1_settleOnce_139 (rfl) (rfl) (by decide)
    · exact absurd hb (fun h => h (lpLe hz.1 (by omega) (by omega)))
  | succ n ih =>
    intro i hi 
    refine wm_iload (q := 15) (i := 5) hg dX1_settleOnce_13 rfl rfl ?_
    refine wm_aload_n (q := 16) (i := 0) hg dX1_settleOnce_15 rfl rfl rfl ?_
    refine wm_get (q := 19) hg dX1_settleOnce_16 rfl fl_X1_9 (by first | assumption | decide | omega | (simp only [nO]; omega)) rfl ?_
    refine wm_icmp_ge (q := 134) (q2 := 22) hg dX1_settleOnce_19 (by decide) rfl (fun hb => ?_) (fun hb => ?_)
    · exact absurd hb (lpLt hz.1 (by omega) (by omega))
    · refine wm_aload_n (q := 23) (i := 0) hg dX1_settleOnce_22 rfl rfl rfl ?_
      refine wm_get (q := 26) hg dX1_settleOnce_23 rfl fl_X1_19 (by first | assumption | decide | omega | (simp only [nO]; omega)) rfl ?_
      refine wm_iload (q := 28) (i := 5) hg dX1_settleOnce_26 rfl rfl ?_
      refine wm_iaload (q := 29) i hg dX1_settleOnce_28 rfl (by first | assumption | decide | omega | (simp only [nO]; omega)) rfl rfl (by simp only [alen]; omega) ?_
      refine wm_iconst (q := 30) 1 hg dX1_settleOnce_29 rfl (by decide) ?_
      refine wm_icmp_ne (q := 36) (q2 := 33) hg dX1_settleOnce_30 (by decide) rfl (fun h1 => ?_) (fun h1 => ?_)
      · refine wm_aload_n (q := 37) (i := 0) hg dX1_settleOnce_36 rfl rfl rfl ?_
        refine wm_iload (q := 39) (i := 5) hg dX1_settleOnce_37 rfl rfl ?_
        refine wm_aload_n (q := 40) (i := 0) hg dX1_settleOnce_39 rfl rfl rfl ?_
        refine wm_get (q := 43) hg dX1_settleOnce_40 rfl fl_X1_15 (by first | assumption | decide | omega | (simp only [nO]; omega)) rfl ?_
        refine wm_iload (q := 45) (i := 5) hg dX1_settleOnce_43 rfl rfl ?_
        refine wm_iaload (q := 46) i hg dX1_settleOnce_45 rfl (by first | assumption | decide | omega | (simp only [nO]; omega)) rfl rfl (by simp only [alen]; omega) ?_
        refine wm_callV1 (q := 49) hg dX1_settleOnce_46 rfl lk_X1_69 (by first | decide | omega) (c_X1_partOf (by first | assumption | decide | omega) (by first | assumption | decide | omega)) (by first | assumption | decide | omega | (simp only [nO]; omega)) ⟨rfl, by decide⟩ rfl rfl (Nat.le_of_ble_eq_true rfl) ?_
        refine wm_istore (q := 51) (i := 6) (L' := [(0, _), (1, _), (2, _), (3, _), (4, _), (5, _), (6, _)]) hg dX1_settleOnce_49 rfl rfl rfl ?_
        refine wm_iload (q := 53) (i := 6) hg dX1_settleOnce_51 rfl rfl ?_
        refine wm_aload_n (q := 54) (i := 0) hg dX1_settleOnce_53 rfl rfl rfl ?_
        refine wm_iload (q := 56) (i := 5) hg dX1_settleOnce_54 rfl rfl ?_
        refine wm_aload_n (q := 57) (i := 0) hg dX1_settleOnce_56 rfl rfl rfl ?_
        refine wm_get (q := 60) hg dX1_settleOnce_57 rfl fl_X1_15 (by first | assumption | decide | omega | (simp only [nO]; omega)) rfl ?_
        refine wm_iload (q := 62) (i := 5) hg dX1_settleOnce_60 rfl rfl ?_
        refine wm_iaload (q := 63) i hg dX1_settleOnce_62 rfl (by first | assumption | decide | omega | (simp only [nO]; omega)) rfl rfl (by simp only [alen]; omega) ?_
        refine wm_iconst (q := 64) 1 hg dX1_settleOnce_63 rfl (by decide) ?_
        refine wm_iadd (q := 65) hg dX1_settleOnce_64 rfl ?_
        refine wm_callV1 (q := 68) hg dX1_settleOnce_65 rfl lk_X1_69 (by first | decide | omega) (c_X1_partOf (by first | assumption | decide | omega) (by first | assumption | decide | omega)) (by first | assumption | decide | omega | (simp only [nO]; omega)) ⟨rfl, by decide⟩ rfl rfl (Nat.le_of_ble_eq_true rfl) ?_
        refine wm_isub (q := 69) hg dX1_settleOnce_68 rfl ?_
        refine wm_istore (q := 71) (i := 7) (L' := [(0, _), (1, _), (2, _), (3, _), (4, _), (5, _), (6, _), (7, _)]) hg dX1_settleOnce_69 rfl rfl rfl ?_
        refine wm_iload (q := 73) (i := 6) hg dX1_settleOnce_71 rfl rfl ?_
        refine wm_aload_n (q := 74) (i := 0) hg dX1_settleOnce_73 rfl rfl rfl ?_
        refine wm_iload (q := 76) (i := 5) hg dX1_settleOnce_74 rfl rfl ?_
        refine wm_aload_n (q := 77) (i := 0) hg dX1_settleOnce_76 rfl rfl rfl ?_
        refine wm_get (q := 80) hg dX1_settleOnce_77 rfl fl_X1_15 (by first | assumption | decide | omega | (simp only [nO]; omega)) rfl ?_
        refine wm_iload (q := 82) (i := 5) hg dX1_settleOnce_80 rfl rfl ?_
        refine wm_iaload (q := 83) i hg dX1_settleOnce_82 rfl (by first | assumption | decide | omega | (simp only [nO]; omega)) rfl rfl (by simp only [alen]; omega) ?_
        refine wm_iconst (q := 84) 1 hg dX1_settleOnce_83 rfl (by decide) ?_
        refine wm_isub (q := 85) hg dX1_settleOnce_84 rfl ?_
        refine wm_callV1 (q := 88) hg dX1_settleOnce_85 rfl lk_X1_69 (by first | decide | omega) (c_X1_partOf (by first | assumption | decide | omega) (by first | assumption | decide | omega)) (by first | assumption | decide | omega | (simp only [nO]; omega)) ⟨rfl, by decide⟩ rfl rfl (Nat.le_of_ble_eq_true rfl) ?_
        refine wm_isub (q := 89) hg dX1_settleOnce_88 rfl ?_
        refine wm_istore (q := 91) (i := 8) (L' := [(0, _), (1, _), (2, _), (3, _), (4, _), (5, _), (6, _), (7, _), (8, _)]) hg dX1_settleOnce_89 rfl rfl rfl ?_
        refine wm_iload (q := 93) (i := 7) hg dX1_settleOnce_91 rfl rfl ?_
        refine wm_iload (q := 95) (i := 8) hg dX1_settleOnce_93 rfl rfl ?_
        refine wm_max (q := 98) hg dX1_settleOnce_95 rfl ml_X1_82 (by decide) (Nat.le_of_ble_eq_true rfl) ?_
        refine wm_iload (q := 100) (i := 4) hg dX1_settleOnce_98 rfl rfl ?_
        refine wm_icmp_le (q := 128) (q2 := 103) hg dX1_settleOnce_100 (by decide) rfl (fun h2 => ?_) (fun h2 => ?_)
        · refine wm_iinc (q := 131) (L' := [(0, _), (1, _), (2, _), (3, _), (4, _), (5, _), (6, _), (7, _), (8, _)]) (nI (i + 1)) hg dX1_settleOnce_128 rfl rfl (nadd rfl rfl) rfl rfl ?_
          refine wm_goto (q := 13) hg dX1_settleOnce_131 (by decide) ?_
          refine wm_L (L' := [(0, _), (1, _), (2, _), (3, _), (4, _), (5, _)]) [0, 1, 2, 3, 4, 5] rfl ?_
          exact wm_Leq (by first | (simp only [soA_h h1]; done) | (simp only [soA_k h1 h2]; done) | (simp only [soA_p h1 h2 h3]; rfl) | (simp only [soA_q h1 h2 h3]; rfl)) (ih (i + 1) (by omega))
        · refine wm_iload (q := 105) (i := 5) hg dX1_settleOnce_103 rfl rfl ?_
          refine wm_istore_n (q := 106) (i := 2) (L' := [(0, _), (1, _), (2, _), (3, _), (4, _), (5, _), (6, _), (7, _), (8, _)]) hg dX1_settleOnce_105 rfl rfl rfl rfl ?_
          refine wm_iload (q := 108) (i := 7) hg dX1_settleOnce_106 rfl rfl ?_
          refine wm_iload (q := 110) (i := 8) hg dX1_settleOnce_108 rfl rfl ?_
          refine wm_icmp_lt (q := 117) (q2 := 113) hg dX1_settleOnce_110 (by decide) rfl (fun h3 => ?_) (fun h3 => ?_)
          · refine wm_iconst (q := 118) (-1) hg dX1_settleOnce_117 rfl (by decide) ?_
            refine wm_istore_n (q := 119) (i := 3) (L' := [(0, _), (1, _), (2, _), (3, _), (4, _), (5, _), (6, _), (7, _), (8, _)]) hg dX1_settleOnce_118 rfl rfl rfl rfl ?_
            refine wm_iload (q := 121) (i := 7) hg dX1_settleOnce_119 rfl rfl ?_
            refine wm_iload (q := 123) (i := 8) hg dX1_settleOnce_121 rfl rfl ?_
            refine wm_max (q := 126) hg dX1_settleOnce_123 rfl ml_X1_82 (by decide) (Nat.le_of_ble_eq_true rfl) ?_
            refine wm_istore (q := 128) (i := 4) (L' := [(0, _), (1, _), (2, _), (3, _), (4, _), (5, _), (6, _), (7, _), (8, _)]) hg dX1_settleOnce_126 rfl rfl rfl ?_
            refine wm_iinc (q := 131) (L' := [(0, _), (1, _), (2, _), (3, _), (4, _), (5, _), (6, _), (7, _), (8, _)]) (nI (i + 1)) hg dX1_settleOnce_128 rfl rfl (nadd rfl rfl) rfl rfl ?_
            refine wm_goto (q := 13) hg dX1_settleOnce_131 (by decide) ?_
            refine wm_L (L' := [(0, _), (1, _), (2, _), (3, _), (4, _), (5, _)]) [0, 1, 2, 3, 4, 5] rfl ?_
            exact wm_Leq (by first | (simp only [soA_h h1]; done) | (simp only [soA_k h1 h2]; done) | (simp only [soA_p h1 h2 h3]; rfl) | (simp only [soA_q h1 h2 h3]; rfl)) (ih (i + 1) (by omega))
          · refine wm_iconst (q := 114) 1 hg dX1_settleOnce_113 rfl (by decide) ?_
            refine wm_goto (q := 118) hg dX1_settleOnce_114 (by decide) ?_
            refine wm_istore_n (q := 119) (i := 3) (L' := [(0, _), (1, _), (2, _), (3, _), (4, _), (5, _), (6, _), (7, _), (8, _)]) hg dX1_settleOnce_118 rfl rfl rfl rfl ?_
            refine wm_iload (q := 121) (i := 7) hg dX1_settleOnce_119 rfl rfl ?_
            refine wm_iload (q := 123) (i := 8) hg dX1_settleOnce_121 rfl rfl ?_
            refine wm_max (q := 126) hg dX1_settleOnce_123 rfl ml_X1_82 (by decide) (Nat.le_of_ble_eq_true rfl) ?_
            refine wm_istore (q := 128) (i := 4) (L' := [(0, _), (1, _), (2, _), (3, _), (4, _), (5, _), (6, _), (7, _), (8, _)]) hg dX1_settleOnce_126 rfl rfl rfl ?_
            refine wm_iinc (q := 131) (L' := [(0, _), (1, _), (2, _), (3, _), (4, _), (5, _), (6, _), (7, _), (8, _)]) (nI (i + 1)) hg dX1_settleOnce_128 rfl rfl (nadd rfl rfl) rfl rfl ?_
            refine wm_goto (q := 13) hg dX1_settleOnce_131 (by decide) ?_
            refine wm_L (L' := [(0, _), (1, _), (2, _), (3, _), (4, _), (5, _)]) [0, 1, 2, 3, 4, 5] rfl ?_
            exact wm_Leq (by first | (simp only [soA_h h1]; done) | (simp only [soA_k h1 h2]; done) | (simp only [soA_p h1 h2 h3]; rfl) | (simp only [soA_q h1 h2 h3]; rfl)) (ih (i + 1) (by omega))
      · refine wm_goto (q := 128) hg dX1_settleOnce_33 (by decide) ?_
        refine wm_iinc (q := 131) (L' := [(0, _), (1, _), (2, _), (3, _), (4, _), (5, _)]) (nI (i + 1)) hg dX1_settleOnce_128 rfl rfl (nadd rfl rfl) rfl rfl ?_
        refine wm_goto (q := 13) hg dX1_settleOnce_131 (by decide) ?_
        exact wm_Leq (by first | (simp only [soA_h h1]; done) | (simp only [soA_k h1 h2]; done) | (simp only [soA_p h1 h2 h3]; rfl) | (simp only [soA_q h1 h2 h3]; rfl)) (ih (i + 1) (by omega))
set_option maxRecDepth 100000 in
set_option maxHeartbeats 4000000 in
theorem c_settleOnce_n1 {Γ : GT} {M : Mem} {c : Nat} (hc : c < 15) (hz : ok10 (M.1 1 c)) (hs : ¬ (soB (M.1 1 c)).1 < 0) : Ct Γ yX1_settleOnce cX1_settleOnce 9 (some .boolean) 3 [.ref (ad Γ 1 c 0), .null] M (some (.int 1)) (sO M 1 c (tn1 (M.1 1 c))) := by
  refine ct_of (by decide) (Nat.le_of_ble_eq_true rfl) (fun K hg hr => ?_)
  show WM Γ K _ [(0, _), (1, _)] 0 []
  have hz2 := hz.2
  refine wm_iconst (q := 1) (-1) hg dX1_settleOnce_0 rfl (by decide) ?_
  refine wm_istore_n (q := 2) (i := 2) (L' := [(0, _), (1, _), (2, _)]) hg dX1_settleOnce_1 rfl rfl rfl rfl ?_
  refine wm_iconst (q := 3) 0 hg dX1_settleOnce_2 rfl (by decide) ?_
  refine wm_istore_n (q := 4) (i := 3) (L' := [(0, _), (1, _), (2, _), (3, _)]) hg dX1_settleOnce_3 rfl rfl rfl rfl ?_
  refine wm_aload_n (q := 5) (i := 0) hg dX1_settleOnce_4 rfl rfl rfl ?_
  refine wm_get (q := 8) hg dX1_settleOnce_5 rfl fl_X1_28 (by first | assumption | decide | omega | (simp only [nO]; omega)) rfl ?_
  refine wm_istore (q := 10) (i := 4) (L' := [(0, _), (1, _), (2, _), (3, _), (4, _)]) hg dX1_settleOnce_8 rfl rfl rfl ?_
  refine wm_iconst (q := 11) 0 hg dX1_settleOnce_10 rfl (by decide) ?_
  refine wm_istore (q := 13) (i := 5) (L' := [(0, _), (1, _), (2, _), (3, _), (4, _), (5, _)]) hg dX1_settleOnce_11 rfl rfl rfl ?_
  suffices hloop : ∀ (n i : Nat), i + n = (szN (M.1 1 c)) → WM Γ K M [(0, .ref (ad Γ 1 c 0)), (1, .null), (2, .int (soA (M.1 1 c) i).1), (3, .int (soA (M.1 1 c) i).2.1), (4, .int (soA (M.1 1 c) i).2.2), (5, .int (nI i))] 13 [] from hloop (szN (M.1 1 c)) 0 (by omega)
  intro n
  induction n with
  | zero =>
    intro i hi 
    refine wm_iload (q := 15) (i := 5) hg dX1_settleOnce_13 rfl rfl ?_
    refine wm_aload_n (q := 16) (i := 0) hg dX1_settleOnce_15 rfl rfl rfl ?_
    refine wm_get (q := 19) hg dX1_settleOnce_16 rfl fl_X1_9 (by first | assumption | decide | omega | (simp only [nO]; omega)) rfl ?_
    refine wm_icmp_ge (q := 134) (q2 := 22) hg dX1_settleOnce_19 (by decide) rfl (fun hb => ?_) (fun hb => ?_)
    · have he : i = szN (M.1 1 c) := by omega
      subst he
      refine wm_iload_n (q := 135) (i := 2) hg dX1_settleOnce_134 rfl rfl rfl ?_
      refine wm_if_ge (q := 140) (q2 := 138) hg dX1_settleOnce_135 (by decide) rfl (fun hq => ?_) (fun hq => ?_)
      · have ht : (soB (M.1 1 c)).1.toNatClampNeg < szN (M.1 1 c) := by
          rcases soA_lt (M.1 1 c) (szN (M.1 1 c)) (by omega) with q | q
          · exact absurd q hs
          · exact q
        refine wm_aload_n (q := 141) (i := 0) hg dX1_settleOnce_140 rfl rfl rfl ?_
        refine wm_iload_n (q := 142) (i := 2) hg dX1_settleOnce_141 rfl rfl rfl ?_
        refine wm_iload_n (q := 143) (i := 3) hg dX1_settleOnce_142 rfl rfl rfl ?_
        refine wm_callV0 (q := 146) hg dX1_settleOnce_143 rfl lk_X1_87 (by first | decide | omega) (c_X1_turn (t := (soB (M.1 1 c)).1.toNatClampNeg) hc (nI_self hs) (by omega)) (by first | assumption | decide | omega | (simp only [nO]; omega)) ⟨rfl, by decide⟩ rfl rfl (Nat.le_of_ble_eq_true rfl) ?_
        refine wm_aload_nN (q := 147) (i := 1) hg dX1_settleOnce_146 rfl rfl rfl ?_
        refine wm_ifnullN (q := 158) hg dX1_settleOnce_147 (by decide) ?_
        refine wm_iconst (q := 159) 1 hg dX1_settleOnce_158 rfl (by decide) ?_
        exact wm_zret hg hr dX1_settleOnce_159 rfl rfl (by decide)
      · exact absurd (Int32.not_le.mp hq) hs
    · exact absurd hb (fun h => h (lpLe hz.1 (by omega) (by omega)))
  | succ n ih =>
    intro i hi 
    refine wm_iload (q := 15) (i := 5) hg dX1_settleOnce_13 rfl rfl ?_
    refine wm_aload_n (q := 16) (i := 0) hg dX1_settleOnce_15 rfl rfl rfl ?_
    refine wm_get (q := 19) hg dX1_settleOnce_16 rfl fl_X1_9 (by first | assumption | decide | omega | (simp only [nO]; omega)) rfl ?_
    refine wm_icmp_ge (q := 134) (q2 := 22) hg dX1_settleOnce_19 (by decide) rfl (fun hb => ?_) (fun hb => ?_)
    · exact absurd hb (lpLt hz.1 (by omega) (by omega))
    · refine wm_aload_n (q := 23) (i := 0) hg dX1_settleOnce_22 rfl rfl rfl ?_
      refine wm_get (q := 26) hg dX1_settleOnce_23 rfl fl_X1_19 (by first | assumption | decide | omega | (simp only [nO]; omega)) rfl ?_
      refine wm_iload (q := 28) (i := 5) hg dX1_settleOnce_26 rfl rfl ?_
      refine wm_iaload (q := 29) i hg dX1_settleOnce_28 rfl (by first | assumption | decide | omega | (simp only [nO]; omega)) rfl rfl (by simp only [alen]; omega) ?_
      refine wm_iconst (q := 30) 1 hg dX1_settleOnce_29 rfl (by decide) ?_
      refine wm_icmp_ne (q := 36) (q2 := 33) hg dX1_settleOnce_30 (by decide) rfl (fun h1 => ?_) (fun h1 => ?_)
      · refine wm_aload_n (q := 37) (i := 0) hg dX1_settleOnce_36 rfl rfl rfl ?_
        refine wm_iload (q := 39) (i := 5) hg dX1_settleOnce_37 rfl rfl ?_
        refine wm_aload_n (q := 40) (i := 0) hg dX1_settleOnce_39 rfl rfl rfl ?_
        refine wm_get (q := 43) hg dX1_settleOnce_40 rfl fl_X1_15 (by first | assumption | decide | omega | (simp only [nO]; omega)) rfl ?_
        refine wm_iload (q := 45) (i := 5) hg dX1_settleOnce_43 rfl rfl ?_
        refine wm_iaload (q := 46) i hg dX1_settleOnce_45 rfl (by first | assumption | decide | omega | (simp only [nO]; omega)) rfl rfl (by simp only [alen]; omega) ?_
        refine wm_callV1 (q := 49) hg dX1_settleOnce_46 rfl lk_X1_69 (by first | decide | omega) (c_X1_partOf (by first | assumption | decide | omega) (by first | assumption | decide | omega)) (by first | assumption | decide | omega | (simp only [nO]; omega)) ⟨rfl, by decide⟩ rfl rfl (Nat.le_of_ble_eq_true rfl) ?_
        refine wm_istore (q := 51) (i := 6) (L' := [(0, _), (1, _), (2, _), (3, _), (4, _), (5, _), (6, _)]) hg dX1_settleOnce_49 rfl rfl rfl ?_
        refine wm_iload (q := 53) (i := 6) hg dX1_settleOnce_51 rfl rfl ?_
        refine wm_aload_n (q := 54) (i := 0) hg dX1_settleOnce_53 rfl rfl rfl ?_
        refine wm_iload (q := 56) (i := 5) hg dX1_settleOnce_54 rfl rfl ?_
        refine wm_aload_n (q := 57) (i := 0) hg dX1_settleOnce_56 rfl rfl rfl ?_
        refine wm_get (q := 60) hg dX1_settleOnce_57 rfl fl_X1_15 (by first | assumption | decide | omega | (simp only [nO]; omega)) rfl ?_
        refine wm_iload (q := 62) (i := 5) hg dX1_settleOnce_60 rfl rfl ?_
        refine wm_iaload (q := 63) i hg dX1_settleOnce_62 rfl (by first | assumption | decide | omega | (simp only [nO]; omega)) rfl rfl (by simp only [alen]; omega) ?_
        refine wm_iconst (q := 64) 1 hg dX1_settleOnce_63 rfl (by decide) ?_
        refine wm_iadd (q := 65) hg dX1_settleOnce_64 rfl ?_
        refine wm_callV1 (q := 68) hg dX1_settleOnce_65 rfl lk_X1_69 (by first | decide | omega) (c_X1_partOf (by first | assumption | decide | omega) (by first | assumption | decide | omega)) (by first | assumption | decide | omega | (simp only [nO]; omega)) ⟨rfl, by decide⟩ rfl rfl (Nat.le_of_ble_eq_true rfl) ?_
        refine wm_isub (q := 69) hg dX1_settleOnce_68 rfl ?_
        refine wm_istore (q := 71) (i := 7) (L' := [(0, _), (1, _), (2, _), (3, _), (4, _), (5, _), (6, _), (7, _)]) hg dX1_settleOnce_69 rfl rfl rfl ?_
        refine wm_iload (q := 73) (i := 6) hg dX1_settleOnce_71 rfl rfl ?_
        refine wm_aload_n (q := 74) (i := 0) hg dX1_settleOnce_73 rfl rfl rfl ?_
        refine wm_iload (q := 76) (i := 5) hg dX1_settleOnce_74 rfl rfl ?_
        refine wm_aload_n (q := 77) (i := 0) hg dX1_settleOnce_76 rfl rfl rfl ?_
        refine wm_get (q := 80) hg dX1_settleOnce_77 rfl fl_X1_15 (by first | assumption | decide | omega | (simp only [nO]; omega)) rfl ?_
        refine wm_iload (q := 82) (i := 5) hg dX1_settleOnce_80 rfl rfl ?_
        refine wm_iaload (q := 83) i hg dX1_settleOnce_82 rfl (by first | assumption | decide | omega | (simp only [nO]; omega)) rfl rfl (by simp only [alen]; omega) ?_
        refine wm_iconst (q := 84) 1 hg dX1_settleOnce_83 rfl (by decide) ?_
        refine wm_isub (q := 85) hg dX1_settleOnce_84 rfl ?_
        refine wm_callV1 (q := 88) hg dX1_settleOnce_85 rfl lk_X1_69 (by first | decide | omega) (c_X1_partOf (by first | assumption | decide | omega) (by first | assumption | decide | omega)) (by first | assumption | decide | omega | (simp only [nO]; omega)) ⟨rfl, by decide⟩ rfl rfl (Nat.le_of_ble_eq_true rfl) ?_
        refine wm_isub (q := 89) hg dX1_settleOnce_88 rfl ?_
        refine wm_istore (q := 91) (i := 8) (L' := [(0, _), (1, _), (2, _), (3, _), (4, _), (5, _), (6, _), (7, _), (8, _)]) hg dX1_settleOnce_89 rfl rfl rfl ?_
        refine wm_iload (q := 93) (i := 7) hg dX1_settleOnce_91 rfl rfl ?_
        refine wm_iload (q := 95) (i := 8) hg dX1_settleOnce_93 rfl rfl ?_
        refine wm_max (q := 98) hg dX1_settleOnce_95 rfl ml_X1_82 (by decide) (Nat.le_of_ble_eq_true rfl) ?_
        refine wm_iload (q := 100) (i := 4) hg dX1_settleOnce_98 rfl rfl ?_
        refine wm_icmp_le (q := 128) (q2 := 103) hg dX1_settleOnce_100 (by decide) rfl (fun h2 => ?_) (fun h2 => ?_)
        · refine wm_iinc (q := 131) (L' := [(0, _), (1, _), (2, _), (3, _), (4, _), (5, _), (6, _), (7, _), (8, _)]) (nI (i + 1)) hg dX1_settleOnce_128 rfl rfl (nadd rfl rfl) rfl rfl ?_
          refine wm_goto (q := 13) hg dX1_settleOnce_131 (by decide) ?_
          refine wm_L (L' := [(0, _), (1, _), (2, _), (3, _), (4, _), (5, _)]) [0, 1, 2, 3, 4, 5] rfl ?_
          exact wm_Leq (by first | (simp only [soA_h h1]; done) | (simp only [soA_k h1 h2]; done) | (simp only [soA_p h1 h2 h3]; rfl) | (simp only [soA_q h1 h2 h3]; rfl)) (ih (i + 1) (by omega))
        · refine wm_iload (q := 105) (i := 5) hg dX1_settleOnce_103 rfl rfl ?_
          refine wm_istore_n (q := 106) (i := 2) (L' := [(0, _), (1, _), (2, _), (3, _), (4, _), (5, _), (6, _), (7, _), (8, _)]) hg dX1_settleOnce_105 rfl rfl rfl rfl ?_
          refine wm_iload (q := 108) (i := 7) hg dX1_settleOnce_106 rfl rfl ?_
          refine wm_iload (q := 110) (i := 8) hg dX1_settleOnce_108 rfl rfl ?_
          refine wm_icmp_lt (q := 117) (q2 := 113) hg dX1_settleOnce_110 (by decide) rfl (fun h3 => ?_) (fun h3 => ?_)
          · refine wm_iconst (q := 118) (-1) hg dX1_settleOnce_117 rfl (by decide) ?_
            refine wm_istore_n (q := 119) (i := 3) (L' := [(0, _), (1, _), (2, _), (3, _), (4, _), (5, _), (6, _), (7, _), (8, _)]) hg dX1_settleOnce_118 rfl rfl rfl rfl ?_
            refine wm_iload (q := 121) (i := 7) hg dX1_settleOnce_119 rfl rfl ?_
            refine wm_iload (q := 123) (i := 8) hg dX1_settleOnce_121 rfl rfl ?_
            refine wm_max (q := 126) hg dX1_settleOnce_123 rfl ml_X1_82 (by decide) (Nat.le_of_ble_eq_true rfl) ?_
            refine wm_istore (q := 128) (i := 4) (L' := [(0, _), (1, _), (2, _), (3, _), (4, _), (5, _), (6, _), (7, _), (8, _)]) hg dX1_settleOnce_126 rfl rfl rfl ?_
            refine wm_iinc (q := 131) (L' := [(0, _), (1, _), (2, _), (3, _), (4, _), (5, _), (6, _), (7, _), (8, _)]) (nI (i + 1)) hg dX1_settleOnce_128 rfl rfl (nadd rfl rfl) rfl rfl ?_
            refine wm_goto (q := 13) hg dX1_settleOnce_131 (by decide) ?_
            refine wm_L (L' := [(0, _), (1, _), (2, _), (3, _), (4, _), (5, _)]) [0, 1, 2, 3, 4, 5] rfl ?_
            exact wm_Leq (by first | (simp only [soA_h h1]; done) | (simp only [soA_k h1 h2]; done) | (simp only [soA_p h1 h2 h3]; rfl) | (simp only [soA_q h1 h2 h3]; rfl)) (ih (i + 1) (by omega))
          · refine wm_iconst (q := 114) 1 hg dX1_settleOnce_113 rfl (by decide) ?_
            refine wm_goto (q := 118) hg dX1_settleOnce_114 (by decide) ?_
            refine wm_istore_n (q := 119) (i := 3) (L' := [(0, _), (1, _), (2, _), (3, _), (4, _), (5, _), (6, _), (7, _), (8, _)]) hg dX1_settleOnce_118 rfl rfl rfl rfl ?_
            refine wm_iload (q := 121) (i := 7) hg dX1_settleOnce_119 rfl rfl ?_
            refine wm_iload (q := 123) (i := 8) hg dX1_settleOnce_121 rfl rfl ?_
            refine wm_max (q := 126) hg dX1_settleOnce_123 rfl ml_X1_82 (by decide) (Nat.le_of_ble_eq_true rfl) ?_
            refine wm_istore (q := 128) (i := 4) (L' := [(0, _), (1, _), (2, _), (3, _), (4, _), (5, _), (6, _), (7, _), (8, _)]) hg dX1_settleOnce_126 rfl rfl rfl ?_
            refine wm_iinc (q := 131) (L' := [(0, _), (1, _), (2, _), (3, _), (4, _), (5, _), (6, _), (7, _), (8, _)]) (nI (i + 1)) hg dX1_settleOnce_128 rfl rfl (nadd rfl rfl) rfl rfl ?_
            refine wm_goto (q := 13) hg dX1_settleOnce_131 (by decide) ?_
            refine wm_L (L' := [(0, _), (1, _), (2, _), (3, _), (4, _), (5, _)]) [0, 1, 2, 3, 4, 5] rfl ?_
            exact wm_Leq (by first | (simp only [soA_h h1]; done) | (simp only [soA_k h1 h2]; done) | (simp only [soA_p h1 h2 h3]; rfl) | (simp only [soA_q h1 h2 h3]; rfl)) (ih (i + 1) (by omega))
      · refine wm_goto (q := 128) hg dX1_settleOnce_33 (by decide) ?_
        refine wm_iinc (q := 131) (L' := [(0, _), (1, _), (2, _), (3, _), (4, _), (5, _)]) (nI (i + 1)) hg dX1_settleOnce_128 rfl rfl (nadd rfl rfl) rfl rfl ?_
        refine wm_goto (q := 13) hg dX1_settleOnce_131 (by decide) ?_
        exact wm_Leq (by first | (simp only [soA_h h1]; done) | (simp only [soA_k h1 h2]; done) | (simp only [soA_p h1 h2 h3]; rfl) | (simp only [soA_q h1 h2 h3]; rfl)) (ih (i + 1) (by omega))
set_option maxRecDepth 100000 in
set_option maxHeartbeats 4000000 in
theorem c_settleOnce_b0 {Γ : GT} {M : Mem} {c b : Nat} (hc : c < 15) (hz : ok10 (M.1 1 c)) (hbb : b < 11) (hB : okB (M.1 0 b)) (hs : (soB (M.1 1 c)).1 < 0) : Ct Γ yX1_settleOnce cX1_settleOnce 9 (some .boolean) 3 [.ref (ad Γ 1 c 0), .ref (ad Γ 0 b 0)] M (some (.int 0)) M := by
  refine ct_of (by decide) (Nat.le_of_ble_eq_true rfl) (fun K hg hr => ?_)
  show WM Γ K _ [(0, _), (1, _)] 0 []
  have hz2 := hz.2
  refine wm_iconst (q := 1) (-1) hg dX1_settleOnce_0 rfl (by decide) ?_
  refine wm_istore_n (q := 2) (i := 2) (L' := [(0, _), (1, _), (2, _)]) hg dX1_settleOnce_1 rfl rfl rfl rfl ?_
  refine wm_iconst (q := 3) 0 hg dX1_settleOnce_2 rfl (by decide) ?_
  refine wm_istore_n (q := 4) (i := 3) (L' := [(0, _), (1, _), (2, _), (3, _)]) hg dX1_settleOnce_3 rfl rfl rfl rfl ?_
  refine wm_aload_n (q := 5) (i := 0) hg dX1_settleOnce_4 rfl rfl rfl ?_
  refine wm_get (q := 8) hg dX1_settleOnce_5 rfl fl_X1_28 (by first | assumption | decide | omega | (simp only [nO]; omega)) rfl ?_
  refine wm_istore (q := 10) (i := 4) (L' := [(0, _), (1, _), (2, _), (3, _), (4, _)]) hg dX1_settleOnce_8 rfl rfl rfl ?_
  refine wm_iconst (q := 11) 0 hg dX1_settleOnce_10 rfl (by decide) ?_
  refine wm_istore (q := 13) (i := 5) (L' := [(0, _), (1, _), (2, _), (3, _), (4, _), (5, _)]) hg dX1_settleOnce_11 rfl rfl rfl ?_
  suffices hloop : ∀ (n i : Nat), i + n = (szN (M.1 1 c)) → WM Γ K M [(0, .ref (ad Γ 1 c 0)), (1, .ref (ad Γ 0 b 0)), (2, .int (soA (M.1 1 c) i).1), (3, .int (soA (M.1 1 c) i).2.1), (4, .int (soA (M.1 1 c) i).2.2), (5, .int (nI i))] 13 [] from hloop (szN (M.1 1 c)) 0 (by omega)
  intro n
  induction n with
  | zero =>
    intro i hi 
    refine wm_iload (q := 15) (i := 5) hg dX1_settleOnce_13 rfl rfl ?_
    refine wm_aload_n (q := 16) (i := 0) hg dX1_settleOnce_15 rfl rfl rfl ?_
    refine wm_get (q := 19) hg dX1_settleOnce_16 rfl fl_X1_9 (by first | assumption | decide | omega | (simp only [nO]; omega)) rfl ?_
    refine wm_icmp_ge (q := 134) (q2 := 22) hg dX1_settleOnce_19 (by decide) rfl (fun hb => ?_) (fun hb => ?_)
    · have he : i = szN (M.1 1 c) := by omega
      subst he
      refine wm_iload_n (q := 135) (i := 2) hg dX1_settleOnce_134 rfl rfl rfl ?_
      refine wm_if_ge (q := 140) (q2 := 138) hg dX1_settleOnce_135 (by decide) rfl (fun hq => ?_) (fun hq => ?_)
      · exact absurd hs (Int32.not_lt.mpr hq)
      · refine wm_iconst (q := 139) 0 hg dX1_settleOnce_138 rfl (by decide) ?_
        exact wm_zret hg hr dX1_settleOnce_139 (rfl) (rfl) (by decide)
    · exact absurd hb (fun h => h (lpLe hz.1 (by omega) (by omega)))
  | succ n ih =>
    intro i hi 
    refine wm_iload (q := 15) (i := 5) hg dX1_settleOnce_13 rfl rfl ?_
    refine wm_aload_n (q := 16) (i := 0) hg dX1_settleOnce_15 rfl rfl rfl ?_
    refine wm_get (q := 19) hg dX1_settleOnce_16 rfl fl_X1_9 (by first | assumption | decide | omega | (simp only [nO]; omega)) rfl ?_
    refine wm_icmp_ge (q := 134) (q2 := 22) hg dX1_settleOnce_19 (by decide) rfl (fun hb => ?_) (fun hb => ?_)
    · exact absurd hb (lpLt hz.1 (by omega) (by omega))
    · refine wm_aload_n (q := 23) (i := 0) hg dX1_settleOnce_22 rfl rfl rfl ?_
      refine wm_get (q := 26) hg dX1_settleOnce_23 rfl fl_X1_19 (by first | assumption | decide | omega | (simp only [nO]; omega)) rfl ?_
      refine wm_iload (q := 28) (i := 5) hg dX1_settleOnce_26 rfl rfl ?_
      refine wm_iaload (q := 29) i hg dX1_settleOnce_28 rfl (by first | assumption | decide | omega | (simp only [nO]; omega)) rfl rfl (by simp only [alen]; omega) ?_
      refine wm_iconst (q := 30) 1 hg dX1_settleOnce_29 rfl (by decide) ?_
      refine wm_icmp_ne (q := 36) (q2 := 33) hg dX1_settleOnce_30 (by decide) rfl (fun h1 => ?_) (fun h1 => ?_)
      · refine wm_aload_n (q := 37) (i := 0) hg dX1_settleOnce_36 rfl rfl rfl ?_
        refine wm_iload (q := 39) (i := 5) hg dX1_settleOnce_37 rfl rfl ?_
        refine wm_aload_n (q := 40) (i := 0) hg dX1_settleOnce_39 rfl rfl rfl ?_
        refine wm_get (q := 43) hg dX1_settleOnce_40 rfl fl_X1_15 (by first | assumption | decide | omega | (simp only [nO]; omega)) rfl ?_
        refine wm_iload (q := 45) (i := 5) hg dX1_settleOnce_43 rfl rfl ?_
        refine wm_iaload (q := 46) i hg dX1_settleOnce_45 rfl (by first | assumption | decide | omega | (simp only [nO]; omega)) rfl rfl (by simp only [alen]; omega) ?_
        refine wm_callV1 (q := 49) hg dX1_settleOnce_46 rfl lk_X1_69 (by first | decide | omega) (c_X1_partOf (by first | assumption | decide | omega) (by first | assumption | decide | omega)) (by first | assumption | decide | omega | (simp only [nO]; omega)) ⟨rfl, by decide⟩ rfl rfl (Nat.le_of_ble_eq_true rfl) ?_
        refine wm_istore (q := 51) (i := 6) (L' := [(0, _), (1, _), (2, _), (3, _), (4, _), (5, _), (6, _)]) hg dX1_settleOnce_49 rfl rfl rfl ?_
        refine wm_iload (q := 53) (i := 6) hg dX1_settleOnce_51 rfl rfl ?_
        refine wm_aload_n (q := 54) (i := 0) hg dX1_settleOnce_53 rfl rfl rfl ?_
        refine wm_iload (q := 56) (i := 5) hg dX1_settleOnce_54 rfl rfl ?_
        refine wm_aload_n (q := 57) (i := 0) hg dX1_settleOnce_56 rfl rfl rfl ?_
        refine wm_get (q := 60) hg dX1_settleOnce_57 rfl fl_X1_15 (by first | assumption | decide | omega | (simp only [nO]; omega)) rfl ?_
        refine wm_iload (q := 62) (i := 5) hg dX1_settleOnce_60 rfl rfl ?_
        refine wm_iaload (q := 63) i hg dX1_settleOnce_62 rfl (by first | assumption | decide | omega | (simp only [nO]; omega)) rfl rfl (by simp only [alen]; omega) ?_
        refine wm_iconst (q := 64) 1 hg dX1_settleOnce_63 rfl (by decide) ?_
        refine wm_iadd (q := 65) hg dX1_settleOnce_64 rfl ?_
        refine wm_callV1 (q := 68) hg dX1_settleOnce_65 rfl lk_X1_69 (by first | decide | omega) (c_X1_partOf (by first | assumption | decide | omega) (by first | assumption | decide | omega)) (by first | assumption | decide | omega | (simp only [nO]; omega)) ⟨rfl, by decide⟩ rfl rfl (Nat.le_of_ble_eq_true rfl) ?_
        refine wm_isub (q := 69) hg dX1_settleOnce_68 rfl ?_
        refine wm_istore (q := 71) (i := 7) (L' := [(0, _), (1, _), (2, _), (3, _), (4, _), (5, _), (6, _), (7, _)]) hg dX1_settleOnce_69 rfl rfl rfl ?_
        refine wm_iload (q := 73) (i := 6) hg dX1_settleOnce_71 rfl rfl ?_
        refine wm_aload_n (q := 74) (i := 0) hg dX1_settleOnce_73 rfl rfl rfl ?_
        refine wm_iload (q := 76) (i := 5) hg dX1_settleOnce_74 rfl rfl ?_
        refine wm_aload_n (q := 77) (i := 0) hg dX1_settleOnce_76 rfl rfl rfl ?_
        refine wm_get (q := 80) hg dX1_settleOnce_77 rfl fl_X1_15 (by first | assumption | decide | omega | (simp only [nO]; omega)) rfl ?_
        refine wm_iload (q := 82) (i := 5) hg dX1_settleOnce_80 rfl rfl ?_
        refine wm_iaload (q := 83) i hg dX1_settleOnce_82 rfl (by first | assumption | decide | omega | (simp only [nO]; omega)) rfl rfl (by simp only [alen]; omega) ?_
        refine wm_iconst (q := 84) 1 hg dX1_settleOnce_83 rfl (by decide) ?_
        refine wm_isub (q := 85) hg dX1_settleOnce_84 rfl ?_
        refine wm_callV1 (q := 88) hg dX1_settleOnce_85 rfl lk_X1_69 (by first | decide | omega) (c_X1_partOf (by first | assumption | decide | omega) (by first | assumption | decide | omega)) (by first | assumption | decide | omega | (simp only [nO]; omega)) ⟨rfl, by decide⟩ rfl rfl (Nat.le_of_ble_eq_true rfl) ?_
        refine wm_isub (q := 89) hg dX1_settleOnce_88 rfl ?_
        refine wm_istore (q := 91) (i := 8) (L' := [(0, _), (1, _), (2, _), (3, _), (4, _), (5, _), (6, _), (7, _), (8, _)]) hg dX1_settleOnce_89 rfl rfl rfl ?_
        refine wm_iload (q := 93) (i := 7) hg dX1_settleOnce_91 rfl rfl ?_
        refine wm_iload (q := 95) (i := 8) hg dX1_settleOnce_93 rfl rfl ?_
        refine wm_max (q := 98) hg dX1_settleOnce_95 rfl ml_X1_82 (by decide) (Nat.le_of_ble_eq_true rfl) ?_
        refine wm_iload (q := 100) (i := 4) hg dX1_settleOnce_98 rfl rfl ?_
        refine wm_icmp_le (q := 128) (q2 := 103) hg dX1_settleOnce_100 (by decide) rfl (fun h2 => ?_) (fun h2 => ?_)
        · refine wm_iinc (q := 131) (L' := [(0, _), (1, _), (2, _), (3, _), (4, _), (5, _), (6, _), (7, _), (8, _)]) (nI (i + 1)) hg dX1_settleOnce_128 rfl rfl (nadd rfl rfl) rfl rfl ?_
          refine wm_goto (q := 13) hg dX1_settleOnce_131 (by decide) ?_
          refine wm_L (L' := [(0, _), (1, _), (2, _), (3, _), (4, _), (5, _)]) [0, 1, 2, 3, 4, 5] rfl ?_
          exact wm_Leq (by first | (simp only [soA_h h1]; done) | (simp only [soA_k h1 h2]; done) | (simp only [soA_p h1 h2 h3]; rfl) | (simp only [soA_q h1 h2 h3]; rfl)) (ih (i + 1) (by omega))
        · refine wm_iload (q := 105) (i := 5) hg dX1_settleOnce_103 rfl rfl ?_
          refine wm_istore_n (q := 106) (i := 2) (L' := [(0, _), (1, _), (2, _), (3, _), (4, _), (5, _), (6, _), (7, _), (8, _)]) hg dX1_settleOnce_105 rfl rfl rfl rfl ?_
          refine wm_iload (q := 108) (i := 7) hg dX1_settleOnce_106 rfl rfl ?_
          refine wm_iload (q := 110) (i := 8) hg dX1_settleOnce_108 rfl rfl ?_
          refine wm_icmp_lt (q := 117) (q2 := 113) hg dX1_settleOnce_110 (by decide) rfl (fun h3 => ?_) (fun h3 => ?_)
          · refine wm_iconst (q := 118) (-1) hg dX1_settleOnce_117 rfl (by decide) ?_
            refine wm_istore_n (q := 119) (i := 3) (L' := [(0, _), (1, _), (2, _), (3, _), (4, _), (5, _), (6, _), (7, _), (8, _)]) hg dX1_settleOnce_118 rfl rfl rfl rfl ?_
            refine wm_iload (q := 121) (i := 7) hg dX1_settleOnce_119 rfl rfl ?_
            refine wm_iload (q := 123) (i := 8) hg dX1_settleOnce_121 rfl rfl ?_
            refine wm_max (q := 126) hg dX1_settleOnce_123 rfl ml_X1_82 (by decide) (Nat.le_of_ble_eq_true rfl) ?_
            refine wm_istore (q := 128) (i := 4) (L' := [(0, _), (1, _), (2, _), (3, _), (4, _), (5, _), (6, _), (7, _), (8, _)]) hg dX1_settleOnce_126 rfl rfl rfl ?_
            refine wm_iinc (q := 131) (L' := [(0, _), (1, _), (2, _), (3, _), (4, _), (5, _), (6, _), (7, _), (8, _)]) (nI (i + 1)) hg dX1_settleOnce_128 rfl rfl (nadd rfl rfl) rfl rfl ?_
            refine wm_goto (q := 13) hg dX1_settleOnce_131 (by decide) ?_
            refine wm_L (L' := [(0, _), (1, _), (2, _), (3, _), (4, _), (5, _)]) [0, 1, 2, 3, 4, 5] rfl ?_
            exact wm_Leq (by first | (simp only [soA_h h1]; done) | (simp only [soA_k h1 h2]; done) | (simp only [soA_p h1 h2 h3]; rfl) | (simp only [soA_q h1 h2 h3]; rfl)) (ih (i + 1) (by omega))
          · refine wm_iconst (q := 114) 1 hg dX1_settleOnce_113 rfl (by decide) ?_
            refine wm_goto (q := 118) hg dX1_settleOnce_114 (by decide) ?_
            refine wm_istore_n (q := 119) (i := 3) (L' := [(0, _), (1, _), (2, _), (3, _), (4, _), (5, _), (6, _), (7, _), (8, _)]) hg dX1_settleOnce_118 rfl rfl rfl rfl ?_
            refine wm_iload (q := 121) (i := 7) hg dX1_settleOnce_119 rfl rfl ?_
            refine wm_iload (q := 123) (i := 8) hg dX1_settleOnce_121 rfl rfl ?_
            refine wm_max (q := 126) hg dX1_settleOnce_123 rfl ml_X1_82 (by decide) (Nat.le_of_ble_eq_true rfl) ?_
            refine wm_istore (q := 128) (i := 4) (L' := [(0, _), (1, _), (2, _), (3, _), (4, _), (5, _), (6, _), (7, _), (8, _)]) hg dX1_settleOnce_126 rfl rfl rfl ?_
            refine wm_iinc (q := 131) (L' := [(0, _), (1, _), (2, _), (3, _), (4, _), (5, _), (6, _), (7, _), (8, _)]) (nI (i + 1)) hg dX1_settleOnce_128 rfl rfl (nadd rfl rfl) rfl rfl ?_
            refine wm_goto (q := 13) hg dX1_settleOnce_131 (by decide) ?_
            refine wm_L (L' := [(0, _), (1, _), (2, _), (3, _), (4, _), (5, _)]) [0, 1, 2, 3, 4, 5] rfl ?_
            exact wm_Leq (by first | (simp only [soA_h h1]; done) | (simp only [soA_k h1 h2]; done) | (simp only [soA_p h1 h2 h3]; rfl) | (simp only [soA_q h1 h2 h3]; rfl)) (ih (i + 1) (by omega))
      · refine wm_goto (q := 128) hg dX1_settleOnce_33 (by decide) ?_
        refine wm_iinc (q := 131) (L' := [(0, _), (1, _), (2, _), (3, _), (4, _), (5, _)]) (nI (i + 1)) hg dX1_settleOnce_128 rfl rfl (nadd rfl rfl) rfl rfl ?_
        refine wm_goto (q := 13) hg dX1_settleOnce_131 (by decide) ?_
        exact wm_Leq (by first | (simp only [soA_h h1]; done) | (simp only [soA_k h1 h2]; done) | (simp only [soA_p h1 h2 h3]; rfl) | (simp only [soA_q h1 h2 h3]; rfl)) (ih (i + 1) (by omega))
set_option maxRecDepth 100000 in
set_option maxHeartbeats 4000000 in
theorem c_settleOnce_b1 {Γ : GT} {M : Mem} {c b : Nat} (hc : c < 15) (hz : ok10 (M.1 1 c)) (hbb : b < 11) (hB : okB (M.1 0 b)) (hs : ¬ (soB (M.1 1 c)).1 < 0) : Ct Γ yX1_settleOnce cX1_settleOnce 9 (some .boolean) 3 [.ref (ad Γ 1 c 0), .ref (ad Γ 0 b 0)] M (some (.int 1)) (sO (sO M 1 c (tn1 (M.1 1 c))) 0 b (en1 (M.1 1 c) (M.1 0 b))) := by
  refine ct_of (by decide) (Nat.le_of_ble_eq_true rfl) (fun K hg hr => ?_)
  show WM Γ K _ [(0, _), (1, _)] 0 []
  have hz2 := hz.2
  refine wm_iconst (q := 1) (-1) hg dX1_settleOnce_0 rfl (by decide) ?_
  refine wm_istore_n (q := 2) (i := 2) (L' := [(0, _), (1, _), (2, _)]) hg dX1_settleOnce_1 rfl rfl rfl rfl ?_
  refine wm_iconst (q := 3) 0 hg dX1_settleOnce_2 rfl (by decide) ?_
  refine wm_istore_n (q := 4) (i := 3) (L' := [(0, _), (1, _), (2, _), (3, _)]) hg dX1_settleOnce_3 rfl rfl rfl rfl ?_
  refine wm_aload_n (q := 5) (i := 0) hg dX1_settleOnce_4 rfl rfl rfl ?_
  refine wm_get (q := 8) hg dX1_settleOnce_5 rfl fl_X1_28 (by first | assumption | decide | omega | (simp only [nO]; omega)) rfl ?_
  refine wm_istore (q := 10) (i := 4) (L' := [(0, _), (1, _), (2, _), (3, _), (4, _)]) hg dX1_settleOnce_8 rfl rfl rfl ?_
  refine wm_iconst (q := 11) 0 hg dX1_settleOnce_10 rfl (by decide) ?_
  refine wm_istore (q := 13) (i := 5) (L' := [(0, _), (1, _), (2, _), (3, _), (4, _), (5, _)]) hg dX1_settleOnce_11 rfl rfl rfl ?_
  suffices hloop : ∀ (n i : Nat), i + n = (szN (M.1 1 c)) → WM Γ K M [(0, .ref (ad Γ 1 c 0)), (1, .ref (ad Γ 0 b 0)), (2, .int (soA (M.1 1 c) i).1), (3, .int (soA (M.1 1 c) i).2.1), (4, .int (soA (M.1 1 c) i).2.2), (5, .int (nI i))] 13 [] from hloop (szN (M.1 1 c)) 0 (by omega)
  intro n
  induction n with
  | zero =>
    intro i hi 
    refine wm_iload (q := 15) (i := 5) hg dX1_settleOnce_13 rfl rfl ?_
    refine wm_aload_n (q := 16) (i := 0) hg dX1_settleOnce_15 rfl rfl rfl ?_
    refine wm_get (q := 19) hg dX1_settleOnce_16 rfl fl_X1_9 (by first | assumption | decide | omega | (simp only [nO]; omega)) rfl ?_
    refine wm_icmp_ge (q := 134) (q2 := 22) hg dX1_settleOnce_19 (by decide) rfl (fun hb => ?_) (fun hb => ?_)
    · have he : i = szN (M.1 1 c) := by omega
      subst he
      refine wm_iload_n (q := 135) (i := 2) hg dX1_settleOnce_134 rfl rfl rfl ?_
      refine wm_if_ge (q := 140) (q2 := 138) hg dX1_settleOnce_135 (by decide) rfl (fun hq => ?_) (fun hq => ?_)
      · have ht : (soB (M.1 1 c)).1.toNatClampNeg < szN (M.1 1 c) := by
          rcases soA_lt (M.1 1 c) (szN (M.1 1 c)) (by omega) with q | q
          · exact absurd q hs
          · exact q
        refine wm_aload_n (q := 141) (i := 0) hg dX1_settleOnce_140 rfl rfl rfl ?_
        refine wm_iload_n (q := 142) (i := 2) hg dX1_settleOnce_141 rfl rfl rfl ?_
        refine wm_iload_n (q := 143) (i := 3) hg dX1_settleOnce_142 rfl rfl rfl ?_
        refine wm_callV0 (q := 146) hg dX1_settleOnce_143 rfl lk_X1_87 (by first | decide | omega) (c_X1_turn (t := (soB (M.1 1 c)).1.toNatClampNeg) hc (nI_self hs) (by omega)) (by first | assumption | decide | omega | (simp only [nO]; omega)) ⟨rfl, by decide⟩ rfl rfl (Nat.le_of_ble_eq_true rfl) ?_
        refine wm_aload_n (q := 147) (i := 1) hg dX1_settleOnce_146 rfl rfl rfl ?_
        refine wm_ifnull (q := 150) hg dX1_settleOnce_147 rfl ?_
        refine wm_aload_n (q := 151) (i := 1) hg dX1_settleOnce_150 rfl rfl rfl ?_
        refine wm_iload_n (q := 152) (i := 2) hg dX1_settleOnce_151 rfl rfl rfl ?_
        refine wm_iload_n (q := 153) (i := 3) hg dX1_settleOnce_152 rfl rfl rfl ?_
        refine wm_iload (q := 155) (i := 4) hg dX1_settleOnce_153 rfl rfl ?_
        refine wm_callV0 (q := 158) hg dX1_settleOnce_155 rfl lk_X1_91 (by first | decide | omega) (c_X0_enter hbb (by rw [sO_kind _ _ _ _ (by decide)]; exact hB)) (by first | assumption | decide | omega | (simp only [nO]; omega)) ⟨rfl, by decide⟩ rfl rfl (Nat.le_of_ble_eq_true rfl) ?_
        refine wm_iconst (q := 159) 1 hg dX1_settleOnce_158 rfl (by decide) ?_
        exact wm_zret hg hr dX1_settleOnce_159 rfl (by rw [sO_kind _ _ _ _ (by decide)]; rfl) (by decide)
      · exact absurd (Int32.not_le.mp hq) hs
    · exact absurd hb (fun h => h (lpLe hz.1 (by omega) (by omega)))
  | succ n ih =>
    intro i hi 
    refine wm_iload (q := 15) (i := 5) hg dX1_settleOnce_13 rfl rfl ?_
    refine wm_aload_n (q := 16) (i := 0) hg dX1_settleOnce_15 rfl rfl rfl ?_
    refine wm_get (q := 19) hg dX1_settleOnce_16 rfl fl_X1_9 (by first | assumption | decide | omega | (simp only [nO]; omega)) rfl ?_
    refine wm_icmp_ge (q := 134) (q2 := 22) hg dX1_settleOnce_19 (by decide) rfl (fun hb => ?_) (fun hb => ?_)
    · exact absurd hb (lpLt hz.1 (by omega) (by omega))
    · refine wm_aload_n (q := 23) (i := 0) hg dX1_settleOnce_22 rfl rfl rfl ?_
      refine wm_get (q := 26) hg dX1_settleOnce_23 rfl fl_X1_19 (by first | assumption | decide | omega | (simp only [nO]; omega)) rfl ?_
      refine wm_iload (q := 28) (i := 5) hg dX1_settleOnce_26 rfl rfl ?_
      refine wm_iaload (q := 29) i hg dX1_settleOnce_28 rfl (by first | assumption | decide | omega | (simp only [nO]; omega)) rfl rfl (by simp only [alen]; omega) ?_
      refine wm_iconst (q := 30) 1 hg dX1_settleOnce_29 rfl (by decide) ?_
      refine wm_icmp_ne (q := 36) (q2 := 33) hg dX1_settleOnce_30 (by decide) rfl (fun h1 => ?_) (fun h1 => ?_)
      · refine wm_aload_n (q := 37) (i := 0) hg dX1_settleOnce_36 rfl rfl rfl ?_
        refine wm_iload (q := 39) (i := 5) hg dX1_settleOnce_37 rfl rfl ?_
        refine wm_aload_n (q := 40) (i := 0) hg dX1_settleOnce_39 rfl rfl rfl ?_
        refine wm_get (q := 43) hg dX1_settleOnce_40 rfl fl_X1_15 (by first | assumption | decide | omega | (simp only [nO]; omega)) rfl ?_
        refine wm_iload (q := 45) (i := 5) hg dX1_settleOnce_43 rfl rfl ?_
        refine wm_iaload (q := 46) i hg dX1_settleOnce_45 rfl (by first | assumption | decide | omega | (simp only [nO]; omega)) rfl rfl (by simp only [alen]; omega) ?_
        refine wm_callV1 (q := 49) hg dX1_settleOnce_46 rfl lk_X1_69 (by first | decide | omega) (c_X1_partOf (by first | assumption | decide | omega) (by first | assumption | decide | omega)) (by first | assumption | decide | omega | (simp only [nO]; omega)) ⟨rfl, by decide⟩ rfl rfl (Nat.le_of_ble_eq_true rfl) ?_
        refine wm_istore (q := 51) (i := 6) (L' := [(0, _), (1, _), (2, _), (3, _), (4, _), (5, _), (6, _)]) hg dX1_settleOnce_49 rfl rfl rfl ?_
        refine wm_iload (q := 53) (i := 6) hg dX1_settleOnce_51 rfl rfl ?_
        refine wm_aload_n (q := 54) (i := 0) hg dX1_settleOnce_53 rfl rfl rfl ?_
        refine wm_iload (q := 56) (i := 5) hg dX1_settleOnce_54 rfl rfl ?_
        refine wm_aload_n (q := 57) (i := 0) hg dX1_settleOnce_56 rfl rfl rfl ?_
        refine wm_get (q := 60) hg dX1_settleOnce_57 rfl fl_X1_15 (by first | assumption | decide | omega | (simp only [nO]; omega)) rfl ?_
        refine wm_iload (q := 62) (i := 5) hg dX1_settleOnce_60 rfl rfl ?_
        refine wm_iaload (q := 63) i hg dX1_settleOnce_62 rfl (by first | assumption | decide | omega | (simp only [nO]; omega)) rfl rfl (by simp only [alen]; omega) ?_
        refine wm_iconst (q := 64) 1 hg dX1_settleOnce_63 rfl (by decide) ?_
        refine wm_iadd (q := 65) hg dX1_settleOnce_64 rfl ?_
        refine wm_callV1 (q := 68) hg dX1_settleOnce_65 rfl lk_X1_69 (by first | decide | omega) (c_X1_partOf (by first | assumption | decide | omega) (by first | assumption | decide | omega)) (by first | assumption | decide | omega | (simp only [nO]; omega)) ⟨rfl, by decide⟩ rfl rfl (Nat.le_of_ble_eq_true rfl) ?_
        refine wm_isub (q := 69) hg dX1_settleOnce_68 rfl ?_
        refine wm_istore (q := 71) (i := 7) (L' := [(0, _), (1, _), (2, _), (3, _), (4, _), (5, _), (6, _), (7, _)]) hg dX1_settleOnce_69 rfl rfl rfl ?_
        refine wm_iload (q := 73) (i := 6) hg dX1_settleOnce_71 rfl rfl ?_
        refine wm_aload_n (q := 74) (i := 0) hg dX1_settleOnce_73 rfl rfl rfl ?_
        refine wm_iload (q := 76) (i := 5) hg dX1_settleOnce_74 rfl rfl ?_
        refine wm_aload_n (q := 77) (i := 0) hg dX1_settleOnce_76 rfl rfl rfl ?_
        refine wm_get (q := 80) hg dX1_settleOnce_77 rfl fl_X1_15 (by first | assumption | decide | omega | (simp only [nO]; omega)) rfl ?_
        refine wm_iload (q := 82) (i := 5) hg dX1_settleOnce_80 rfl rfl ?_
        refine wm_iaload (q := 83) i hg dX1_settleOnce_82 rfl (by first | assumption | decide | omega | (simp only [nO]; omega)) rfl rfl (by simp only [alen]; omega) ?_
        refine wm_iconst (q := 84) 1 hg dX1_settleOnce_83 rfl (by decide) ?_
        refine wm_isub (q := 85) hg dX1_settleOnce_84 rfl ?_
        refine wm_callV1 (q := 88) hg dX1_settleOnce_85 rfl lk_X1_69 (by first | decide | omega) (c_X1_partOf (by first | assumption | decide | omega) (by first | assumption | decide | omega)) (by first | assumption | decide | omega | (simp only [nO]; omega)) ⟨rfl, by decide⟩ rfl rfl (Nat.le_of_ble_eq_true rfl) ?_
        refine wm_isub (q := 89) hg dX1_settleOnce_88 rfl ?_
        refine wm_istore (q := 91) (i := 8) (L' := [(0, _), (1, _), (2, _), (3, _), (4, _), (5, _), (6, _), (7, _), (8, _)]) hg dX1_settleOnce_89 rfl rfl rfl ?_
        refine wm_iload (q := 93) (i := 7) hg dX1_settleOnce_91 rfl rfl ?_
        refine wm_iload (q := 95) (i := 8) hg dX1_settleOnce_93 rfl rfl ?_
        refine wm_max (q := 98) hg dX1_settleOnce_95 rfl ml_X1_82 (by decide) (Nat.le_of_ble_eq_true rfl) ?_
        refine wm_iload (q := 100) (i := 4) hg dX1_settleOnce_98 rfl rfl ?_
        refine wm_icmp_le (q := 128) (q2 := 103) hg dX1_settleOnce_100 (by decide) rfl (fun h2 => ?_) (fun h2 => ?_)
        · refine wm_iinc (q := 131) (L' := [(0, _), (1, _), (2, _), (3, _), (4, _), (5, _), (6, _), (7, _), (8, _)]) (nI (i + 1)) hg dX1_settleOnce_128 rfl rfl (nadd rfl rfl) rfl rfl ?_
          refine wm_goto (q := 13) hg dX1_settleOnce_131 (by decide) ?_
          refine wm_L (L' := [(0, _), (1, _), (2, _), (3, _), (4, _), (5, _)]) [0, 1, 2, 3, 4, 5] rfl ?_
          exact wm_Leq (by first | (simp only [soA_h h1]; done) | (simp only [soA_k h1 h2]; done) | (simp only [soA_p h1 h2 h3]; rfl) | (simp only [soA_q h1 h2 h3]; rfl)) (ih (i + 1) (by omega))
        · refine wm_iload (q := 105) (i := 5) hg dX1_settleOnce_103 rfl rfl ?_
          refine wm_istore_n (q := 106) (i := 2) (L' := [(0, _), (1, _), (2, _), (3, _), (4, _), (5, _), (6, _), (7, _), (8, _)]) hg dX1_settleOnce_105 rfl rfl rfl rfl ?_
          refine wm_iload (q := 108) (i := 7) hg dX1_settleOnce_106 rfl rfl ?_
          refine wm_iload (q := 110) (i := 8) hg dX1_settleOnce_108 rfl rfl ?_
          refine wm_icmp_lt (q := 117) (q2 := 113) hg dX1_settleOnce_110 (by decide) rfl (fun h3 => ?_) (fun h3 => ?_)
          · refine wm_iconst (q := 118) (-1) hg dX1_settleOnce_117 rfl (by decide) ?_
            refine wm_istore_n (q := 119) (i := 3) (L' := [(0, _), (1, _), (2, _), (3, _), (4, _), (5, _), (6, _), (7, _), (8, _)]) hg dX1_settleOnce_118 rfl rfl rfl rfl ?_
            refine wm_iload (q := 121) (i := 7) hg dX1_settleOnce_119 rfl rfl ?_
            refine wm_iload (q := 123) (i := 8) hg dX1_settleOnce_121 rfl rfl ?_
            refine wm_max (q := 126) hg dX1_settleOnce_123 rfl ml_X1_82 (by decide) (Nat.le_of_ble_eq_true rfl) ?_
            refine wm_istore (q := 128) (i := 4) (L' := [(0, _), (1, _), (2, _), (3, _), (4, _), (5, _), (6, _), (7, _), (8, _)]) hg dX1_settleOnce_126 rfl rfl rfl ?_
            refine wm_iinc (q := 131) (L' := [(0, _), (1, _), (2, _), (3, _), (4, _), (5, _), (6, _), (7, _), (8, _)]) (nI (i + 1)) hg dX1_settleOnce_128 rfl rfl (nadd rfl rfl) rfl rfl ?_
            refine wm_goto (q := 13) hg dX1_settleOnce_131 (by decide) ?_
            refine wm_L (L' := [(0, _), (1, _), (2, _), (3, _), (4, _), (5, _)]) [0, 1, 2, 3, 4, 5] rfl ?_
            exact wm_Leq (by first | (simp only [soA_h h1]; done) | (simp only [soA_k h1 h2]; done) | (simp only [soA_p h1 h2 h3]; rfl) | (simp only [soA_q h1 h2 h3]; rfl)) (ih (i + 1) (by omega))
          · refine wm_iconst (q := 114) 1 hg dX1_settleOnce_113 rfl (by decide) ?_
            refine wm_goto (q := 118) hg dX1_settleOnce_114 (by decide) ?_
            refine wm_istore_n (q := 119) (i := 3) (L' := [(0, _), (1, _), (2, _), (3, _), (4, _), (5, _), (6, _), (7, _), (8, _)]) hg dX1_settleOnce_118 rfl rfl rfl rfl ?_
            refine wm_iload (q := 121) (i := 7) hg dX1_settleOnce_119 rfl rfl ?_
            refine wm_iload (q := 123) (i := 8) hg dX1_settleOnce_121 rfl rfl ?_
            refine wm_max (q := 126) hg dX1_settleOnce_123 rfl ml_X1_82 (by decide) (Nat.le_of_ble_eq_true rfl) ?_
            refine wm_istore (q := 128) (i := 4) (L' := [(0, _), (1, _), (2, _), (3, _), (4, _), (5, _), (6, _), (7, _), (8, _)]) hg dX1_settleOnce_126 rfl rfl rfl ?_
            refine wm_iinc (q := 131) (L' := [(0, _), (1, _), (2, _), (3, _), (4, _), (5, _), (6, _), (7, _), (8, _)]) (nI (i + 1)) hg dX1_settleOnce_128 rfl rfl (nadd rfl rfl) rfl rfl ?_
            refine wm_goto (q := 13) hg dX1_settleOnce_131 (by decide) ?_
            refine wm_L (L' := [(0, _), (1, _), (2, _), (3, _), (4, _), (5, _)]) [0, 1, 2, 3, 4, 5] rfl ?_
            exact wm_Leq (by first | (simp only [soA_h h1]; done) | (simp only [soA_k h1 h2]; done) | (simp only [soA_p h1 h2 h3]; rfl) | (simp only [soA_q h1 h2 h3]; rfl)) (ih (i + 1) (by omega))
      · refine wm_goto (q := 128) hg dX1_settleOnce_33 (by decide) ?_
        refine wm_iinc (q := 131) (L' := [(0, _), (1, _), (2, _), (3, _), (4, _), (5, _)]) (nI (i + 1)) hg dX1_settleOnce_128 rfl rfl (nadd rfl rfl) rfl rfl ?_
        refine wm_goto (q := 13) hg dX1_settleOnce_131 (by decide) ?_
        exact wm_Leq (by first | (simp only [soA_h h1]; done) | (simp only [soA_k h1 h2]; done) | (simp only [soA_p h1 h2 h3]; rfl) | (simp only [soA_q h1 h2 h3]; rfl)) (ih (i + 1) (by omega))
set_option maxRecDepth 100000 in
set_option maxHeartbeats 4000000 in
theorem c_settle0_n {Γ : GT} {M : Mem} {c : Nat} (hc : c < 15) (hz : ok10 (M.1 1 c)) : Ct Γ yX1_settle cX1_settle 3 (some .int) 4 [.ref (ad Γ 1 c 0), .null] M (some (.int (nI (stX 200 (M.1 1 c)).1))) (sO M 1 c (stX 200 (M.1 1 c)).2) := by
  refine ct_of (by decide) (Nat.le_of_ble_eq_true rfl) (fun K hg hr => ?_)
  show WM Γ K _ [(0, _), (1, _)] 0 []
  refine wm_iconst (q := 1) 0 hg dX1_settle_0 rfl (by decide) ?_
  refine wm_istore_n (q := 2) (i := 2) (L' := [(0, _), (1, _), (2, _)]) hg dX1_settle_1 rfl rfl rfl rfl ?_
  suffices hloop : ∀ (f dn : Nat) (Y : OV), dn + f = 200 → ok10 Y → nI (dn + (stX f Y).1) = nI (stX 200 (M.1 1 c)).1 → (stX f Y).2 = (stX 200 (M.1 1 c)).2 → WM Γ K (sO M 1 c Y) [(0, .ref (ad Γ 1 c 0)), (1, .null), (2, .int (nI dn))] 2 [] from wm_mem (sO_self M 1 c).symm (hloop 200 0 (M.1 1 c) rfl hz (by rw [Nat.zero_add]) rfl)
  intro f
  induction f with
  | zero =>
    intro dn Y hd hY h1 h2
    refine wm_iload_n (q := 3) (i := 2) hg dX1_settle_2 rfl rfl rfl ?_
    refine wm_sipush (q := 6) 200 hg dX1_settle_3 rfl (by decide) ?_
    refine wm_icmp_ge (q := 25) (q2 := 9) hg dX1_settle_6 (by decide) rfl (fun hb2 => ?_) (fun hb2 => ?_)
    · refine wm_sipush (q := 28) 200 hg dX1_settle_25 rfl (by decide) ?_
      exact wm_iret hg hr dX1_settle_28 (by rw [← h1, show dn = 200 from hd]; rfl) (by rw [← h2]; rfl)
    · exact absurd (nI_le (a := 200) (b := dn) (by omega) (by omega)) hb2
  | succ f ih =>
    intro dn Y hd hY h1 h2
    have eY : ((sO M 1 c Y)).1 1 c = Y := by rw [sO_same]
    refine wm_iload_n (q := 3) (i := 2) hg dX1_settle_2 rfl rfl rfl ?_
    refine wm_sipush (q := 6) 200 hg dX1_settle_3 rfl (by decide) ?_
    refine wm_icmp_ge (q := 25) (q2 := 9) hg dX1_settle_6 (by decide) rfl (fun hb2 => ?_) (fun hb2 => ?_)
    · exact absurd hb2 (nI_ge (a := dn) (b := 200) (by omega) (by decide))
    · by_cases hs : (soB Y).1 < 0
      · have e3 : stX (f + 1) Y = (0, Y) := if_pos hs
        rw [e3] at h1 h2
        refine wm_aload_n (q := 10) (i := 0) hg dX1_settle_9 rfl rfl rfl ?_
        refine wm_aload_nN (q := 11) (i := 1) hg dX1_settle_10 rfl rfl rfl ?_
        refine wm_callV1 (q := 14) hg dX1_settle_11 rfl lk_X1_78 (by first | decide | omega) (c_settleOnce_n0 hc (by rw [eY]; exact hY) (by rw [eY]; exact hs)) (by first | assumption | decide | omega | (simp only [nO]; omega)) ⟨rfl, by decide⟩ rfl rfl (Nat.le_of_ble_eq_true rfl) ?_
        refine wm_if_ne (q := 19) (q2 := 17) hg dX1_settle_14 (by decide) rfl (fun hb3 => ?_) (fun hb3 => ?_)
        · exact absurd rfl hb3
        · refine wm_iload_n (q := 18) (i := 2) hg dX1_settle_17 rfl rfl rfl ?_
          exact wm_iret hg hr dX1_settle_18 (by rw [← h1]; rfl) (by rw [← h2])
      · have e3 : stX (f + 1) Y = ((stX f (tn1 Y)).1 + 1, (stX f (tn1 Y)).2) := if_neg hs
        rw [e3] at h1 h2
        refine wm_aload_n (q := 10) (i := 0) hg dX1_settle_9 rfl rfl rfl ?_
        refine wm_aload_nN (q := 11) (i := 1) hg dX1_settle_10 rfl rfl rfl ?_
        refine wm_callV1 (q := 14) hg dX1_settle_11 rfl lk_X1_78 (by first | decide | omega) (c_settleOnce_n1 hc (by rw [eY]; exact hY) (by rw [eY]; exact hs)) (by first | assumption | decide | omega | (simp only [nO]; omega)) ⟨rfl, by decide⟩ rfl rfl (Nat.le_of_ble_eq_true rfl) ?_
        refine wm_if_ne (q := 19) (q2 := 17) hg dX1_settle_14 (by decide) rfl (fun hb3 => ?_) (fun hb3 => ?_)
        · refine wm_iinc (q := 22) (L' := [(0, _), (1, _), (2, _)]) (nI (dn + 1)) hg dX1_settle_19 rfl rfl (nadd rfl rfl) rfl rfl ?_
          refine wm_goto (q := 2) hg dX1_settle_22 (by decide) ?_
          refine wm_mem ?_ (ih (dn + 1) (tn1 Y) (by omega) (ok10_1 rfl hY) ?_ h2)
          · rw [eY, sO_sO]
          · exact (congrArg nI (by omega)).trans h1
        · exact absurd hb3 (by decide)
set_option maxRecDepth 100000 in
set_option maxHeartbeats 4000000 in
theorem c_settle0_b {Γ : GT} {M : Mem} {c b : Nat} (hc : c < 15) (hz : ok10 (M.1 1 c)) (hbb : b < 11) (hB : okB (M.1 0 b)) : Ct Γ yX1_settle cX1_settle 3 (some .int) 4 [.ref (ad Γ 1 c 0), .ref (ad Γ 0 b 0)] M (some (.int (nI (stB 200 (M.1 1 c) (M.1 0 b)).1))) (sO (sO M 1 c (stB 200 (M.1 1 c) (M.1 0 b)).2.1) 0 b (stB 200 (M.1 1 c) (M.1 0 b)).2.2) := by
  refine ct_of (by decide) (Nat.le_of_ble_eq_true rfl) (fun K hg hr => ?_)
  show WM Γ K _ [(0, _), (1, _)] 0 []
  refine wm_iconst (q := 1) 0 hg dX1_settle_0 rfl (by decide) ?_
  refine wm_istore_n (q := 2) (i := 2) (L' := [(0, _), (1, _), (2, _)]) hg dX1_settle_1 rfl rfl rfl rfl ?_
  suffices hloop : ∀ (f dn : Nat) (Y B : OV), dn + f = 200 → ok10 Y → okB B → nI (dn + (stB f Y B).1) = nI (stB 200 (M.1 1 c) (M.1 0 b)).1 → (stB f Y B).2 = (stB 200 (M.1 1 c) (M.1 0 b)).2 → WM Γ K (sO (sO M 1 c Y) 0 b B) [(0, .ref (ad Γ 1 c 0)), (1, .ref (ad Γ 0 b 0)), (2, .int (nI dn))] 2 [] from wm_mem (by rw [sO_self, sO_self]) (hloop 200 0 (M.1 1 c) (M.1 0 b) rfl hz hB (by rw [Nat.zero_add]) rfl)
  intro f
  induction f with
  | zero =>
    intro dn Y B hd hY hBB h1 h2
    refine wm_iload_n (q := 3) (i := 2) hg dX1_settle_2 rfl rfl rfl ?_
    refine wm_sipush (q := 6) 200 hg dX1_settle_3 rfl (by decide) ?_
    refine wm_icmp_ge (q := 25) (q2 := 9) hg dX1_settle_6 (by decide) rfl (fun hb2 => ?_) (fun hb2 => ?_)
    · refine wm_sipush (q := 28) 200 hg dX1_settle_25 rfl (by decide) ?_
      exact wm_iret hg hr dX1_settle_28 (by rw [← h1, show dn = 200 from hd]; rfl) (by rw [← h2]; rfl)
    · exact absurd (nI_le (a := 200) (b := dn) (by omega) (by omega)) hb2
  | succ f ih =>
    intro dn Y B hd hY hBB h1 h2
    have eY : ((sO (sO M 1 c Y) 0 b B)).1 1 c = Y := by rw [sO_kind _ _ _ _ (by decide), sO_same]
    have eB : ((sO (sO M 1 c Y) 0 b B)).1 0 b = B := by rw [sO_same]
    refine wm_iload_n (q := 3) (i := 2) hg dX1_settle_2 rfl rfl rfl ?_
    refine wm_sipush (q := 6) 200 hg dX1_settle_3 rfl (by decide) ?_
    refine wm_icmp_ge (q := 25) (q2 := 9) hg dX1_settle_6 (by decide) rfl (fun hb2 => ?_) (fun hb2 => ?_)
    · exact absurd hb2 (nI_ge (a := dn) (b := 200) (by omega) (by decide))
    · by_cases hs : (soB Y).1 < 0
      · have e3 : stB (f + 1) Y B = (0, Y, B) := if_pos hs
        rw [e3] at h1 h2
        refine wm_aload_n (q := 10) (i := 0) hg dX1_settle_9 rfl rfl rfl ?_
        refine wm_aload_n (q := 11) (i := 1) hg dX1_settle_10 rfl rfl rfl ?_
        refine wm_callV1 (q := 14) hg dX1_settle_11 rfl lk_X1_78 (by first | decide | omega) (c_settleOnce_b0 hc (by rw [eY]; exact hY) hbb (by rw [eB]; exact hBB) (by rw [eY]; exact hs)) (by first | assumption | decide | omega | (simp only [nO]; omega)) ⟨rfl, by decide⟩ rfl rfl (Nat.le_of_ble_eq_true rfl) ?_
        refine wm_if_ne (q := 19) (q2 := 17) hg dX1_settle_14 (by decide) rfl (fun hb3 => ?_) (fun hb3 => ?_)
        · exact absurd rfl hb3
        · refine wm_iload_n (q := 18) (i := 2) hg dX1_settle_17 rfl rfl rfl ?_
          exact wm_iret hg hr dX1_settle_18 (by rw [← h1]; rfl) (by rw [← h2])
      · have e3 : stB (f + 1) Y B = ((stB f (tn1 Y) (en1 Y B)).1 + 1, (stB f (tn1 Y) (en1 Y B)).2) := if_neg hs
        rw [e3] at h1 h2
        refine wm_aload_n (q := 10) (i := 0) hg dX1_settle_9 rfl rfl rfl ?_
        refine wm_aload_n (q := 11) (i := 1) hg dX1_settle_10 rfl rfl rfl ?_
        refine wm_callV1 (q := 14) hg dX1_settle_11 rfl lk_X1_78 (by first | decide | omega) (c_settleOnce_b1 hc (by rw [eY]; exact hY) hbb (by rw [eB]; exact hBB) (by rw [eY]; exact hs)) (by first | assumption | decide | omega | (simp only [nO]; omega)) ⟨rfl, by decide⟩ rfl rfl (Nat.le_of_ble_eq_true rfl) ?_
        refine wm_if_ne (q := 19) (q2 := 17) hg dX1_settle_14 (by decide) rfl (fun hb3 => ?_) (fun hb3 => ?_)
        · refine wm_iinc (q := 22) (L' := [(0, _), (1, _), (2, _)]) (nI (dn + 1)) hg dX1_settle_19 rfl rfl (nadd rfl rfl) rfl rfl ?_
          refine wm_goto (q := 2) hg dX1_settle_22 (by decide) ?_
          refine wm_mem ?_ (ih (dn + 1) (tn1 Y) (en1 Y B) (by omega) (ok10_1 rfl hY) (okB_en hBB _ _ _) ?_ h2)
          · rw [eY, eB]; rw [sO_comm (sO M 1 c Y) b c B (tn1 Y) (Or.inl (by decide)), sO_sO, sO_sO]
          · exact (congrArg nI (by omega)).trans h1
        · exact absurd hb3 (by decide)
/-! 200 turns at most, as numbers that nothing unfolds -/
noncomputable def stR (X : OV) : Nat × OV := Classical.choose (⟨stX 200 X, rfl⟩ : ∃ r : Nat × OV, r = stX 200 X)
theorem stR_eq (X : OV) : stR X = stX 200 X := Classical.choose_spec (⟨stX 200 X, rfl⟩ : ∃ r : Nat × OV, r = stX 200 X)
noncomputable def stQ (X B : OV) : Nat × OV × OV := Classical.choose (⟨stB 200 X B, rfl⟩ : ∃ r : Nat × OV × OV, r = stB 200 X B)
theorem stQ_eq (X B : OV) : stQ X B = stB 200 X B := Classical.choose_spec (⟨stB 200 X B, rfl⟩ : ∃ r : Nat × OV × OV, r = stB 200 X B)
theorem c_settle_n {Γ : GT} {M : Mem} {c : Nat} (hc : c < 15) (hz : ok10 (M.1 1 c)) : Ct Γ yX1_settle cX1_settle 3 (some .int) 4 [.ref (ad Γ 1 c 0), .null] M (some (.int (nI (stR (M.1 1 c)).1))) (sO M 1 c (stR (M.1 1 c)).2) := by
  rw [stR_eq]
  exact c_settle0_n hc hz
theorem c_settle_b {Γ : GT} {M : Mem} {c b : Nat} (hc : c < 15) (hz : ok10 (M.1 1 c)) (hbb : b < 11) (hB : okB (M.1 0 b)) : Ct Γ yX1_settle cX1_settle 3 (some .int) 4 [.ref (ad Γ 1 c 0), .ref (ad Γ 0 b 0)] M (some (.int (nI (stQ (M.1 1 c) (M.1 0 b)).1))) (sO (sO M 1 c (stQ (M.1 1 c) (M.1 0 b)).2.1) 0 b (stQ (M.1 1 c) (M.1 0 b)).2.2) := by
  rw [stQ_eq]
  exact c_settle0_b hc hz hbb hB
theorem stB_1 : ∀ (f : Nat) (X B : OV), (stB f X B).2.1.1 = X.1
  | 0, _, _ => rfl
  | f + 1, X, B => by
    unfold stB
    split
    · rfl
    · exact stB_1 f (tn1 X) (en1 X B)
theorem stX_1 : ∀ (f : Nat) (X : OV), (stX f X).2.1 = X.1
  | 0, _ => rfl
  | f + 1, X => by
    unfold stX
    split
    · rfl
    · exact stX_1 f (tn1 X)
theorem stQ_1 (X B : OV) : (stQ X B).2.1.1 = X.1 := by rw [stQ_eq]; exact stB_1 200 X B
theorem stR_1 (X : OV) : (stR X).2.1 = X.1 := by rw [stR_eq]; exact stX_1 200 X
