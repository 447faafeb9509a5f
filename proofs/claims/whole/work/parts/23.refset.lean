/-! ===== the reference: the log and settling ===== -/
def rwLg (w : Nat → Int32) (B : OV) : Prop := w 39 = B.1 4 ∧ ∀ j, j < lgN B → w (40 + 3 * j) = B.2 5 j ∧ w (40 + 3 * j + 1) = B.2 6 j ∧ w (40 + 3 * j + 2) = B.2 7 j
def noW (w : Nat → Int32) (l : Nat) (m d f : Int32) : Nat → Int32 := upd (upd (upd (upd w (40 + 3 * l) m) (40 + 3 * l + 1) d) (40 + 3 * l + 2) f) 39 (w 39 + 1)
def shW (w : Nat → Int32) (j : Nat) : Nat → Int32 := fun k => if 40 ≤ k ∧ k < 40 + j then w (k + 3) else w k
theorem shW_s (w : Nat → Int32) (j : Nat) : upd (shW w j) (40 + j) (w (40 + j + 3)) = shW w (j + 1) := by
  funext k
  simp only [upd, shW]
  by_cases h : k = 40 + j
  · subst h
    rw [if_pos rfl, if_pos (by omega)]
  · rw [if_neg h]
    by_cases h2 : 40 ≤ k ∧ k < 40 + j
    · rw [if_pos h2, if_pos (by omega)]
    · rw [if_neg h2, if_neg (by omega)]
theorem enY_lg {B : OV} (hB : B.1 4 = nI (lgN B)) (hl : lgN B < 30) (m d f : Int32) : (enY B m d f).1 4 = nI (lgN B + 1) ∧ lgN (enY B m d f) = lgN B + 1 := by
  have e : (enY B m d f).1 4 = nI (lgN B + 1) := by
    simp only [enY, upd]
    show B.1 4 + 1 = _
    rw [hB]
    exact nI_1 _
  refine ⟨e, ?_⟩
  show ((enY B m d f).1 4).toNatClampNeg = _
  rw [e, nI_clamp (by omega)]
theorem noW_lg {w : Nat → Int32} {B : OV} (hB : B.1 4 = nI (lgN B)) (hl : lgN B < 30) (h : rwLg w B) (m d f : Int32) : rwLg (noW w (lgN B) m d f) (enY B m d f) ∧ ∀ k, k < 39 → noW w (lgN B) m d f k = w k := by
  obtain ⟨e1, e2⟩ := enY_lg hB hl m d f
  refine ⟨⟨?_, fun j hj => ?_⟩, fun k hk => ?_⟩
  · simp only [noW, upd_same]
    rw [h.1, e1, hB]
    exact nI_1 _
  · rw [e2] at hj
    by_cases hjl : j = lgN B
    · subst hjl
      have a1 : (40 + 3 * lgN B) ≠ 39 := by omega
      have a2 : (40 + 3 * lgN B) ≠ 40 + 3 * lgN B + 1 := by omega
      have a3 : (40 + 3 * lgN B) ≠ 40 + 3 * lgN B + 2 := by omega
      have a4 : (40 + 3 * lgN B + 1) ≠ 39 := by omega
      have a5 : (40 + 3 * lgN B + 1) ≠ 40 + 3 * lgN B + 2 := by omega
      have a6 : (40 + 3 * lgN B + 2) ≠ 39 := by omega
      refine ⟨?_, ?_, ?_⟩
      · simp only [noW, upd_ne _ _ a1, upd_ne _ _ a2, upd_ne _ _ a3, upd_same, enY]; simp [updA, upd]
      · simp only [noW, upd_ne _ _ a4, upd_ne _ _ a5, upd_same, enY]; simp [updA, upd]
      · simp only [noW, upd_ne _ _ a6, upd_same, enY]; simp [updA, upd]
    · have hj2 : j < lgN B := by omega
      obtain ⟨q1, q2, q3⟩ := h.2 j hj2
      refine ⟨?_, ?_, ?_⟩
      · simp only [noW, upd_ne _ _ (show 40 + 3 * j ≠ 39 by omega), upd_ne _ _ (show 40 + 3 * j ≠ 40 + 3 * lgN B + 2 by omega), upd_ne _ _ (show 40 + 3 * j ≠ 40 + 3 * lgN B + 1 by omega), upd_ne _ _ (show 40 + 3 * j ≠ 40 + 3 * lgN B by omega), q1]
        simp [enY, updA, upd, hjl]
      · simp only [noW, upd_ne _ _ (show 40 + 3 * j + 1 ≠ 39 by omega), upd_ne _ _ (show 40 + 3 * j + 1 ≠ 40 + 3 * lgN B + 2 by omega), upd_ne _ _ (show 40 + 3 * j + 1 ≠ 40 + 3 * lgN B + 1 by omega), upd_ne _ _ (show 40 + 3 * j + 1 ≠ 40 + 3 * lgN B by omega), q2]
        simp [enY, updA, upd, hjl]
      · simp only [noW, upd_ne _ _ (show 40 + 3 * j + 2 ≠ 39 by omega), upd_ne _ _ (show 40 + 3 * j + 2 ≠ 40 + 3 * lgN B + 2 by omega), upd_ne _ _ (show 40 + 3 * j + 2 ≠ 40 + 3 * lgN B + 1 by omega), upd_ne _ _ (show 40 + 3 * j + 2 ≠ 40 + 3 * lgN B by omega), q3]
        simp [enY, updA, upd, hjl]
  · simp only [noW, upd_ne _ _ (show k ≠ 39 by omega), upd_ne _ _ (show k ≠ 40 + 3 * lgN B + 2 by omega), upd_ne _ _ (show k ≠ 40 + 3 * lgN B + 1 by omega), upd_ne _ _ (show k ≠ 40 + 3 * lgN B by omega)]
theorem shW_lg {w : Nat → Int32} {B : OV} (hl : lgN B = 30) (h : rwLg w B) : rwLg (upd (shW w 87) 39 29) (doX B) ∧ ∀ k, k < 39 → upd (shW w 87) 39 29 k = w k := by
  refine ⟨⟨?_, fun j hj => ?_⟩, fun k hk => ?_⟩
  · rw [upd_same]; simp [doX, upd]
  · rw [lgN_do] at hj
    obtain ⟨q1, q2, q3⟩ := h.2 (j + 1) (by omega)
    refine ⟨?_, ?_, ?_⟩
    · rw [upd_ne _ _ (by omega)]
      simp only [shW]
      rw [if_pos (by omega), show 40 + 3 * j + 3 = 40 + 3 * (j + 1) by omega, q1]
      simp [doX, updA, shF, hj, Nat.add_comm]
    · rw [upd_ne _ _ (by omega)]
      simp only [shW]
      rw [if_pos (by omega), show 40 + 3 * j + 1 + 3 = 40 + 3 * (j + 1) + 1 by omega, q2]
      simp [doX, updA, shF, hj, Nat.add_comm]
    · rw [upd_ne _ _ (by omega)]
      simp only [shW]
      rw [if_pos (by omega), show 40 + 3 * j + 2 + 3 = 40 + 3 * (j + 1) + 2 by omega, q3]
      simp [doX, updA, shF, hj, Nat.add_comm]
  · rw [upd_ne _ _ (by omega)]
    simp only [shW]
    rw [if_neg (by omega)]
set_option maxRecDepth 100000 in
set_option maxHeartbeats 4000000 in
theorem c_X5_note {Γ : GT} {M : Mem} {R B : OV} {m d f : Int32} (hB : okB B) (hL : rwLg (R.2 0) B) : CtR Γ yX5_note cX5_note 5 none 1 [.ref (ad Γ 5 0 0), .int m, .int d, .int f] M R none (fun R' => ∃ w, R' = oA R 0 w ∧ (∀ k, k < 39 → w k = R.2 0 k) ∧ rwLg w (enX B m d f)) := by
  refine ctr_of (by decide) (Nat.le_of_ble_eq_true rfl) (fun K hg hr => ?_)
  show WM Γ K _ [(0, _), (1, _), (2, _), (3, _)] 0 []
  have h39 : R.2 0 39 = nI (lgN B) := hL.1.trans hB.1
  have hB2 := hB.2
  refine wm_aload_n (q := 1) (i := 0) hg dX5_note_0 rfl rfl rfl ?_
  refine wm_get (q := 4) hg dX5_note_1 rfl fl_X5_7 (by first | assumption | decide | omega | (simp only [nO]; omega)) rfl ?_
  refine wm_bipush (q := 6) 39 hg dX5_note_4 rfl (by decide) ?_
  refine wm_rload (q := 7) 39 hg dX5_note_6 rfl rfl (rfl : (39 : Int32) = nI 39) (by simp only [alen]; omega) ?_
  refine wm_bipush (q := 9) 30 hg dX5_note_7 rfl (by decide) ?_
  refine wm_icmp_ne (q := 56) (q2 := 12) hg dX5_note_9 (by decide) rfl (fun h1 => ?_) (fun h1 => ?_)
  · have hlt : lgN B < 30 := by
      rcases Nat.lt_or_ge (lgN B) 30 with q | q
      · exact q
      · exact absurd (by rw [h39, show lgN B = 30 by omega]; rfl) h1
    have hI : B.1 4 < 30 := by rw [hB.1]; exact nI_lt hlt (by decide)
    obtain ⟨q1, q2⟩ := noW_lg hB.1 hlt hL m d f
    refine wm_bipush (q := 58) 40 hg dX5_note_56 rfl (by decide) ?_
    refine wm_iconst (q := 59) 3 hg dX5_note_58 rfl (by decide) ?_
    refine wm_aload_n (q := 60) (i := 0) hg dX5_note_59 rfl rfl rfl ?_
    refine wm_get (q := 63) hg dX5_note_60 rfl fl_X5_7 (by first | assumption | decide | omega | (simp only [nO]; omega)) rfl ?_
    refine wm_bipush (q := 65) 39 hg dX5_note_63 rfl (by decide) ?_
    refine wm_rload (q := 66) 39 hg dX5_note_65 rfl rfl (rfl : (39 : Int32) = nI 39) (by simp only [alen]; omega) ?_
    refine wm_imul (q := 67) hg dX5_note_66 rfl ?_
    refine wm_iadd (q := 68) hg dX5_note_67 rfl ?_
    refine wm_istore (q := 70) (i := 4) (L' := [(0, _), (1, _), (2, _), (3, _), (4, _)]) hg dX5_note_68 rfl rfl rfl ?_
    refine wm_aload_n (q := 71) (i := 0) hg dX5_note_70 rfl rfl rfl ?_
    refine wm_get (q := 74) hg dX5_note_71 rfl fl_X5_7 (by first | assumption | decide | omega | (simp only [nO]; omega)) rfl ?_
    refine wm_iload (q := 76) (i := 4) hg dX5_note_74 rfl rfl ?_
    refine wm_iload_n (q := 77) (i := 1) hg dX5_note_76 rfl rfl rfl ?_
    refine wm_rstore (q := 78) (40 + (3 * (lgN B))) hg dX5_note_77 rfl rfl (nadd (a := 40) (b := (3 * (lgN B))) (rfl : (40 : Int32) = nI 40) (nmul (a := 3) (b := (lgN B)) (rfl : (3 : Int32) = nI 3) h39)) (by simp only [alen]; omega) ?_
    refine wm_aload_n (q := 79) (i := 0) hg dX5_note_78 rfl rfl rfl ?_
    refine wm_get (q := 82) hg dX5_note_79 rfl fl_X5_7 (by first | assumption | decide | omega | (simp only [nO]; omega)) rfl ?_
    refine wm_iload (q := 84) (i := 4) hg dX5_note_82 rfl rfl ?_
    refine wm_iconst (q := 85) 1 hg dX5_note_84 rfl (by decide) ?_
    refine wm_iadd (q := 86) hg dX5_note_85 rfl ?_
    refine wm_iload_n (q := 87) (i := 2) hg dX5_note_86 rfl rfl rfl ?_
    refine wm_rstore (q := 88) ((40 + (3 * (lgN B))) + 1) hg dX5_note_87 rfl rfl (nadd (a := (40 + (3 * (lgN B)))) (b := 1) (nadd (a := 40) (b := (3 * (lgN B))) (rfl : (40 : Int32) = nI 40) (nmul (a := 3) (b := (lgN B)) (rfl : (3 : Int32) = nI 3) h39)) (rfl : (1 : Int32) = nI 1)) (by simp only [alen]; omega) ?_
    refine wm_aload_n (q := 89) (i := 0) hg dX5_note_88 rfl rfl rfl ?_
    refine wm_get (q := 92) hg dX5_note_89 rfl fl_X5_7 (by first | assumption | decide | omega | (simp only [nO]; omega)) rfl ?_
    refine wm_iload (q := 94) (i := 4) hg dX5_note_92 rfl rfl ?_
    refine wm_iconst (q := 95) 2 hg dX5_note_94 rfl (by decide) ?_
    refine wm_iadd (q := 96) hg dX5_note_95 rfl ?_
    refine wm_iload_n (q := 97) (i := 3) hg dX5_note_96 rfl rfl rfl ?_
    refine wm_rstore (q := 98) ((40 + (3 * (lgN B))) + 2) hg dX5_note_97 rfl rfl (nadd (a := (40 + (3 * (lgN B)))) (b := 2) (nadd (a := 40) (b := (3 * (lgN B))) (rfl : (40 : Int32) = nI 40) (nmul (a := 3) (b := (lgN B)) (rfl : (3 : Int32) = nI 3) h39)) (rfl : (2 : Int32) = nI 2)) (by simp only [alen]; omega) ?_
    refine wm_aload_n (q := 99) (i := 0) hg dX5_note_98 rfl rfl rfl ?_
    refine wm_get (q := 102) hg dX5_note_99 rfl fl_X5_7 (by first | assumption | decide | omega | (simp only [nO]; omega)) rfl ?_
    refine wm_bipush (q := 104) 39 hg dX5_note_102 rfl (by decide) ?_
    refine wm_dup2 (q := 105) hg dX5_note_104 rfl rfl rfl ?_
    refine wm_rload (q := 106) 39 hg dX5_note_105 rfl rfl (rfl : (39 : Int32) = nI 39) (by simp only [alen]; omega) ?_
    refine wm_iconst (q := 107) 1 hg dX5_note_106 rfl (by decide) ?_
    refine wm_iadd (q := 108) hg dX5_note_107 rfl ?_
    refine wm_rstore (q := 109) 39 hg dX5_note_108 rfl rfl (rfl : (39 : Int32) = nI 39) (by simp only [alen]; omega) ?_
    exact wm_vrret hg hr dX5_note_109 ⟨noW (R.2 0) (lgN B) m d f, by simp only [oA_oA, oA_w, updA_same, updA_updA, noW, upd_ne _ _ (show (39:Nat) ≠ 40 + 3 * lgN B + 2 by omega), upd_ne _ _ (show (39:Nat) ≠ 40 + 3 * lgN B + 1 by omega), upd_ne _ _ (show (39:Nat) ≠ 40 + 3 * lgN B by omega)], q2, by rw [enX, if_pos hI]; exact q1⟩
  · have hlt : lgN B = 30 := by
      have e : nI (lgN B) = nI 30 := by rw [← h39, h1]; rfl
      exact (nI_eq (by omega) (by decide)).mp e
    have hI : ¬ B.1 4 < 30 := by rw [hB.1, hlt]; decide
    obtain ⟨q1, q2⟩ := shW_lg hlt hL
    obtain ⟨q3, q4⟩ := noW_lg (B := doX B) rfl (by rw [lgN_do]; decide) q1 m d f
    rw [lgN_do] at q3 q4
    refine wm_bipush (q := 14) 40 hg dX5_note_12 rfl (by decide) ?_
    refine wm_istore (q := 16) (i := 4) (L' := [(0, _), (1, _), (2, _), (3, _), (4, _)]) hg dX5_note_14 rfl rfl rfl ?_
    suffices hloop : ∀ (n i : Nat), i + n = 87 → WM Γ K (sR M (oA R 0 (shW (R.2 0) i))) [(0, .ref (ad Γ 5 0 0)), (1, .int m), (2, .int d), (3, .int f), (4, .int (nI (40 + i)))] 16 [] from wm_R (by rw [show shW (R.2 0) 0 = R.2 0 from by funext k; simp only [shW]; rw [if_neg (by omega)]]; exact (oA_self R 0).symm) (hloop 87 0 (by omega))
    intro n
    induction n with
    | zero =>
      intro i hi 
      refine wm_iload (q := 18) (i := 4) hg dX5_note_16 rfl rfl ?_
      refine wm_bipush (q := 20) 127 hg dX5_note_18 rfl (by decide) ?_
      refine wm_icmp_ge (q := 45) (q2 := 23) hg dX5_note_20 (by decide) rfl (fun hb => ?_) (fun hb => ?_)
      · have he : i = 87 := by omega
        subst he
        refine wm_aload_n (q := 46) (i := 0) hg dX5_note_45 rfl rfl rfl ?_
        refine wm_get (q := 49) hg dX5_note_46 rfl fl_X5_7 (by first | assumption | decide | omega | (simp only [nO]; omega)) rfl ?_
        refine wm_bipush (q := 51) 39 hg dX5_note_49 rfl (by decide) ?_
        refine wm_dup2 (q := 52) hg dX5_note_51 rfl rfl rfl ?_
        refine wm_rload (q := 53) 39 hg dX5_note_52 rfl rfl (rfl : (39 : Int32) = nI 39) (by simp only [alen]; omega) ?_
        refine wm_iconst (q := 54) 1 hg dX5_note_53 rfl (by decide) ?_
        refine wm_isub (q := 55) hg dX5_note_54 rfl ?_
        refine wm_rstore (q := 56) 39 hg dX5_note_55 rfl rfl (rfl : (39 : Int32) = nI 39) (by simp only [alen]; omega) ?_
        refine wm_L (L' := [(0, _), (1, _), (2, _), (3, _)]) [0, 1, 2, 3] rfl ?_
        refine wm_R (R' := oA R 0 (upd (shW (R.2 0) 87) 39 29)) (by simp only [oA_oA, oA_w, updA_same, updA_updA, show shW (R.2 0) 87 39 = 30 from by simp only [shW]; rw [if_neg (by omega), h1]]; rfl) ?_
        refine wm_bipush (q := 58) 40 hg dX5_note_56 rfl (by decide) ?_
        refine wm_iconst (q := 59) 3 hg dX5_note_58 rfl (by decide) ?_
        refine wm_aload_n (q := 60) (i := 0) hg dX5_note_59 rfl rfl rfl ?_
        refine wm_get (q := 63) hg dX5_note_60 rfl fl_X5_7 (by first | assumption | decide | omega | (simp only [nO]; omega)) rfl ?_
        refine wm_bipush (q := 65) 39 hg dX5_note_63 rfl (by decide) ?_
        refine wm_rload (q := 66) 39 hg dX5_note_65 rfl rfl (rfl : (39 : Int32) = nI 39) (by simp only [alen]; omega) ?_
        refine wm_imul (q := 67) hg dX5_note_66 rfl ?_
        refine wm_iadd (q := 68) hg dX5_note_67 rfl ?_
        refine wm_istore (q := 70) (i := 4) (L' := [(0, _), (1, _), (2, _), (3, _), (4, _)]) hg dX5_note_68 rfl rfl rfl ?_
        refine wm_aload_n (q := 71) (i := 0) hg dX5_note_70 rfl rfl rfl ?_
        refine wm_get (q := 74) hg dX5_note_71 rfl fl_X5_7 (by first | assumption | decide | omega | (simp only [nO]; omega)) rfl ?_
        refine wm_iload (q := 76) (i := 4) hg dX5_note_74 rfl rfl ?_
        refine wm_iload_n (q := 77) (i := 1) hg dX5_note_76 rfl rfl rfl ?_
        refine wm_rstore (q := 78) (40 + (3 * 29)) hg dX5_note_77 rfl rfl (nadd (a := 40) (b := (3 * 29)) (rfl : (40 : Int32) = nI 40) (nmul (a := 3) (b := 29) (rfl : (3 : Int32) = nI 3) (by rw [oA_w, upd_same]; rfl))) (by simp only [alen]; omega) ?_
        refine wm_aload_n (q := 79) (i := 0) hg dX5_note_78 rfl rfl rfl ?_
        refine wm_get (q := 82) hg dX5_note_79 rfl fl_X5_7 (by first | assumption | decide | omega | (simp only [nO]; omega)) rfl ?_
        refine wm_iload (q := 84) (i := 4) hg dX5_note_82 rfl rfl ?_
        refine wm_iconst (q := 85) 1 hg dX5_note_84 rfl (by decide) ?_
        refine wm_iadd (q := 86) hg dX5_note_85 rfl ?_
        refine wm_iload_n (q := 87) (i := 2) hg dX5_note_86 rfl rfl rfl ?_
        refine wm_rstore (q := 88) ((40 + (3 * 29)) + 1) hg dX5_note_87 rfl rfl (nadd (a := (40 + (3 * 29))) (b := 1) (nadd (a := 40) (b := (3 * 29)) (rfl : (40 : Int32) = nI 40) (nmul (a := 3) (b := 29) (rfl : (3 : Int32) = nI 3) (by rw [oA_w, upd_same]; rfl))) (rfl : (1 : Int32) = nI 1)) (by simp only [alen]; omega) ?_
        refine wm_aload_n (q := 89) (i := 0) hg dX5_note_88 rfl rfl rfl ?_
        refine wm_get (q := 92) hg dX5_note_89 rfl fl_X5_7 (by first | assumption | decide | omega | (simp only [nO]; omega)) rfl ?_
        refine wm_iload (q := 94) (i := 4) hg dX5_note_92 rfl rfl ?_
        refine wm_iconst (q := 95) 2 hg dX5_note_94 rfl (by decide) ?_
        refine wm_iadd (q := 96) hg dX5_note_95 rfl ?_
        refine wm_iload_n (q := 97) (i := 3) hg dX5_note_96 rfl rfl rfl ?_
        refine wm_rstore (q := 98) ((40 + (3 * 29)) + 2) hg dX5_note_97 rfl rfl (nadd (a := (40 + (3 * 29))) (b := 2) (nadd (a := 40) (b := (3 * 29)) (rfl : (40 : Int32) = nI 40) (nmul (a := 3) (b := 29) (rfl : (3 : Int32) = nI 3) (by rw [oA_w, upd_same]; rfl))) (rfl : (2 : Int32) = nI 2)) (by simp only [alen]; omega) ?_
        refine wm_aload_n (q := 99) (i := 0) hg dX5_note_98 rfl rfl rfl ?_
        refine wm_get (q := 102) hg dX5_note_99 rfl fl_X5_7 (by first | assumption | decide | omega | (simp only [nO]; omega)) rfl ?_
        refine wm_bipush (q := 104) 39 hg dX5_note_102 rfl (by decide) ?_
        refine wm_dup2 (q := 105) hg dX5_note_104 rfl rfl rfl ?_
        refine wm_rload (q := 106) 39 hg dX5_note_105 rfl rfl (rfl : (39 : Int32) = nI 39) (by simp only [alen]; omega) ?_
        refine wm_iconst (q := 107) 1 hg dX5_note_106 rfl (by decide) ?_
        refine wm_iadd (q := 108) hg dX5_note_107 rfl ?_
        refine wm_rstore (q := 109) 39 hg dX5_note_108 rfl rfl (rfl : (39 : Int32) = nI 39) (by simp only [alen]; omega) ?_
        exact wm_vrret hg hr dX5_note_109 ⟨noW (upd (shW (R.2 0) 87) 39 29) 29 m d f, by simp only [oA_oA, oA_w, updA_same, updA_updA, noW, upd_ne _ _ (show (39:Nat) ≠ 40 + 3 * 29 + 2 by decide), upd_ne _ _ (show (39:Nat) ≠ 40 + 3 * 29 + 1 by decide), upd_ne _ _ (show (39:Nat) ≠ 40 + 3 * 29 by decide), upd_same], fun k hk => (q4 k hk).trans (q2 k hk), by rw [enX, if_neg hI]; exact q3⟩
      · exact absurd (nI_le (a := 127) (b := 40 + i) (by omega) (by omega)) hb
    | succ n ih =>
      intro i hi 
      refine wm_iload (q := 18) (i := 4) hg dX5_note_16 rfl rfl ?_
      refine wm_bipush (q := 20) 127 hg dX5_note_18 rfl (by decide) ?_
      refine wm_icmp_ge (q := 45) (q2 := 23) hg dX5_note_20 (by decide) rfl (fun hb => ?_) (fun hb => ?_)
      · exact absurd hb (nI_ge (a := 40 + i) (b := 127) (by omega) (by decide))
      · refine wm_aload_n (q := 24) (i := 0) hg dX5_note_23 rfl rfl rfl ?_
        refine wm_get (q := 27) hg dX5_note_24 rfl fl_X5_7 (by first | assumption | decide | omega | (simp only [nO]; omega)) rfl ?_
        refine wm_iload (q := 29) (i := 4) hg dX5_note_27 rfl rfl ?_
        refine wm_aload_n (q := 30) (i := 0) hg dX5_note_29 rfl rfl rfl ?_
        refine wm_get (q := 33) hg dX5_note_30 rfl fl_X5_7 (by first | assumption | decide | omega | (simp only [nO]; omega)) rfl ?_
        refine wm_iload (q := 35) (i := 4) hg dX5_note_33 rfl rfl ?_
        refine wm_iconst (q := 36) 3 hg dX5_note_35 rfl (by decide) ?_
        refine wm_iadd (q := 37) hg dX5_note_36 rfl ?_
        refine wm_rload (q := 38) ((40 + i) + 3) hg dX5_note_37 rfl rfl (nadd (a := (40 + i)) (b := 3) rfl (rfl : (3 : Int32) = nI 3)) (by simp only [alen]; omega) ?_
        refine wm_rstore (q := 39) (40 + i) hg dX5_note_38 rfl rfl rfl (by simp only [alen]; omega) ?_
        refine wm_iinc (q := 42) (L' := [(0, _), (1, _), (2, _), (3, _), (4, _)]) (nI ((40 + i) + 1)) hg dX5_note_39 rfl rfl (nadd rfl rfl) rfl rfl ?_
        refine wm_goto (q := 16) hg dX5_note_42 (by decide) ?_
        exact wm_R (by simp only [oA_oA, oA_w, updA_same, updA_updA]; rw [show shW (R.2 0) i (40 + i + 3) = R.2 0 (40 + i + 3) from by simp only [shW]; rw [if_neg (by omega)], shW_s]) (ih (i + 1) (by omega))
/-! settling: the reference's choice of a turn is the class's -/
def rD (n d f : Int32) (r : Int32 × Int32 × Int32) : Int32 × Int32 × Int32 := if f ≤ r.2.2 then r else (n, d, f)
def rS (X : OV) (i : Nat) (r : Int32 × Int32 × Int32) : Int32 × Int32 × Int32 := if X.2 2 i = 0 then rD (nI i) (-1) (freed X i (-1)) (rD (nI i) 1 (freed X i 1) r) else r
def rA (X : OV) : Nat → Int32 × Int32 × Int32
  | 0 => (-1000000009, 0, X.1 5)
  | i + 1 => rS X i (rA X i)
theorem freed_U (X : OV) (i : Nat) : freed X i 1 = soU X i := rfl
theorem freed_D (X : OV) (i : Nat) : freed X i (-1) = soD X i := by
  unfold freed soD
  rw [Int32.sub_eq_add_neg (X.2 1 i) 1]
theorem rA_so {X : OV} (hr : rgX X) : ∀ i, i ≤ szN X → (rA X i).2 = (soA X i).2 ∧ (rA X i).1 = if (soA X i).1 < 0 then -1000000009 else (soA X i).1
  | 0, _ => ⟨rfl, by show (-1000000009 : Int32) = if (-1 : Int32) < 0 then -1000000009 else -1; decide⟩
  | i + 1, h => by
    obtain ⟨e1, e2⟩ := rA_so hr i (by omega)
    have hz2 := hr.1.2
    have hn : ¬ nI i < 0 := nI_pos (by omega)
    obtain ⟨-, hh, -⟩ := hr.2.2 i (by omega)
    show (rS X i (rA X i)).2 = _ ∧ (rS X i (rA X i)).1 = _
    rcases hh with hh | hh
    · have h1 : ¬ X.2 2 i = 1 := by rw [hh]; decide
      have eb : (rA X i).2.2 = (soA X i).2.2 := by rw [e1]
      unfold rS
      rw [if_pos hh, freed_U, freed_D]
      by_cases h2 : soM (soU X i) (soD X i) ≤ (soA X i).2.2
      · rw [soA_k h1 h2]
        have hu : soU X i ≤ (rA X i).2.2 := by
          rw [eb]
          unfold soM at h2
          simp only [Int32.le_iff_toInt_le, Int32.lt_iff_toInt_lt] at *
          split at h2 <;> omega
        have hd : soD X i ≤ (rA X i).2.2 := by
          rw [eb]
          unfold soM at h2
          simp only [Int32.le_iff_toInt_le, Int32.lt_iff_toInt_lt] at *
          split at h2 <;> omega
        simp only [rD, if_pos hu, if_pos hd]
        exact ⟨e1, e2⟩
      · by_cases h3 : soU X i < soD X i
        · rw [soA_p h1 h2 h3]
          have hm : soM (soU X i) (soD X i) = soD X i := if_pos h3
          rw [hm] at h2 ⊢
          simp only [if_neg hn]
          by_cases hu : soU X i ≤ (rA X i).2.2
          · have hd : ¬ soD X i ≤ (rA X i).2.2 := by rw [eb]; exact h2
            simp only [rD, if_pos hu, if_neg hd, and_self]
          · have hd : ¬ soD X i ≤ soU X i := Int32.not_le.mpr h3
            simp only [rD, if_neg hu, if_neg hd, and_self]
        · rw [soA_q h1 h2 h3]
          have hm : soM (soU X i) (soD X i) = soU X i := if_neg h3
          rw [hm] at h2 ⊢
          simp only [if_neg hn]
          have hu : ¬ soU X i ≤ (rA X i).2.2 := by rw [eb]; exact h2
          have hd : soD X i ≤ soU X i := Int32.not_lt.mp h3
          simp only [rD, if_neg hu, if_pos hd, and_self]
    · have h0 : ¬ X.2 2 i = 0 := by rw [hh]; decide
      unfold rS
      rw [if_neg h0, soA_h hh]
      exact ⟨e1, e2⟩
theorem soA_dir (X : OV) : ∀ i, (soA X i).1 < 0 ∨ (soA X i).2.1 = 1 ∨ (soA X i).2.1 = -1
  | 0 => Or.inl (show (-1 : Int32) < 0 by decide)
  | i + 1 => by
    have h0 := soA_dir X i
    by_cases h1 : X.2 2 i = 1
    · rw [soA_h h1]; exact h0
    · by_cases h2 : soM (soU X i) (soD X i) ≤ (soA X i).2.2
      · rw [soA_k h1 h2]; exact h0
      · by_cases h3 : soU X i < soD X i
        · rw [soA_p h1 h2 h3]; exact Or.inr (Or.inr rfl)
        · rw [soA_q h1 h2 h3]; exact Or.inr (Or.inl rfl)
theorem enX_i (B : OV) (m d f : Int32) : (enX B m d f).1 0 = B.1 0 ∧ (enX B m d f).1 1 = B.1 1 + f ∧ (enX B m d f).1 2 = B.1 2 + 1 ∧ (enX B m d f).1 3 = B.1 3 := by
  unfold enX
  split <;> simp [enY, doX, upd]
theorem and7 (x : Int32) : ∃ a : Nat, a < 8 ∧ x &&& 7 = nI a := pk_andE x (m := 7) 3 rfl
theorem rgX_turn {X : OV} (h : rgX X) (t : Nat) (d : Int32) : rgX (turnX X t d) := by
  refine ⟨ok10_1 rfl h.1, h.2.1, fun k hk => ?_⟩
  obtain ⟨h1, h2, h3⟩ := h.2.2 k hk
  refine ⟨?_, h2, h3⟩
  show ∃ a : Nat, a < 8 ∧ updA X.2 1 (upd (X.2 1) t ((X.2 1 t + d) &&& 7)) 1 k = nI a
  rw [updA_same]
  by_cases e : k = t
  · subst e; rw [upd_same]; exact and7 _
  · rw [upd_ne _ _ e]; exact h1
theorem rwC_turn {w w' : Nat → Int32} {X : OV} (h : rwC w X) {t : Nat} {d : Int32} (ht : t < szN X) (h10 : szN X ≤ 10) (h1 : w' (1 + t) = (X.2 1 t + d) &&& 7) (h2 : ∀ k, k < 35 → k ≠ 1 + t → w' k = w k) : rwC w' (turnX X t d) := by
  refine ⟨(h2 0 (by omega) (by omega)).trans h.1, fun k hk => ?_, (h2 31 (by omega) (by omega)).trans h.2.2.1, (h2 32 (by omega) (by omega)).trans h.2.2.2.1, fun a => ?_⟩
  · have hk2 : k < szN X := hk
    obtain ⟨q1, q2, q3⟩ := h.2.1 k hk2
    refine ⟨?_, (h2 (11 + k) (by omega) (by omega)).trans q2, (h2 (21 + k) (by omega) (by omega)).trans q3⟩
    show w' (1 + k) = updA X.2 1 (upd (X.2 1) t ((X.2 1 t + d) &&& 7)) 1 k
    rw [updA_same]
    by_cases e : k = t
    · subst e; rw [upd_same]; exact h1
    · rw [upd_ne _ _ e, h2 (1 + k) (by omega) (by omega)]; exact q1
  · rw [h2 33 (by omega) (by omega), h2 34 (by omega) (by omega)]
    exact h.2.2.2.2 a
set_option maxRecDepth 100000 in
set_option maxHeartbeats 4000000 in
theorem c_X5_settle {Γ : GT} {M : Mem} {R X B : OV} (hW : RWs (R.2 0) X B) : CtR Γ yX5_settle cX5_settle 9 (some .int) 5 [.ref (ad Γ 5 0 0)] M R (some (.int (nI (stQ X B).1))) (fun R' => ∃ w, R' = oA R 0 w ∧ RWs w (stQ X B).2.1 (stQ X B).2.2 ∧ w 33 = R.2 0 33 ∧ w 34 = R.2 0 34) := by
  refine ctr_of (by decide) (Nat.le_of_ble_eq_true rfl) (fun K hg hr => ?_)
  show WM Γ K _ [(0, _)] 0 []
  refine wm_iconst (q := 1) 0 hg dX5_settle_0 rfl (by decide) ?_
  refine wm_istore_n (q := 2) (i := 1) (L' := [(0, _), (1, _)]) hg dX5_settle_1 rfl rfl rfl rfl ?_
  refine wm_iconst (q := 3) 1 hg dX5_settle_2 rfl (by decide) ?_
  refine wm_istore_n (q := 4) (i := 2) (L' := [(0, _), (1, _), (2, _)]) hg dX5_settle_3 rfl rfl rfl rfl ?_
  rw [stQ_eq] at hr
  suffices hloop : ∀ (f dn : Nat) (w : Nat → Int32) (Y C : OV), dn + f = 200 → RWs w Y C → w 33 = R.2 0 33 → w 34 = R.2 0 34 → nI (dn + (stB f Y C).1) = nI (stB 200 X B).1 → (stB f Y C).2 = (stB 200 X B).2 → WM Γ K (sR M (oA R 0 w)) [(0, .ref (ad Γ 5 0 0)), (1, .int (nI dn)), (2, .int 1)] 4 [] from wm_R (oA_self R 0).symm (hloop 200 0 (R.2 0) X B rfl hW rfl rfl (by rw [Nat.zero_add]) rfl)
  generalize stB 200 X B = fin at hr ⊢
  intro f
  induction f with
  | zero =>
    intro dn w Y C hd hY h33 h34 hf1 hf2
    refine wm_iload_n (q := 5) (i := 2) hg dX5_settle_4 rfl rfl rfl ?_
    refine wm_if_eq (q := 179) (q2 := 8) hg dX5_settle_5 (by decide) rfl (fun ha => ?_) (fun ha => ?_)
    · exact absurd ha (by decide)
    · refine wm_iload_n (q := 9) (i := 1) hg dX5_settle_8 rfl rfl rfl ?_
      refine wm_sipush (q := 12) 200 hg dX5_settle_9 rfl (by decide) ?_
      refine wm_icmp_ge (q := 179) (q2 := 15) hg dX5_settle_12 (by decide) rfl (fun hb => ?_) (fun hb => ?_)
      · refine wm_iload_n (q := 180) (i := 1) hg dX5_settle_179 rfl rfl rfl ?_
        exact wm_irret hg hr dX5_settle_180 (by rw [← hf1, show dn = 200 from hd]; rfl) (⟨w, rfl, by rw [← hf2]; exact hY, h33, h34⟩)
      · exact absurd (nI_le (a := 200) (b := dn) (by omega) (by omega)) hb
  | succ f ihf =>
    intro dn w Y C hd hY h33 h34 hf1 hf2
    have hrg := hY.1
    have hz := hrg.1
    have hz2 := hz.2
    have hX : rwC ((oA R 0 w).2 0) Y := by rw [oA_w]; exact hY.2.1
    have hw0 : (oA R 0 w).2 0 0 = nI (szN Y) := by rw [oA_w]; exact hY.2.1.1.trans hz.1
    have hw32 : (oA R 0 w).2 0 32 = Y.1 5 := by rw [oA_w]; exact hY.2.1.2.2.2.1
    have hhe : ∀ k, k < szN Y → (oA R 0 w).2 0 (11 + k) = Y.2 2 k := fun k hk => by rw [oA_w]; exact (hY.2.1.2.1 k hk).2.1
    refine wm_iload_n (q := 5) (i := 2) hg dX5_settle_4 rfl rfl rfl ?_
    refine wm_if_eq (q := 179) (q2 := 8) hg dX5_settle_5 (by decide) rfl (fun ha => ?_) (fun ha => ?_)
    · exact absurd ha (by decide)
    · refine wm_iload_n (q := 9) (i := 1) hg dX5_settle_8 rfl rfl rfl ?_
      refine wm_sipush (q := 12) 200 hg dX5_settle_9 rfl (by decide) ?_
      refine wm_icmp_ge (q := 179) (q2 := 15) hg dX5_settle_12 (by decide) rfl (fun hb0 => ?_) (fun hb0 => ?_)
      · exact absurd hb0 (nI_ge (a := dn) (b := 200) (by omega) (by decide))
      · refine wm_ldc (q := 17) (-1000000009) hg dX5_settle_15 rfl ld_X5_25 ?_
        refine wm_istore_n (q := 18) (i := 3) (L' := [(0, _), (1, _), (2, _), (3, _)]) hg dX5_settle_17 rfl rfl rfl rfl ?_
        refine wm_iconst (q := 19) 0 hg dX5_settle_18 rfl (by decide) ?_
        refine wm_istore (q := 21) (i := 4) (L' := [(0, _), (1, _), (2, _), (3, _), (4, _)]) hg dX5_settle_19 rfl rfl rfl ?_
        refine wm_aload_n (q := 22) (i := 0) hg dX5_settle_21 rfl rfl rfl ?_
        refine wm_get (q := 25) hg dX5_settle_22 rfl fl_X5_7 (by first | assumption | decide | omega | (simp only [nO]; omega)) rfl ?_
        refine wm_bipush (q := 27) 32 hg dX5_settle_25 rfl (by decide) ?_
        refine wm_rload (q := 28) 32 hg dX5_settle_27 rfl rfl (rfl : (32 : Int32) = nI 32) (by simp only [alen]; omega) ?_
        refine wm_istore (q := 30) (i := 5) (L' := [(0, _), (1, _), (2, _), (3, _), (4, _), (5, _)]) hg dX5_settle_28 rfl rfl rfl ?_
        refine wm_iconst (q := 31) 0 hg dX5_settle_30 rfl (by decide) ?_
        refine wm_istore (q := 33) (i := 6) (L' := [(0, _), (1, _), (2, _), (3, _), (4, _), (5, _), (6, _)]) hg dX5_settle_31 rfl rfl rfl ?_
        suffices hloop : ∀ (n i : Nat), i + n = (szN Y) → WM Γ K (sR M (oA R 0 w)) [(0, .ref (ad Γ 5 0 0)), (1, .int (nI dn)), (2, .int 1), (3, .int (rA Y i).1), (4, .int (rA Y i).2.1), (5, .int (rA Y i).2.2), (6, .int (nI i))] 33 [] from wm_Leq (by rw [hw32]; rfl) (hloop (szN Y) 0 (by omega))
        intro n
        induction n with
        | zero =>
          intro i hi 
          refine wm_iload (q := 35) (i := 6) hg dX5_settle_33 rfl rfl ?_
          refine wm_aload_n (q := 36) (i := 0) hg dX5_settle_35 rfl rfl rfl ?_
          refine wm_get (q := 39) hg dX5_settle_36 rfl fl_X5_7 (by first | assumption | decide | omega | (simp only [nO]; omega)) rfl ?_
          refine wm_iconst (q := 40) 0 hg dX5_settle_39 rfl (by decide) ?_
          refine wm_rload (q := 41) 0 hg dX5_settle_40 rfl rfl (rfl : (0 : Int32) = nI 0) (by simp only [alen]; omega) ?_
          refine wm_icmp_ge (q := 107) (q2 := 44) hg dX5_settle_41 (by decide) rfl (fun hb => ?_) (fun hb => ?_)
          · have he : i = szN Y := by omega
            subst he
            obtain ⟨g1, g2⟩ := rA_so hrg (szN Y) (Nat.le_refl _)
            by_cases hs : (soB Y).1 < 0
            · have e3 : stB (f + 1) Y C = (0, Y, C) := if_pos hs
              rw [e3] at hf1 hf2
              have g3 : (rA Y (szN Y)).1 = -1000000009 := g2.trans (if_pos hs)
              refine wm_iload_n (q := 108) (i := 3) hg dX5_settle_107 rfl rfl rfl ?_
              refine wm_ldc (q := 110) (-1000000009) hg dX5_settle_108 rfl ld_X5_25 ?_
              refine wm_icmp_eq (q := 117) (q2 := 113) hg dX5_settle_110 (by decide) rfl (fun hn => ?_) (fun hn => ?_)
              · refine wm_iconst (q := 118) 0 hg dX5_settle_117 rfl (by decide) ?_
                refine wm_istore_n (q := 119) (i := 2) (L' := [(0, _), (1, _), (2, _), (3, _), (4, _), (5, _), (6, _)]) hg dX5_settle_118 rfl rfl rfl rfl ?_
                refine wm_iload_n (q := 120) (i := 2) hg dX5_settle_119 rfl rfl rfl ?_
                refine wm_if_eq (q := 176) (q2 := 123) hg dX5_settle_120 (by decide) rfl (fun h1 => ?_) (fun h1 => ?_)
                · refine wm_goto (q := 4) hg dX5_settle_176 (by decide) ?_
                  refine wm_iload_n (q := 5) (i := 2) hg dX5_settle_4 rfl rfl rfl ?_
                  refine wm_if_eq (q := 179) (q2 := 8) hg dX5_settle_5 (by decide) rfl (fun h2 => ?_) (fun h2 => ?_)
                  · refine wm_iload_n (q := 180) (i := 1) hg dX5_settle_179 rfl rfl rfl ?_
                    exact wm_irret hg hr dX5_settle_180 (by rw [← hf1]; rfl) (⟨w, rfl, by rw [← hf2]; exact hY, h33, h34⟩)
                  · exact absurd rfl h2
                · exact absurd rfl h1
              · exact absurd g3 hn
            · have e3 : stB (f + 1) Y C = ((stB f (tn1 Y) (en1 Y C)).1 + 1, (stB f (tn1 Y) (en1 Y C)).2) := if_neg hs
              rw [e3] at hf1 hf2
              have g3 : (rA Y (szN Y)).1 = (soB Y).1 := g2.trans (if_neg hs)
              have g4 : (rA Y (szN Y)).2 = (soB Y).2 := g1
              have g5 : rA Y (szN Y) = soB Y := Prod.ext g3 g4
              rw [g5]
              obtain ⟨t, ht⟩ : ∃ t, t = (soB Y).1.toNatClampNeg := ⟨_, rfl⟩
              have ht1 : (soB Y).1 = nI t := by rw [ht]; exact nI_self hs
              have ht2 : t < szN Y := by rw [ht]; exact (soA_lt Y (szN Y) (by omega)).resolve_left hs
              have hdr := (soA_dir Y (szN Y)).resolve_left hs
              have hdr2 : -8 ≤ (soB Y).2.1.toInt ∧ (soB Y).2.1.toInt ≤ 8 := by rcases hdr with e | e <;> (rw [show (soB Y).2.1 = _ from e]; decide)
              obtain ⟨⟨a, ha8, ea⟩, -, -⟩ := hrg.2.2 t ht2
              refine wm_iload_n (q := 108) (i := 3) hg dX5_settle_107 rfl rfl rfl ?_
              refine wm_ldc (q := 110) (-1000000009) hg dX5_settle_108 rfl ld_X5_25 ?_
              refine wm_icmp_eq (q := 117) (q2 := 113) hg dX5_settle_110 (by decide) rfl (fun hn => ?_) (fun hn => ?_)
              · exact absurd (ht1.symm.trans hn) (fun z => absurd (show nI t < 0 by rw [z]; decide) (nI_pos (by omega)))
              · refine wm_iconst (q := 114) 1 hg dX5_settle_113 rfl (by decide) ?_
                refine wm_goto (q := 118) hg dX5_settle_114 (by decide) ?_
                refine wm_istore_n (q := 119) (i := 2) (L' := [(0, _), (1, _), (2, _), (3, _), (4, _), (5, _), (6, _)]) hg dX5_settle_118 rfl rfl rfl rfl ?_
                refine wm_iload_n (q := 120) (i := 2) hg dX5_settle_119 rfl rfl rfl ?_
                refine wm_if_eq (q := 176) (q2 := 123) hg dX5_settle_120 (by decide) rfl (fun h2 => ?_) (fun h2 => ?_)
                · exact absurd h2 (by decide)
                · refine wm_aload_n (q := 124) (i := 0) hg dX5_settle_123 rfl rfl rfl ?_
                  refine wm_get (q := 127) hg dX5_settle_124 rfl fl_X5_7 (by first | assumption | decide | omega | (simp only [nO]; omega)) rfl ?_
                  refine wm_iconst (q := 128) 1 hg dX5_settle_127 rfl (by decide) ?_
                  refine wm_iload_n (q := 129) (i := 3) hg dX5_settle_128 rfl rfl rfl ?_
                  refine wm_iadd (q := 130) hg dX5_settle_129 rfl ?_
                  refine wm_aload_n (q := 131) (i := 0) hg dX5_settle_130 rfl rfl rfl ?_
                  refine wm_iload_n (q := 132) (i := 3) hg dX5_settle_131 rfl rfl rfl ?_
                  refine wm_callV1 (q := 135) hg dX5_settle_132 rfl lk_X5_68 (by first | decide | omega) (c_X5_angle (t := t) ht1 (by omega)) (by first | assumption | decide | omega | (simp only [nO]; omega)) ⟨rfl, by decide⟩ rfl rfl (Nat.le_of_ble_eq_true rfl) ?_
                  refine wm_iload (q := 137) (i := 4) hg dX5_settle_135 rfl rfl ?_
                  refine wm_callS1 (q := 140) hg dX5_settle_137 rfl lk_X5_85 (by first | decide | omega) c_X5_turned rfl rfl (Nat.le_of_ble_eq_true rfl) ?_
                  refine wm_rstore (q := 141) (1 + t) hg dX5_settle_140 rfl rfl (nadd (a := 1) (b := t) (rfl : (1 : Int32) = nI 1) ht1) (by simp only [alen]; omega) ?_
                  refine wm_aload_n (q := 142) (i := 0) hg dX5_settle_141 rfl rfl rfl ?_
                  refine wm_get (q := 145) hg dX5_settle_142 rfl fl_X5_7 (by first | assumption | decide | omega | (simp only [nO]; omega)) rfl ?_
                  refine wm_bipush (q := 147) 36 hg dX5_settle_145 rfl (by decide) ?_
                  refine wm_dup2 (q := 148) hg dX5_settle_147 rfl rfl rfl ?_
                  refine wm_rload (q := 149) 36 hg dX5_settle_148 rfl rfl (rfl : (36 : Int32) = nI 36) (by simp only [alen]; omega) ?_
                  refine wm_iload (q := 151) (i := 5) hg dX5_settle_149 rfl rfl ?_
                  refine wm_iadd (q := 152) hg dX5_settle_151 rfl ?_
                  refine wm_rstore (q := 153) 36 hg dX5_settle_152 rfl rfl (rfl : (36 : Int32) = nI 36) (by simp only [alen]; omega) ?_
                  refine wm_aload_n (q := 154) (i := 0) hg dX5_settle_153 rfl rfl rfl ?_
                  refine wm_get (q := 157) hg dX5_settle_154 rfl fl_X5_7 (by first | assumption | decide | omega | (simp only [nO]; omega)) rfl ?_
                  refine wm_bipush (q := 159) 37 hg dX5_settle_157 rfl (by decide) ?_
                  refine wm_dup2 (q := 160) hg dX5_settle_159 rfl rfl rfl ?_
                  refine wm_rload (q := 161) 37 hg dX5_settle_160 rfl rfl (rfl : (37 : Int32) = nI 37) (by simp only [alen]; omega) ?_
                  refine wm_iconst (q := 162) 1 hg dX5_settle_161 rfl (by decide) ?_
                  refine wm_iadd (q := 163) hg dX5_settle_162 rfl ?_
                  refine wm_rstore (q := 164) 37 hg dX5_settle_163 rfl rfl (rfl : (37 : Int32) = nI 37) (by simp only [alen]; omega) ?_
                  refine wm_R (R' := oA R 0 (upd (upd (upd w (1 + t) (rem8 (w (1 + t) + (soB Y).2.1 + 8))) 36 (w 36 + (soB Y).2.2)) 37 (w 37 + 1))) (by simp only [oA_oA, oA_w, updA_same, updA_updA, upd_ne _ _ (show (36:Nat) ≠ 1 + t by omega), upd_ne _ _ (show (37:Nat) ≠ 36 by decide), upd_ne _ _ (show (37:Nat) ≠ 1 + t by omega)]) ?_
                  have hLg : rwLg (upd (upd (upd w (1 + t) (rem8 (w (1 + t) + (soB Y).2.1 + 8))) 36 (w 36 + (soB Y).2.2)) 37 (w 37 + 1)) C := ⟨by rw [upd_ne _ _ (by decide), upd_ne _ _ (by decide), upd_ne _ _ (by omega)]; exact hY.2.2.2.2.2.2.2.1, fun j hj => by
                    obtain ⟨u1, u2, u3⟩ := hY.2.2.2.2.2.2.2.2 j hj
                    refine ⟨?_, ?_, ?_⟩ <;> (rw [upd_ne _ _ (by omega), upd_ne _ _ (by omega), upd_ne _ _ (by omega)]) <;> assumption⟩
                  refine wm_aload_n (q := 165) (i := 0) hg dX5_settle_164 rfl rfl rfl ?_
                  refine wm_iload_n (q := 166) (i := 3) hg dX5_settle_165 rfl rfl rfl ?_
                  refine wm_iload (q := 168) (i := 4) hg dX5_settle_166 rfl rfl ?_
                  refine wm_iload (q := 170) (i := 5) hg dX5_settle_168 rfl rfl ?_
                  refine wm_callR0 (q := 173) hg dX5_settle_170 rfl lk_X5_91 (by first | decide | omega) (c_X5_note (B := C) hY.2.2.1 (by rw [oA_w]; exact hLg)) (by first | assumption | decide | omega | (simp only [nO]; omega)) ⟨rfl, by decide⟩ rfl rfl (Nat.le_of_ble_eq_true rfl) (fun R2 hR2 => ?_)
                  obtain ⟨w2, rfl, hk2, hl2⟩ := hR2
                  simp only [oA_w, updA_same] at hk2
                  refine wm_R (oA_oA R 0 _ w2) ?_
                  refine wm_iinc (q := 176) (L' := [(0, _), (1, _), (2, _), (3, _), (4, _), (5, _), (6, _)]) (nI (dn + 1)) hg dX5_settle_173 rfl rfl (nadd rfl rfl) rfl rfl ?_
                  refine wm_goto (q := 4) hg dX5_settle_176 (by decide) ?_
                  refine wm_L (L' := [(0, _), (1, _), (2, _)]) [0, 1, 2] rfl ?_
                  have en := enX_i C (soB Y).1 (soB Y).2.1 (soB Y).2.2
                  have hkk : ∀ k, k < 35 → k ≠ 1 + t → w2 k = w k := fun k hk hk3 => by rw [hk2 k (by omega), upd_ne _ _ (by omega), upd_ne _ _ (by omega), upd_ne _ _ hk3]
                  have hn1 : RWs w2 (tn1 Y) (en1 Y C) := by
                    refine ⟨rgX_turn hrg _ _, ?_, okB_en hY.2.2.1 _ _ _, ?_, ?_, ?_, ?_, hl2.1, hl2.2⟩
                    · unfold tn1; rw [← ht]; refine rwC_turn hY.2.1 ht2 hz2 ?_ hkk; rw [hk2 (1 + t) (by omega), upd_ne _ _ (by omega), upd_ne _ _ (by omega), upd_same, (hY.2.1.2.1 t ht2).1, ea, turned_and ha8 hdr2]
                    · rw [hk2 35 (by omega), upd_ne _ _ (by decide), upd_ne _ _ (by decide), upd_ne _ _ (by omega)]; exact hY.2.2.2.1.trans en.1.symm
                    · rw [hk2 36 (by omega), upd_ne _ _ (by decide), upd_same, hY.2.2.2.2.1]; exact en.2.1.symm
                    · rw [hk2 37 (by omega), upd_same, hY.2.2.2.2.2.1]; exact en.2.2.1.symm
                    · rw [hk2 38 (by omega), upd_ne _ _ (by decide), upd_ne _ _ (by decide), upd_ne _ _ (by omega)]; exact hY.2.2.2.2.2.2.1.trans en.2.2.2.symm
                  exact ihf (dn + 1) w2 (tn1 Y) (en1 Y C) (by omega) hn1 ((hkk 33 (by omega) (by omega)).trans h33) ((hkk 34 (by omega) (by omega)).trans h34) ((congrArg nI (by omega)).trans hf1) hf2
          · exact absurd (lpLe hw0 (by omega) (by omega)) hb
        | succ n ih =>
          intro i hi 
          refine wm_iload (q := 35) (i := 6) hg dX5_settle_33 rfl rfl ?_
          refine wm_aload_n (q := 36) (i := 0) hg dX5_settle_35 rfl rfl rfl ?_
          refine wm_get (q := 39) hg dX5_settle_36 rfl fl_X5_7 (by first | assumption | decide | omega | (simp only [nO]; omega)) rfl ?_
          refine wm_iconst (q := 40) 0 hg dX5_settle_39 rfl (by decide) ?_
          refine wm_rload (q := 41) 0 hg dX5_settle_40 rfl rfl (rfl : (0 : Int32) = nI 0) (by simp only [alen]; omega) ?_
          refine wm_icmp_ge (q := 107) (q2 := 44) hg dX5_settle_41 (by decide) rfl (fun hb => ?_) (fun hb => ?_)
          · exact absurd hb (lpLt hw0 (by omega) (by omega))
          · refine wm_iconst (q := 45) 1 hg dX5_settle_44 rfl (by decide) ?_
            refine wm_istore (q := 47) (i := 7) (L' := [(0, _), (1, _), (2, _), (3, _), (4, _), (5, _), (6, _), (7, _)]) hg dX5_settle_45 rfl rfl rfl ?_
            refine wm_iload (q := 49) (i := 7) hg dX5_settle_47 rfl rfl ?_
            refine wm_bipush (q := 51) (-2) hg dX5_settle_49 rfl (by decide) ?_
            refine wm_icmp_le (q := 101) (q2 := 54) hg dX5_settle_51 (by decide) rfl (fun hd1 => ?_) (fun hd1 => ?_)
            · exact absurd hd1 (by decide)
            · refine wm_aload_n (q := 55) (i := 0) hg dX5_settle_54 rfl rfl rfl ?_
              refine wm_iload (q := 57) (i := 6) hg dX5_settle_55 rfl rfl ?_
              refine wm_iload (q := 59) (i := 7) hg dX5_settle_57 rfl rfl ?_
              refine wm_callV1 (q := 62) hg dX5_settle_59 rfl lk_X5_88 (by first | decide | omega) (c_X5_free (X := Y) hrg hX rfl (by omega) (by decide)) (by first | assumption | decide | omega | (simp only [nO]; omega)) ⟨rfl, by decide⟩ rfl rfl (Nat.le_of_ble_eq_true rfl) ?_
              refine wm_istore (q := 64) (i := 8) (L' := [(0, _), (1, _), (2, _), (3, _), (4, _), (5, _), (6, _), (7, _), (8, _)]) hg dX5_settle_62 rfl rfl rfl ?_
              refine wm_aload_n (q := 65) (i := 0) hg dX5_settle_64 rfl rfl rfl ?_
              refine wm_get (q := 68) hg dX5_settle_65 rfl fl_X5_7 (by first | assumption | decide | omega | (simp only [nO]; omega)) rfl ?_
              refine wm_bipush (q := 70) 11 hg dX5_settle_68 rfl (by decide) ?_
              refine wm_iload (q := 72) (i := 6) hg dX5_settle_70 rfl rfl ?_
              refine wm_iadd (q := 73) hg dX5_settle_72 rfl ?_
              refine wm_rload (q := 74) (11 + i) hg dX5_settle_73 rfl rfl (nadd (a := 11) (b := i) (rfl : (11 : Int32) = nI 11) rfl) (by simp only [alen]; omega) ?_
              refine wm_if_ne (q := 95) (q2 := 77) hg dX5_settle_74 (by decide) rfl (fun hh1 => ?_) (fun hh1 => ?_)
              · rw [hhe i (by omega)] at hh1
                refine wm_iinc (q := 98) (L' := [(0, _), (1, _), (2, _), (3, _), (4, _), (5, _), (6, _), (7, _), (8, _)]) (-1) hg dX5_settle_95 rfl rfl (by decide) rfl rfl ?_
                refine wm_goto (q := 47) hg dX5_settle_98 (by decide) ?_
                refine wm_iload (q := 49) (i := 7) hg dX5_settle_47 rfl rfl ?_
                refine wm_bipush (q := 51) (-2) hg dX5_settle_49 rfl (by decide) ?_
                refine wm_icmp_le (q := 101) (q2 := 54) hg dX5_settle_51 (by decide) rfl (fun hd9 => ?_) (fun hd9 => ?_)
                · exact absurd hd9 (by decide)
                · refine wm_aload_n (q := 55) (i := 0) hg dX5_settle_54 rfl rfl rfl ?_
                  refine wm_iload (q := 57) (i := 6) hg dX5_settle_55 rfl rfl ?_
                  refine wm_iload (q := 59) (i := 7) hg dX5_settle_57 rfl rfl ?_
                  refine wm_callV1 (q := 62) hg dX5_settle_59 rfl lk_X5_88 (by first | decide | omega) (c_X5_free (X := Y) hrg hX rfl (by omega) (by decide)) (by first | assumption | decide | omega | (simp only [nO]; omega)) ⟨rfl, by decide⟩ rfl rfl (Nat.le_of_ble_eq_true rfl) ?_
                  refine wm_istore (q := 64) (i := 8) (L' := [(0, _), (1, _), (2, _), (3, _), (4, _), (5, _), (6, _), (7, _), (8, _)]) hg dX5_settle_62 rfl rfl rfl ?_
                  refine wm_aload_n (q := 65) (i := 0) hg dX5_settle_64 rfl rfl rfl ?_
                  refine wm_get (q := 68) hg dX5_settle_65 rfl fl_X5_7 (by first | assumption | decide | omega | (simp only [nO]; omega)) rfl ?_
                  refine wm_bipush (q := 70) 11 hg dX5_settle_68 rfl (by decide) ?_
                  refine wm_iload (q := 72) (i := 6) hg dX5_settle_70 rfl rfl ?_
                  refine wm_iadd (q := 73) hg dX5_settle_72 rfl ?_
                  refine wm_rload (q := 74) (11 + i) hg dX5_settle_73 rfl rfl (nadd (a := 11) (b := i) (rfl : (11 : Int32) = nI 11) rfl) (by simp only [alen]; omega) ?_
                  refine wm_if_ne (q := 95) (q2 := 77) hg dX5_settle_74 (by decide) rfl (fun hh9 => ?_) (fun hh9 => ?_)
                  · rw [hhe i (by omega)] at hh9
                    refine wm_iinc (q := 98) (L' := [(0, _), (1, _), (2, _), (3, _), (4, _), (5, _), (6, _), (7, _), (8, _)]) (-3) hg dX5_settle_95 rfl rfl (by decide) rfl rfl ?_
                    refine wm_goto (q := 47) hg dX5_settle_98 (by decide) ?_
                    refine wm_iload (q := 49) (i := 7) hg dX5_settle_47 rfl rfl ?_
                    refine wm_bipush (q := 51) (-2) hg dX5_settle_49 rfl (by decide) ?_
                    refine wm_icmp_le (q := 101) (q2 := 54) hg dX5_settle_51 (by decide) rfl (fun hd7 => ?_) (fun hd7 => ?_)
                    · refine wm_iinc (q := 104) (L' := [(0, _), (1, _), (2, _), (3, _), (4, _), (5, _), (6, _), (7, _), (8, _)]) (nI (i + 1)) hg dX5_settle_101 rfl rfl (nadd rfl rfl) rfl rfl ?_
                      refine wm_goto (q := 33) hg dX5_settle_104 (by decide) ?_
                      refine wm_L (L' := [(0, _), (1, _), (2, _), (3, _), (4, _), (5, _), (6, _)]) [0, 1, 2, 3, 4, 5, 6] rfl ?_
                      refine wm_Leq ?_ (ih (i + 1) (by omega))
                      simp only [rA, rS, rD, if_neg hh1]
                    · exact absurd (by decide) hd7
                  · rw [hhe i (by omega)] at hh9
                    exact absurd hh9 hh1
              · rw [hhe i (by omega)] at hh1
                refine wm_iload (q := 79) (i := 8) hg dX5_settle_77 rfl rfl ?_
                refine wm_iload (q := 81) (i := 5) hg dX5_settle_79 rfl rfl ?_
                refine wm_icmp_le (q := 95) (q2 := 84) hg dX5_settle_81 (by decide) rfl (fun hf1 => ?_) (fun hf1 => ?_)
                · refine wm_iinc (q := 98) (L' := [(0, _), (1, _), (2, _), (3, _), (4, _), (5, _), (6, _), (7, _), (8, _)]) (-1) hg dX5_settle_95 rfl rfl (by decide) rfl rfl ?_
                  refine wm_goto (q := 47) hg dX5_settle_98 (by decide) ?_
                  refine wm_iload (q := 49) (i := 7) hg dX5_settle_47 rfl rfl ?_
                  refine wm_bipush (q := 51) (-2) hg dX5_settle_49 rfl (by decide) ?_
                  refine wm_icmp_le (q := 101) (q2 := 54) hg dX5_settle_51 (by decide) rfl (fun hd9 => ?_) (fun hd9 => ?_)
                  · exact absurd hd9 (by decide)
                  · refine wm_aload_n (q := 55) (i := 0) hg dX5_settle_54 rfl rfl rfl ?_
                    refine wm_iload (q := 57) (i := 6) hg dX5_settle_55 rfl rfl ?_
                    refine wm_iload (q := 59) (i := 7) hg dX5_settle_57 rfl rfl ?_
                    refine wm_callV1 (q := 62) hg dX5_settle_59 rfl lk_X5_88 (by first | decide | omega) (c_X5_free (X := Y) hrg hX rfl (by omega) (by decide)) (by first | assumption | decide | omega | (simp only [nO]; omega)) ⟨rfl, by decide⟩ rfl rfl (Nat.le_of_ble_eq_true rfl) ?_
                    refine wm_istore (q := 64) (i := 8) (L' := [(0, _), (1, _), (2, _), (3, _), (4, _), (5, _), (6, _), (7, _), (8, _)]) hg dX5_settle_62 rfl rfl rfl ?_
                    refine wm_aload_n (q := 65) (i := 0) hg dX5_settle_64 rfl rfl rfl ?_
                    refine wm_get (q := 68) hg dX5_settle_65 rfl fl_X5_7 (by first | assumption | decide | omega | (simp only [nO]; omega)) rfl ?_
                    refine wm_bipush (q := 70) 11 hg dX5_settle_68 rfl (by decide) ?_
                    refine wm_iload (q := 72) (i := 6) hg dX5_settle_70 rfl rfl ?_
                    refine wm_iadd (q := 73) hg dX5_settle_72 rfl ?_
                    refine wm_rload (q := 74) (11 + i) hg dX5_settle_73 rfl rfl (nadd (a := 11) (b := i) (rfl : (11 : Int32) = nI 11) rfl) (by simp only [alen]; omega) ?_
                    refine wm_if_ne (q := 95) (q2 := 77) hg dX5_settle_74 (by decide) rfl (fun hh9 => ?_) (fun hh9 => ?_)
                    · rw [hhe i (by omega)] at hh9
                      exact absurd hh1 hh9
                    · rw [hhe i (by omega)] at hh9
                      refine wm_iload (q := 79) (i := 8) hg dX5_settle_77 rfl rfl ?_
                      refine wm_iload (q := 81) (i := 5) hg dX5_settle_79 rfl rfl ?_
                      refine wm_icmp_le (q := 95) (q2 := 84) hg dX5_settle_81 (by decide) rfl (fun hf9 => ?_) (fun hf9 => ?_)
                      · refine wm_iinc (q := 98) (L' := [(0, _), (1, _), (2, _), (3, _), (4, _), (5, _), (6, _), (7, _), (8, _)]) (-3) hg dX5_settle_95 rfl rfl (by decide) rfl rfl ?_
                        refine wm_goto (q := 47) hg dX5_settle_98 (by decide) ?_
                        refine wm_iload (q := 49) (i := 7) hg dX5_settle_47 rfl rfl ?_
                        refine wm_bipush (q := 51) (-2) hg dX5_settle_49 rfl (by decide) ?_
                        refine wm_icmp_le (q := 101) (q2 := 54) hg dX5_settle_51 (by decide) rfl (fun hd7 => ?_) (fun hd7 => ?_)
                        · refine wm_iinc (q := 104) (L' := [(0, _), (1, _), (2, _), (3, _), (4, _), (5, _), (6, _), (7, _), (8, _)]) (nI (i + 1)) hg dX5_settle_101 rfl rfl (nadd rfl rfl) rfl rfl ?_
                          refine wm_goto (q := 33) hg dX5_settle_104 (by decide) ?_
                          refine wm_L (L' := [(0, _), (1, _), (2, _), (3, _), (4, _), (5, _), (6, _)]) [0, 1, 2, 3, 4, 5, 6] rfl ?_
                          refine wm_Leq ?_ (ih (i + 1) (by omega))
                          simp only [rA, rS, rD, if_pos hh1, if_pos hf1, if_pos hf9]
                        · exact absurd (by decide) hd7
                      · refine wm_iload (q := 86) (i := 6) hg dX5_settle_84 rfl rfl ?_
                        refine wm_istore_n (q := 87) (i := 3) (L' := [(0, _), (1, _), (2, _), (3, _), (4, _), (5, _), (6, _), (7, _), (8, _)]) hg dX5_settle_86 rfl rfl rfl rfl ?_
                        refine wm_iload (q := 89) (i := 7) hg dX5_settle_87 rfl rfl ?_
                        refine wm_istore (q := 91) (i := 4) (L' := [(0, _), (1, _), (2, _), (3, _), (4, _), (5, _), (6, _), (7, _), (8, _)]) hg dX5_settle_89 rfl rfl rfl ?_
                        refine wm_iload (q := 93) (i := 8) hg dX5_settle_91 rfl rfl ?_
                        refine wm_istore (q := 95) (i := 5) (L' := [(0, _), (1, _), (2, _), (3, _), (4, _), (5, _), (6, _), (7, _), (8, _)]) hg dX5_settle_93 rfl rfl rfl ?_
                        refine wm_iinc (q := 98) (L' := [(0, _), (1, _), (2, _), (3, _), (4, _), (5, _), (6, _), (7, _), (8, _)]) (-3) hg dX5_settle_95 rfl rfl (by decide) rfl rfl ?_
                        refine wm_goto (q := 47) hg dX5_settle_98 (by decide) ?_
                        refine wm_iload (q := 49) (i := 7) hg dX5_settle_47 rfl rfl ?_
                        refine wm_bipush (q := 51) (-2) hg dX5_settle_49 rfl (by decide) ?_
                        refine wm_icmp_le (q := 101) (q2 := 54) hg dX5_settle_51 (by decide) rfl (fun hd7 => ?_) (fun hd7 => ?_)
                        · refine wm_iinc (q := 104) (L' := [(0, _), (1, _), (2, _), (3, _), (4, _), (5, _), (6, _), (7, _), (8, _)]) (nI (i + 1)) hg dX5_settle_101 rfl rfl (nadd rfl rfl) rfl rfl ?_
                          refine wm_goto (q := 33) hg dX5_settle_104 (by decide) ?_
                          refine wm_L (L' := [(0, _), (1, _), (2, _), (3, _), (4, _), (5, _), (6, _)]) [0, 1, 2, 3, 4, 5, 6] rfl ?_
                          refine wm_Leq ?_ (ih (i + 1) (by omega))
                          simp only [rA, rS, rD, if_pos hh1, if_pos hf1, if_neg hf9]
                        · exact absurd (by decide) hd7
                · refine wm_iload (q := 86) (i := 6) hg dX5_settle_84 rfl rfl ?_
                  refine wm_istore_n (q := 87) (i := 3) (L' := [(0, _), (1, _), (2, _), (3, _), (4, _), (5, _), (6, _), (7, _), (8, _)]) hg dX5_settle_86 rfl rfl rfl rfl ?_
                  refine wm_iload (q := 89) (i := 7) hg dX5_settle_87 rfl rfl ?_
                  refine wm_istore (q := 91) (i := 4) (L' := [(0, _), (1, _), (2, _), (3, _), (4, _), (5, _), (6, _), (7, _), (8, _)]) hg dX5_settle_89 rfl rfl rfl ?_
                  refine wm_iload (q := 93) (i := 8) hg dX5_settle_91 rfl rfl ?_
                  refine wm_istore (q := 95) (i := 5) (L' := [(0, _), (1, _), (2, _), (3, _), (4, _), (5, _), (6, _), (7, _), (8, _)]) hg dX5_settle_93 rfl rfl rfl ?_
                  refine wm_iinc (q := 98) (L' := [(0, _), (1, _), (2, _), (3, _), (4, _), (5, _), (6, _), (7, _), (8, _)]) (-1) hg dX5_settle_95 rfl rfl (by decide) rfl rfl ?_
                  refine wm_goto (q := 47) hg dX5_settle_98 (by decide) ?_
                  refine wm_iload (q := 49) (i := 7) hg dX5_settle_47 rfl rfl ?_
                  refine wm_bipush (q := 51) (-2) hg dX5_settle_49 rfl (by decide) ?_
                  refine wm_icmp_le (q := 101) (q2 := 54) hg dX5_settle_51 (by decide) rfl (fun hd9 => ?_) (fun hd9 => ?_)
                  · exact absurd hd9 (by decide)
                  · refine wm_aload_n (q := 55) (i := 0) hg dX5_settle_54 rfl rfl rfl ?_
                    refine wm_iload (q := 57) (i := 6) hg dX5_settle_55 rfl rfl ?_
                    refine wm_iload (q := 59) (i := 7) hg dX5_settle_57 rfl rfl ?_
                    refine wm_callV1 (q := 62) hg dX5_settle_59 rfl lk_X5_88 (by first | decide | omega) (c_X5_free (X := Y) hrg hX rfl (by omega) (by decide)) (by first | assumption | decide | omega | (simp only [nO]; omega)) ⟨rfl, by decide⟩ rfl rfl (Nat.le_of_ble_eq_true rfl) ?_
                    refine wm_istore (q := 64) (i := 8) (L' := [(0, _), (1, _), (2, _), (3, _), (4, _), (5, _), (6, _), (7, _), (8, _)]) hg dX5_settle_62 rfl rfl rfl ?_
                    refine wm_aload_n (q := 65) (i := 0) hg dX5_settle_64 rfl rfl rfl ?_
                    refine wm_get (q := 68) hg dX5_settle_65 rfl fl_X5_7 (by first | assumption | decide | omega | (simp only [nO]; omega)) rfl ?_
                    refine wm_bipush (q := 70) 11 hg dX5_settle_68 rfl (by decide) ?_
                    refine wm_iload (q := 72) (i := 6) hg dX5_settle_70 rfl rfl ?_
                    refine wm_iadd (q := 73) hg dX5_settle_72 rfl ?_
                    refine wm_rload (q := 74) (11 + i) hg dX5_settle_73 rfl rfl (nadd (a := 11) (b := i) (rfl : (11 : Int32) = nI 11) rfl) (by simp only [alen]; omega) ?_
                    refine wm_if_ne (q := 95) (q2 := 77) hg dX5_settle_74 (by decide) rfl (fun hh9 => ?_) (fun hh9 => ?_)
                    · rw [hhe i (by omega)] at hh9
                      exact absurd hh1 hh9
                    · rw [hhe i (by omega)] at hh9
                      refine wm_iload (q := 79) (i := 8) hg dX5_settle_77 rfl rfl ?_
                      refine wm_iload (q := 81) (i := 5) hg dX5_settle_79 rfl rfl ?_
                      refine wm_icmp_le (q := 95) (q2 := 84) hg dX5_settle_81 (by decide) rfl (fun hf9 => ?_) (fun hf9 => ?_)
                      · refine wm_iinc (q := 98) (L' := [(0, _), (1, _), (2, _), (3, _), (4, _), (5, _), (6, _), (7, _), (8, _)]) (-3) hg dX5_settle_95 rfl rfl (by decide) rfl rfl ?_
                        refine wm_goto (q := 47) hg dX5_settle_98 (by decide) ?_
                        refine wm_iload (q := 49) (i := 7) hg dX5_settle_47 rfl rfl ?_
                        refine wm_bipush (q := 51) (-2) hg dX5_settle_49 rfl (by decide) ?_
                        refine wm_icmp_le (q := 101) (q2 := 54) hg dX5_settle_51 (by decide) rfl (fun hd7 => ?_) (fun hd7 => ?_)
                        · refine wm_iinc (q := 104) (L' := [(0, _), (1, _), (2, _), (3, _), (4, _), (5, _), (6, _), (7, _), (8, _)]) (nI (i + 1)) hg dX5_settle_101 rfl rfl (nadd rfl rfl) rfl rfl ?_
                          refine wm_goto (q := 33) hg dX5_settle_104 (by decide) ?_
                          refine wm_L (L' := [(0, _), (1, _), (2, _), (3, _), (4, _), (5, _), (6, _)]) [0, 1, 2, 3, 4, 5, 6] rfl ?_
                          refine wm_Leq ?_ (ih (i + 1) (by omega))
                          simp only [rA, rS, rD, if_pos hh1, if_neg hf1, if_pos hf9]
                        · exact absurd (by decide) hd7
                      · refine wm_iload (q := 86) (i := 6) hg dX5_settle_84 rfl rfl ?_
                        refine wm_istore_n (q := 87) (i := 3) (L' := [(0, _), (1, _), (2, _), (3, _), (4, _), (5, _), (6, _), (7, _), (8, _)]) hg dX5_settle_86 rfl rfl rfl rfl ?_
                        refine wm_iload (q := 89) (i := 7) hg dX5_settle_87 rfl rfl ?_
                        refine wm_istore (q := 91) (i := 4) (L' := [(0, _), (1, _), (2, _), (3, _), (4, _), (5, _), (6, _), (7, _), (8, _)]) hg dX5_settle_89 rfl rfl rfl ?_
                        refine wm_iload (q := 93) (i := 8) hg dX5_settle_91 rfl rfl ?_
                        refine wm_istore (q := 95) (i := 5) (L' := [(0, _), (1, _), (2, _), (3, _), (4, _), (5, _), (6, _), (7, _), (8, _)]) hg dX5_settle_93 rfl rfl rfl ?_
                        refine wm_iinc (q := 98) (L' := [(0, _), (1, _), (2, _), (3, _), (4, _), (5, _), (6, _), (7, _), (8, _)]) (-3) hg dX5_settle_95 rfl rfl (by decide) rfl rfl ?_
                        refine wm_goto (q := 47) hg dX5_settle_98 (by decide) ?_
                        refine wm_iload (q := 49) (i := 7) hg dX5_settle_47 rfl rfl ?_
                        refine wm_bipush (q := 51) (-2) hg dX5_settle_49 rfl (by decide) ?_
                        refine wm_icmp_le (q := 101) (q2 := 54) hg dX5_settle_51 (by decide) rfl (fun hd7 => ?_) (fun hd7 => ?_)
                        · refine wm_iinc (q := 104) (L' := [(0, _), (1, _), (2, _), (3, _), (4, _), (5, _), (6, _), (7, _), (8, _)]) (nI (i + 1)) hg dX5_settle_101 rfl rfl (nadd rfl rfl) rfl rfl ?_
                          refine wm_goto (q := 33) hg dX5_settle_104 (by decide) ?_
                          refine wm_L (L' := [(0, _), (1, _), (2, _), (3, _), (4, _), (5, _), (6, _)]) [0, 1, 2, 3, 4, 5, 6] rfl ?_
                          refine wm_Leq ?_ (ih (i + 1) (by omega))
                          simp only [rA, rS, rD, if_pos hh1, if_neg hf1, if_neg hf9]
                        · exact absurd (by decide) hd7
