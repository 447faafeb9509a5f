/-! ===== the reference: recording, laying, ending, taking ===== -/
def cpyF (f : Nat → Int32) (b : Nat) (g : Nat → Int32) (n : Nat) : Nat → Int32 := fun m => if b ≤ m ∧ m < b + n then g (m - b) else f m
theorem cpyF_0 (f : Nat → Int32) (b : Nat) (g : Nat → Int32) : cpyF f b g 0 = f := by
  funext m
  unfold cpyF
  rw [if_neg (by omega)]
theorem cpyF_s (f : Nat → Int32) (b : Nat) (g : Nat → Int32) (n : Nat) : upd (cpyF f b g n) (b + n) (g n) = cpyF f b g (n + 1) := by
  funext m
  simp only [upd, cpyF]
  by_cases h : m = b + n
  · subst h
    rw [if_pos rfl, if_pos (by omega), Nat.add_sub_cancel_left]
  · rw [if_neg h]
    by_cases h2 : b ≤ m ∧ m < b + n
    · rw [if_pos h2, if_pos (by omega)]
    · rw [if_neg h2, if_neg (by omega)]
theorem cpyF_in (f : Nat → Int32) (b : Nat) (g : Nat → Int32) {n k : Nat} (h : k < n) : cpyF f b g n (b + k) = g k := by
  unfold cpyF
  rw [if_pos (by omega), Nat.add_sub_cancel_left]
theorem cpyF_lt (f : Nat → Int32) (b : Nat) (g : Nat → Int32) {n k : Nat} (h : k < b) : cpyF f b g n k = f k := by
  unfold cpyF
  rw [if_neg (by omega)]
def shP (p : Nat → Int32) (n : Nat) : Nat → Int32 := fun m => if m < n then p (m + 130) else p m
theorem shP_s (p : Nat → Int32) (n : Nat) : upd (shP p n) n (shP p n (n + 130)) = shP p (n + 1) := by
  funext m
  simp only [upd, shP]
  rw [if_neg (show ¬ n + 130 < n by omega)]
  by_cases h : m = n
  · subst h
    rw [if_pos rfl, if_pos (by omega)]
  · rw [if_neg h]
    by_cases h2 : m < n
    · rw [if_pos h2, if_pos (by omega)]
    · rw [if_neg h2, if_neg (by omega)]
theorem oA_st {R : OV} {s t : Nat} {v : Int32} {f f' : Nat → Int32} (h : upd f t v = f') : oA (oA R s f) s (upd ((oA R s f).2 s) t v) = oA R s f' := by rw [oA_oA, oA_w, h]
theorem oA_x (R : OV) {s s' : Nat} (f : Nat → Int32) (h : s' ≠ s) : (oA R s f).2 s' = R.2 s' := updA_ne _ _ h
theorem oI_x (R : OV) {s s' : Nat} (v : Int32) (h : s' ≠ s) : (oI R s v).1 s' = R.1 s' := upd_ne _ _ h
theorem oI_w (R : OV) (s : Nat) (v : Int32) : (oI R s v).1 s = v := upd_same _ _ _
set_option maxRecDepth 100000 in
set_option maxHeartbeats 4000000 in
theorem c_X5_record {Γ : GT} {M N : Mem} {R : OV} (hU : HU N) (hH : relH N (R.1 2) (R.2 1)) (hW : RW (R.2 0) (N.1 1 0) (N.1 0 0)) : CtR Γ yX5_record cX5_record 2 none 0 [.ref (ad Γ 5 0 0)] M R none (fun R' => Sm R R' ∧ R'.2 0 = R.2 0 ∧ relH (recM N) (R'.1 2) (R'.2 1)) := by
  refine ctr_of (by decide) (Nat.le_of_ble_eq_true rfl) (fun K hg hr => ?_)
  show WM Γ K _ [(0, _)] 0 []
  have hc := hH.1
  have hu := hU.2.1
  have hu1 := hU.1
  refine wm_aload_n (q := 1) (i := 0) hg dX5_record_0 rfl rfl rfl ?_
  refine wm_rget (q := 4) hg dX5_record_1 rfl fl_X5_56 rfl ?_
  refine wm_bipush (q := 6) 8 hg dX5_record_4 rfl (by decide) ?_
  refine wm_icmp_ne (q := 50) (q2 := 9) hg dX5_record_6 (by decide) rfl (fun h1 => ?_) (fun h1 => ?_)
  · have hne : unN N < 8 := by
      rcases Nat.lt_or_ge (unN N) 8 with z | z
      · exact z
      · exact absurd (by rw [hc, show unN N = 8 by omega]; rfl) h1
    have h8 : (N.1 4 0).1 2 < 8 := by rw [hu1]; exact nI_lt hne (by decide)
    refine wm_iconst (q := 51) 0 hg dX5_record_50 rfl (by decide) ?_
    refine wm_istore_n (q := 52) (i := 1) (L' := [(0, _), (1, _)]) hg dX5_record_51 rfl rfl rfl rfl ?_
    suffices hloop : ∀ (n i : Nat), i + n = 130 → WM Γ K (sR M (oA R 1 (cpyF (R.2 1) (130 * unN N) (R.2 0) i))) [(0, .ref (ad Γ 5 0 0)), (1, .int (nI i))] 52 [] from wm_R (by rw [cpyF_0]; exact (oA_self R 1).symm) (hloop 130 0 (by omega))
    intro n
    induction n with
    | zero =>
      intro i hi 
      refine wm_iload_n (q := 53) (i := 1) hg dX5_record_52 rfl rfl rfl ?_
      refine wm_sipush (q := 56) 130 hg dX5_record_53 rfl (by decide) ?_
      refine wm_icmp_ge (q := 86) (q2 := 59) hg dX5_record_56 (by decide) rfl (fun hb => ?_) (fun hb => ?_)
      · have he : i = 130 := by omega
        subst he
        refine wm_aload_n (q := 87) (i := 0) hg dX5_record_86 rfl rfl rfl ?_
        refine wm_dup (q := 88) hg dX5_record_87 rfl rfl ?_
        refine wm_rget (q := 91) hg dX5_record_88 rfl fl_X5_56 rfl ?_
        refine wm_iconst (q := 92) 1 hg dX5_record_91 rfl (by decide) ?_
        refine wm_iadd (q := 93) hg dX5_record_92 rfl ?_
        refine wm_rput (q := 96) hg dX5_record_93 rfl fl_X5_56 rfl ?_
        exact wm_vrret hg hr dX5_record_96 (⟨(Sm.A _ (by decide)).tr (Sm.I _ (by decide)), rfl, by show relH (recM N) (upd R.1 2 (R.1 2 + 1) 2) (updA R.2 1 (cpyF (R.2 1) (130 * unN N) (R.2 0) 130) 1); rw [upd_same, updA_same, hc, nI_1]; exact relH_lt hU hH hW h8 (fun k hk => cpyF_lt _ _ _ hk) (fun k hk => cpyF_in _ _ _ hk)⟩)
      · exact absurd (nI_le (a := 130) (b := i) (by omega) (by omega)) hb
    | succ n ih =>
      intro i hi 
      refine wm_iload_n (q := 53) (i := 1) hg dX5_record_52 rfl rfl rfl ?_
      refine wm_sipush (q := 56) 130 hg dX5_record_53 rfl (by decide) ?_
      refine wm_icmp_ge (q := 86) (q2 := 59) hg dX5_record_56 (by decide) rfl (fun hb => ?_) (fun hb => ?_)
      · exact absurd hb (nI_ge (a := i) (b := 130) (by omega) (by omega))
      · refine wm_aload_n (q := 60) (i := 0) hg dX5_record_59 rfl rfl rfl ?_
        refine wm_get (q := 63) hg dX5_record_60 rfl fl_X5_13 (by first | assumption | decide | omega | (simp only [nO]; omega)) rfl ?_
        refine wm_sipush (q := 66) 130 hg dX5_record_63 rfl (by decide) ?_
        refine wm_aload_n (q := 67) (i := 0) hg dX5_record_66 rfl rfl rfl ?_
        refine wm_rget (q := 70) hg dX5_record_67 rfl fl_X5_56 rfl ?_
        refine wm_imul (q := 71) hg dX5_record_70 rfl ?_
        refine wm_iload_n (q := 72) (i := 1) hg dX5_record_71 rfl rfl rfl ?_
        refine wm_iadd (q := 73) hg dX5_record_72 rfl ?_
        refine wm_aload_n (q := 74) (i := 0) hg dX5_record_73 rfl rfl rfl ?_
        refine wm_get (q := 77) hg dX5_record_74 rfl fl_X5_7 (by first | assumption | decide | omega | (simp only [nO]; omega)) rfl ?_
        refine wm_iload_n (q := 78) (i := 1) hg dX5_record_77 rfl rfl rfl ?_
        refine wm_rload (q := 79) i hg dX5_record_78 rfl rfl rfl (by simp only [alen]; omega) ?_
        refine wm_rstore (q := 80) ((130 * (unN N)) + i) hg dX5_record_79 rfl rfl (nadd (a := (130 * (unN N))) (b := i) (nmul (a := 130) (b := (unN N)) (rfl : (130 : Int32) = nI 130) hc) rfl) (by simp only [alen]; omega) ?_
        refine wm_iinc (q := 83) (L' := [(0, _), (1, _)]) (nI (i + 1)) hg dX5_record_80 rfl rfl (nadd rfl rfl) rfl rfl ?_
        refine wm_goto (q := 52) hg dX5_record_83 (by decide) ?_
        exact wm_R (oA_st (cpyF_s (R.2 1) (130 * unN N) (R.2 0) i)) (ih (i + 1) (by omega))
  · have hne : unN N = 8 := by
      rw [hc] at h1
      exact (nI_eq (a := unN N) (b := 8) (by omega) (by decide)).mp h1
    have h8 : ¬ (N.1 4 0).1 2 < 8 := by rw [hu1, hne]; decide
    refine wm_iconst (q := 10) 0 hg dX5_record_9 rfl (by decide) ?_
    refine wm_istore_n (q := 11) (i := 1) (L' := [(0, _), (1, _)]) hg dX5_record_10 rfl rfl rfl rfl ?_
    suffices hloop : ∀ (n i : Nat), i + n = 910 → WM Γ K (sR M (oA R 1 (shP (R.2 1) i))) [(0, .ref (ad Γ 5 0 0)), (1, .int (nI i))] 11 [] from wm_R (by rw [show shP (R.2 1) 0 = R.2 1 from by funext m; simp only [shP]; rw [if_neg (by omega)]]; exact (oA_self R 1).symm) (hloop 910 0 (by omega))
    intro n
    induction n with
    | zero =>
      intro i hi 
      refine wm_iload_n (q := 12) (i := 1) hg dX5_record_11 rfl rfl rfl ?_
      refine wm_sipush (q := 15) 910 hg dX5_record_12 rfl (by decide) ?_
      refine wm_icmp_ge (q := 40) (q2 := 18) hg dX5_record_15 (by decide) rfl (fun hb => ?_) (fun hb => ?_)
      · have he : i = 910 := by omega
        subst he
        refine wm_aload_n (q := 41) (i := 0) hg dX5_record_40 rfl rfl rfl ?_
        refine wm_dup (q := 42) hg dX5_record_41 rfl rfl ?_
        refine wm_rget (q := 45) hg dX5_record_42 rfl fl_X5_56 rfl ?_
        refine wm_iconst (q := 46) 1 hg dX5_record_45 rfl (by decide) ?_
        refine wm_isub (q := 47) hg dX5_record_46 rfl ?_
        refine wm_rput (q := 50) hg dX5_record_47 rfl fl_X5_56 rfl ?_
        refine wm_iconst (q := 51) 0 hg dX5_record_50 rfl (by decide) ?_
        refine wm_istore_n (q := 52) (i := 1) (L' := [(0, _), (1, _)]) hg dX5_record_51 rfl rfl rfl rfl ?_
        refine wm_R (R' := oA (oI R 2 7) 1 (shP (R.2 1) 910)) (by show (upd R.1 2 (R.1 2 - 1), _) = (upd R.1 2 7, _); rw [h1]; rfl) ?_
        suffices hloop : ∀ (n i : Nat), i + n = 130 → WM Γ K (sR M (oA (oI R 2 7) 1 (cpyF (shP (R.2 1) 910) 910 (R.2 0) i))) [(0, .ref (ad Γ 5 0 0)), (1, .int (nI i))] 52 [] from wm_R (by rw [cpyF_0]) (hloop 130 0 (by omega))
        intro n
        induction n with
        | zero =>
          intro i hi 
          refine wm_iload_n (q := 53) (i := 1) hg dX5_record_52 rfl rfl rfl ?_
          refine wm_sipush (q := 56) 130 hg dX5_record_53 rfl (by decide) ?_
          refine wm_icmp_ge (q := 86) (q2 := 59) hg dX5_record_56 (by decide) rfl (fun hb => ?_) (fun hb => ?_)
          · have he : i = 130 := by omega
            subst he
            refine wm_aload_n (q := 87) (i := 0) hg dX5_record_86 rfl rfl rfl ?_
            refine wm_dup (q := 88) hg dX5_record_87 rfl rfl ?_
            refine wm_rget (q := 91) hg dX5_record_88 rfl fl_X5_56 rfl ?_
            refine wm_iconst (q := 92) 1 hg dX5_record_91 rfl (by decide) ?_
            refine wm_iadd (q := 93) hg dX5_record_92 rfl ?_
            refine wm_rput (q := 96) hg dX5_record_93 rfl fl_X5_56 rfl ?_
            exact wm_vrret hg hr dX5_record_96 (⟨(Sm.I _ (by decide)).tr ((Sm.A _ (by decide)).tr (Sm.I _ (by decide))), rfl, by show relH (recM N) (upd (upd R.1 2 7) 2 (upd R.1 2 7 2 + 1) 2) (updA R.2 1 (cpyF (shP (R.2 1) 910) 910 (R.2 0) 130) 1); rw [upd_same, upd_same, updA_same]; exact relH_ge hU hH hW h8 (fun k hk => by rw [cpyF_lt _ _ _ hk, shP, if_pos hk]) (fun k hk => cpyF_in _ _ _ hk)⟩)
          · exact absurd (nI_le (a := 130) (b := i) (by omega) (by omega)) hb
        | succ n ih =>
          intro i hi 
          refine wm_iload_n (q := 53) (i := 1) hg dX5_record_52 rfl rfl rfl ?_
          refine wm_sipush (q := 56) 130 hg dX5_record_53 rfl (by decide) ?_
          refine wm_icmp_ge (q := 86) (q2 := 59) hg dX5_record_56 (by decide) rfl (fun hb => ?_) (fun hb => ?_)
          · exact absurd hb (nI_ge (a := i) (b := 130) (by omega) (by omega))
          · refine wm_aload_n (q := 60) (i := 0) hg dX5_record_59 rfl rfl rfl ?_
            refine wm_get (q := 63) hg dX5_record_60 rfl fl_X5_13 (by first | assumption | decide | omega | (simp only [nO]; omega)) rfl ?_
            refine wm_sipush (q := 66) 130 hg dX5_record_63 rfl (by decide) ?_
            refine wm_aload_n (q := 67) (i := 0) hg dX5_record_66 rfl rfl rfl ?_
            refine wm_rget (q := 70) hg dX5_record_67 rfl fl_X5_56 rfl ?_
            refine wm_imul (q := 71) hg dX5_record_70 rfl ?_
            refine wm_iload_n (q := 72) (i := 1) hg dX5_record_71 rfl rfl rfl ?_
            refine wm_iadd (q := 73) hg dX5_record_72 rfl ?_
            refine wm_aload_n (q := 74) (i := 0) hg dX5_record_73 rfl rfl rfl ?_
            refine wm_get (q := 77) hg dX5_record_74 rfl fl_X5_7 (by first | assumption | decide | omega | (simp only [nO]; omega)) rfl ?_
            refine wm_iload_n (q := 78) (i := 1) hg dX5_record_77 rfl rfl rfl ?_
            refine wm_rload (q := 79) i hg dX5_record_78 rfl rfl rfl (by simp only [alen]; omega) ?_
            refine wm_rstore (q := 80) ((130 * 7) + i) hg dX5_record_79 rfl rfl (nadd (a := (130 * 7)) (b := i) (nmul (a := 130) (b := 7) (rfl : (130 : Int32) = nI 130) (upd_same R.1 2 7)) rfl) (by simp only [alen]; omega) ?_
            refine wm_iinc (q := 83) (L' := [(0, _), (1, _)]) (nI (i + 1)) hg dX5_record_80 rfl rfl (nadd rfl rfl) rfl rfl ?_
            refine wm_goto (q := 52) hg dX5_record_83 (by decide) ?_
            exact wm_R (oA_st (cpyF_s (shP (R.2 1) 910) 910 (R.2 0) i)) (ih (i + 1) (by omega))
      · exact absurd (nI_le (a := 910) (b := i) (by omega) (by omega)) hb
    | succ n ih =>
      intro i hi 
      refine wm_iload_n (q := 12) (i := 1) hg dX5_record_11 rfl rfl rfl ?_
      refine wm_sipush (q := 15) 910 hg dX5_record_12 rfl (by decide) ?_
      refine wm_icmp_ge (q := 40) (q2 := 18) hg dX5_record_15 (by decide) rfl (fun hb => ?_) (fun hb => ?_)
      · exact absurd hb (nI_ge (a := i) (b := 910) (by omega) (by omega))
      · refine wm_aload_n (q := 19) (i := 0) hg dX5_record_18 rfl rfl rfl ?_
        refine wm_get (q := 22) hg dX5_record_19 rfl fl_X5_13 (by first | assumption | decide | omega | (simp only [nO]; omega)) rfl ?_
        refine wm_iload_n (q := 23) (i := 1) hg dX5_record_22 rfl rfl rfl ?_
        refine wm_aload_n (q := 24) (i := 0) hg dX5_record_23 rfl rfl rfl ?_
        refine wm_get (q := 27) hg dX5_record_24 rfl fl_X5_13 (by first | assumption | decide | omega | (simp only [nO]; omega)) rfl ?_
        refine wm_iload_n (q := 28) (i := 1) hg dX5_record_27 rfl rfl rfl ?_
        refine wm_sipush (q := 31) 130 hg dX5_record_28 rfl (by decide) ?_
        refine wm_iadd (q := 32) hg dX5_record_31 rfl ?_
        refine wm_rload (q := 33) (i + 130) hg dX5_record_32 rfl rfl (nadd (a := i) (b := 130) rfl (rfl : (130 : Int32) = nI 130)) (by simp only [alen]; omega) ?_
        refine wm_rstore (q := 34) i hg dX5_record_33 rfl rfl rfl (by simp only [alen]; omega) ?_
        refine wm_iinc (q := 37) (L' := [(0, _), (1, _)]) (nI (i + 1)) hg dX5_record_34 rfl rfl (nadd rfl rfl) rfl rfl ?_
        refine wm_goto (q := 11) hg dX5_record_37 (by decide) ?_
        exact wm_R (oA_st (shP_s (R.2 1) i)) (ih (i + 1) (by omega))
