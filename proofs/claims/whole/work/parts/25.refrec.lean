/-! ===== the reference: recording, laying, ending, taking ===== -/
def cpyF (f : Nat → Int32) (b : Nat) (g : Nat → Int32) (n : Nat) : Nat → Int32 := fun m => if b ≤ m ∧ m < b + n then g (m - b) else f m
theorem cpyF_0 (f : Nat → Int32) (b : Nat) (g : Nat → Int32) : cpyF f b g 0 = f := by
  funext m
  unfold cpyF
  rw [if_neg (by omega)]
theorem cpyF_s (f : Nat → Int32) (b : Nat) (g : Nat → Int32) (n : Nat) : upd (cpyF f b g n) (b + n) (g n) = cpyF f b g (n + 1) := by
  funext m
  simp only [upd, cpyF]
  by_cases h : m = b + n
  · subst h
    rw [if_pos rfl, if_pos (by omega), Nat.add_sub_cancel_left]
  · rw [if_neg h]
    by_cases h2 : b ≤ m ∧ m < b + n
    · rw [if_pos h2, if_pos (by omega)]
    · rw [if_neg h2, if_neg (by omega)]
theorem cpyF_in (f : Nat → Int32) (b : Nat) (g : Nat → Int32) {n k : Nat} (h : k < n) : cpyF f b g n (b + k) = g k := by
  unfold cpyF
  rw [if_pos (by omega), Nat.add_sub_cancel_left]
theorem cpyF_lt (f : Nat → Int32) (b : Nat) (g : Nat → Int32) {n k : Nat} (h : k < b) : cpyF f b g n k = f k := by
  unfold cpyF
  rw [if_neg (by omega)]
def shP (p : Nat → Int32) (n : Nat) : Nat → Int32 := fun m => if m < n then p (m + 130) else p m
theorem shP_s (p : Nat → Int32) (n : Nat) : upd (shP p n) n (shP p n (n + 130)) = shP p (n + 1) := by
  funext m
  simp only [upd, shP]
  rw [if_neg (show ¬ n + 130 < n by omega)]
  by_cases h : m = n
  · subst h
    rw [if_pos rfl, if_pos (by omega)]
  · rw [if_neg h]
    by_cases h2 : m < n
    · rw [if_pos h2, if_pos (by omega)]
    · rw [if_neg h2, if_neg (by omega)]
theorem oA_st {R : OV} {s t : Nat} {v : Int32} {f f' : Nat → Int32} (h : upd f t v = f') : oA (oA R s f) s (upd ((oA R s f).2 s) t v) = oA R s f' := by rw [oA_oA, oA_w, h]
theorem oA_x (R : OV) {s s' : Nat} (f : Nat → Int32) (h : s' ≠ s) : (oA R s f).2 s' = R.2 s' := updA_ne _ _ h
theorem oI_x (R : OV) {s s' : Nat} (v : Int32) (h : s' ≠ s) : (oI R s v).1 s' = R.1 s' := upd_ne _ _ h
theorem oI_w (R : OV) (s : Nat) (v : Int32) : (oI R s v).1 s = v := upd_same _ _ _
set_option maxRecDepth 100000 in
set_option maxHeartbeats 4000000 in
theorem c_X5_record {Γ : GT} {M N : Mem} {R : OV} (hU : HU N) (hH : relH N (R.1 2) (R.2 1)) (hW : RW (R.2 0) (N.1 1 0) (N.1 0 0)) : CtR Γ yX5_record cX5_record 2 none 0 [.ref (ad Γ 5 0 0)] M R none (fun R' => Sm R R' ∧ R'.2 0 = R.2 0 ∧ relH (recM N) (R'.1 2) (R'.2 1)) := by
  refine ctr_of (by decide) (Nat.le_of_ble_eq_true rfl) (fun K hg hr => ?_)
  show WM Γ K _ [(0, _)] 0 []
  have hc := hH.1
  have hu := hU.2.1
  have hu1 := hU.1
  refine wm_aload_n (q := 1) (i := 0) hg dX5_record_0 rfl rfl rfl ?_
  refine wm_rget (q := 4) hg dX5_record_1 rfl fl_X5_56 rfl ?_
  refine wm_bipush (q := 6) 8 hg dX5_record_4 rfl (by decide) ?_
  refine wm_icmp_ne (q := 50) (q2 := 9) hg dX5_record_6 (by decide) rfl (fun h1 => ?_) (fun h1 => ?_)
  · have hne : unN N < 8 := by
      rcases Nat.lt_or_ge (unN N) 8 with z | z
      · exact z
      · exact absurd (by rw [hc, show unN N = 8 by omega]; rfl) h1
    have h8 : (N.1 4 0).1 2 < 8 := by rw [hu1]; exact nI_lt hne (by decide)
    refine wm_iconst (q := 51) 0 hg dX5_record_50 rfl (by decide) ?_
    refine wm_istore_n (q := 52) (i := 1) (L' := [(0, _), (1, _)]) hg dX5_record_51 rfl rfl rfl rfl ?_
    suffices hloop : ∀ (n i : Nat), i + n = 130 → WM Γ K (sR M (oA R 1 (cpyF (R.2 1) (130 * unN N) (R.2 0) i))) [(0, .ref (ad Γ 5 0 0)), (1, .int (nI i))] 52 [] from wm_R (by rw [cpyF_0]; exact (oA_self R 1).symm) (hloop 130 0 (by omega))
    intro n
    induction n with
    | zero =>
      intro i hi 
      refine wm_iload_n (q := 53) (i := 1) hg dX5_record_52 rfl rfl rfl ?_
      refine wm_sipush (q := 56) 130 hg dX5_record_53 rfl (by decide) ?_
      refine wm_icmp_ge (q := 86) (q2 := 59) hg dX5_record_56 (by decide) rfl (fun hb => ?_) (fun hb => ?_)
      · have he : i = 130 := by omega
        subst he
        refine wm_aload_n (q := 87) (i := 0) hg dX5_record_86 rfl rfl rfl ?_
        refine wm_dup (q := 88) hg dX5_record_87 rfl rfl ?_
        refine wm_rget (q := 91) hg dX5_record_88 rfl fl_X5_56 rfl ?_
        refine wm_iconst (q := 92) 1 hg dX5_record_91 rfl (by decide) ?_
        refine wm_iadd (q := 93) hg dX5_record_92 rfl ?_
        refine wm_rput (q := 96) hg dX5_record_93 rfl fl_X5_56 rfl ?_
        exact wm_vrret hg hr dX5_record_96 (⟨(Sm.A _ (by decide)).tr (Sm.I _ (by decide)), rfl, by show relH (recM N) (upd R.1 2 (R.1 2 + 1) 2) (updA R.2 1 (cpyF (R.2 1) (130 * unN N) (R.2 0) 130) 1); rw [upd_same, updA_same, hc, nI_1]; exact relH_lt hU hH hW h8 (fun k hk => cpyF_lt _ _ _ hk) (fun k hk => cpyF_in _ _ _ hk)⟩)
      · exact absurd (nI_le (a := 130) (b := i) (by omega) (by omega)) hb
    | succ n ih =>
      intro i hi 
      refine wm_iload_n (q := 53) (i := 1) hg dX5_record_52 rfl rfl rfl ?_
      refine wm_sipush (q := 56) 130 hg dX5_record_53 rfl (by decide) ?_
      refine wm_icmp_ge (q := 86) (q2 := 59) hg dX5_record_56 (by decide) rfl (fun hb => ?_) (fun hb => ?_)
      · exact absurd hb (nI_ge (a := i) (b := 130) (by omega) (by omega))
      · refine wm_aload_n (q := 60) (i := 0) hg dX5_record_59 rfl rfl rfl ?_
        refine wm_get (q := 63) hg dX5_record_60 rfl fl_X5_13 (by first | assumption | decide | omega | (simp only [nO]; omega)) rfl ?_
        refine wm_sipush (q := 66) 130 hg dX5_record_63 rfl (by decide) ?_
        refine wm_aload_n (q := 67) (i := 0) hg dX5_record_66 rfl rfl rfl ?_
        refine wm_rget (q := 70) hg dX5_record_67 rfl fl_X5_56 rfl ?_
        refine wm_imul (q := 71) hg dX5_record_70 rfl ?_
        refine wm_iload_n (q := 72) (i := 1) hg dX5_record_71 rfl rfl rfl ?_
        refine wm_iadd (q := 73) hg dX5_record_72 rfl ?_
        refine wm_aload_n (q := 74) (i := 0) hg dX5_record_73 rfl rfl rfl ?_
        refine wm_get (q := 77) hg dX5_record_74 rfl fl_X5_7 (by first | assumption | decide | omega | (simp only [nO]; omega)) rfl ?_
        refine wm_iload_n (q := 78) (i := 1) hg dX5_record_77 rfl rfl rfl ?_
        refine wm_rload (q := 79) i hg dX5_record_78 rfl rfl rfl (by simp only [alen]; omega) ?_
        refine wm_rstore (q := 80) ((130 * (unN N)) + i) hg dX5_record_79 rfl rfl (nadd (a := (130 * (unN N))) (b := i) (nmul (a := 130) (b := (unN N)) (rfl : (130 : Int32) = nI 130) hc) rfl) (by simp only [alen]; omega) ?_
        refine wm_iinc (q := 83) (L' := [(0, _), (1, _)]) (nI (i + 1)) hg dX5_record_80 rfl rfl (nadd rfl rfl) rfl rfl ?_
        refine wm_goto (q := 52) hg dX5_record_83 (by decide) ?_
        exact wm_R (oA_st (cpyF_s (R.2 1) (130 * unN N) (R.2 0) i)) (ih (i + 1) (by omega))
  · have hne : unN N = 8 := by
      rw [hc] at h1
      exact (nI_eq (a := unN N) (b := 8) (by omega) (by decide)).mp h1
    have h8 : ¬ (N.1 4 0).1 2 < 8 := by rw [hu1, hne]; decide
    refine wm_iconst (q := 10) 0 hg dX5_record_9 rfl (by decide) ?_
    refine wm_istore_n (q := 11) (i := 1) (L' := [(0, _), (1, _)]) hg dX5_record_10 rfl rfl rfl rfl ?_
    suffices hloop : ∀ (n i : Nat), i + n = 910 → WM Γ K (sR M (oA R 1 (shP (R.2 1) i))) [(0, .ref (ad Γ 5 0 0)), (1, .int (nI i))] 11 [] from wm_R (by rw [show shP (R.2 1) 0 = R.2 1 from by funext m; simp only [shP]; rw [if_neg (by omega)]]; exact (oA_self R 1).symm) (hloop 910 0 (by omega))
    intro n
    induction n with
    | zero =>
      intro i hi 
      refine wm_iload_n (q := 12) (i := 1) hg dX5_record_11 rfl rfl rfl ?_
      refine wm_sipush (q := 15) 910 hg dX5_record_12 rfl (by decide) ?_
      refine wm_icmp_ge (q := 40) (q2 := 18) hg dX5_record_15 (by decide) rfl (fun hb => ?_) (fun hb => ?_)
      · have he : i = 910 := by omega
        subst he
        refine wm_aload_n (q := 41) (i := 0) hg dX5_record_40 rfl rfl rfl ?_
        refine wm_dup (q := 42) hg dX5_record_41 rfl rfl ?_
        refine wm_rget (q := 45) hg dX5_record_42 rfl fl_X5_56 rfl ?_
        refine wm_iconst (q := 46) 1 hg dX5_record_45 rfl (by decide) ?_
        refine wm_isub (q := 47) hg dX5_record_46 rfl ?_
        refine wm_rput (q := 50) hg dX5_record_47 rfl fl_X5_56 rfl ?_
        refine wm_iconst (q := 51) 0 hg dX5_record_50 rfl (by decide) ?_
        refine wm_istore_n (q := 52) (i := 1) (L' := [(0, _), (1, _)]) hg dX5_record_51 rfl rfl rfl rfl ?_
        refine wm_R (R' := oA (oI R 2 7) 1 (shP (R.2 1) 910)) (by show (upd R.1 2 (R.1 2 - 1), _) = (upd R.1 2 7, _); rw [h1]; rfl) ?_
        suffices hloop : ∀ (n i : Nat), i + n = 130 → WM Γ K (sR M (oA (oI R 2 7) 1 (cpyF (shP (R.2 1) 910) 910 (R.2 0) i))) [(0, .ref (ad Γ 5 0 0)), (1, .int (nI i))] 52 [] from wm_R (by rw [cpyF_0]) (hloop 130 0 (by omega))
        intro n
        induction n with
        | zero =>
          intro i hi 
          refine wm_iload_n (q := 53) (i := 1) hg dX5_record_52 rfl rfl rfl ?_
          refine wm_sipush (q := 56) 130 hg dX5_record_53 rfl (by decide) ?_
          refine wm_icmp_ge (q := 86) (q2 := 59) hg dX5_record_56 (by decide) rfl (fun hb => ?_) (fun hb => ?_)
          · have he : i = 130 := by omega
            subst he
            refine wm_aload_n (q := 87) (i := 0) hg dX5_record_86 rfl rfl rfl ?_
            refine wm_dup (q := 88) hg dX5_record_87 rfl rfl ?_
            refine wm_rget (q := 91) hg dX5_record_88 rfl fl_X5_56 rfl ?_
            refine wm_iconst (q := 92) 1 hg dX5_record_91 rfl (by decide) ?_
            refine wm_iadd (q := 93) hg dX5_record_92 rfl ?_
            refine wm_rput (q := 96) hg dX5_record_93 rfl fl_X5_56 rfl ?_
            exact wm_vrret hg hr dX5_record_96 (⟨(Sm.I _ (by decide)).tr ((Sm.A _ (by decide)).tr (Sm.I _ (by decide))), rfl, by show relH (recM N) (upd (upd R.1 2 7) 2 (upd R.1 2 7 2 + 1) 2) (updA R.2 1 (cpyF (shP (R.2 1) 910) 910 (R.2 0) 130) 1); rw [upd_same, upd_same, updA_same]; exact relH_ge hU hH hW h8 (fun k hk => by rw [cpyF_lt _ _ _ hk, shP, if_pos hk]) (fun k hk => cpyF_in _ _ _ hk)⟩)
          · exact absurd (nI_le (a := 130) (b := i) (by omega) (by omega)) hb
        | succ n ih =>
          intro i hi 
          refine wm_iload_n (q := 53) (i := 1) hg dX5_record_52 rfl rfl rfl ?_
          refine wm_sipush (q := 56) 130 hg dX5_record_53 rfl (by decide) ?_
          refine wm_icmp_ge (q := 86) (q2 := 59) hg dX5_record_56 (by decide) rfl (fun hb => ?_) (fun hb => ?_)
          · exact absurd hb (nI_ge (a := i) (b := 130) (by omega) (by omega))
          · refine wm_aload_n (q := 60) (i := 0) hg dX5_record_59 rfl rfl rfl ?_
            refine wm_get (q := 63) hg dX5_record_60 rfl fl_X5_13 (by first | assumption | decide | omega | (simp only [nO]; omega)) rfl ?_
            refine wm_sipush (q := 66) 130 hg dX5_record_63 rfl (by decide) ?_
            refine wm_aload_n (q := 67) (i := 0) hg dX5_record_66 rfl rfl rfl ?_
            refine wm_rget (q := 70) hg dX5_record_67 rfl fl_X5_56 rfl ?_
            refine wm_imul (q := 71) hg dX5_record_70 rfl ?_
            refine wm_iload_n (q := 72) (i := 1) hg dX5_record_71 rfl rfl rfl ?_
            refine wm_iadd (q := 73) hg dX5_record_72 rfl ?_
            refine wm_aload_n (q := 74) (i := 0) hg dX5_record_73 rfl rfl rfl ?_
            refine wm_get (q := 77) hg dX5_record_74 rfl fl_X5_7 (by first | assumption | decide | omega | (simp only [nO]; omega)) rfl ?_
            refine wm_iload_n (q := 78) (i := 1) hg dX5_record_77 rfl rfl rfl ?_
            refine wm_rload (q := 79) i hg dX5_record_78 rfl rfl rfl (by simp only [alen]; omega) ?_
            refine wm_rstore (q := 80) ((130 * 7) + i) hg dX5_record_79 rfl rfl (nadd (a := (130 * 7)) (b := i) (nmul (a := 130) (b := 7) (rfl : (130 : Int32) = nI 130) (upd_same R.1 2 7)) rfl) (by simp only [alen]; omega) ?_
            refine wm_iinc (q := 83) (L' := [(0, _), (1, _)]) (nI (i + 1)) hg dX5_record_80 rfl rfl (nadd rfl rfl) rfl rfl ?_
            refine wm_goto (q := 52) hg dX5_record_83 (by decide) ?_
            exact wm_R (oA_st (cpyF_s (shP (R.2 1) 910) 910 (R.2 0) i)) (ih (i + 1) (by omega))
      · exact absurd (nI_le (a := 910) (b := i) (by omega) (by omega)) hb
    | succ n ih =>
      intro i hi 
      refine wm_iload_n (q := 12) (i := 1) hg dX5_record_11 rfl rfl rfl ?_
      refine wm_sipush (q := 15) 910 hg dX5_record_12 rfl (by decide) ?_
      refine wm_icmp_ge (q := 40) (q2 := 18) hg dX5_record_15 (by decide) rfl (fun hb => ?_) (fun hb => ?_)
      · exact absurd hb (nI_ge (a := i) (b := 910) (by omega) (by omega))
      · refine wm_aload_n (q := 19) (i := 0) hg dX5_record_18 rfl rfl rfl ?_
        refine wm_get (q := 22) hg dX5_record_19 rfl fl_X5_13 (by first | assumption | decide | omega | (simp only [nO]; omega)) rfl ?_
        refine wm_iload_n (q := 23) (i := 1) hg dX5_record_22 rfl rfl rfl ?_
        refine wm_aload_n (q := 24) (i := 0) hg dX5_record_23 rfl rfl rfl ?_
        refine wm_get (q := 27) hg dX5_record_24 rfl fl_X5_13 (by first | assumption | decide | omega | (simp only [nO]; omega)) rfl ?_
        refine wm_iload_n (q := 28) (i := 1) hg dX5_record_27 rfl rfl rfl ?_
        refine wm_sipush (q := 31) 130 hg dX5_record_28 rfl (by decide) ?_
        refine wm_iadd (q := 32) hg dX5_record_31 rfl ?_
        refine wm_rload (q := 33) (i + 130) hg dX5_record_32 rfl rfl (nadd (a := i) (b := 130) rfl (rfl : (130 : Int32) = nI 130)) (by simp only [alen]; omega) ?_
        refine wm_rstore (q := 34) i hg dX5_record_33 rfl rfl rfl (by simp only [alen]; omega) ?_
        refine wm_iinc (q := 37) (L' := [(0, _), (1, _)]) (nI (i + 1)) hg dX5_record_34 rfl rfl (nadd rfl rfl) rfl rfl ?_
        refine wm_goto (q := 11) hg dX5_record_37 (by decide) ?_
        exact wm_R (oA_st (shP_s (R.2 1) i)) (ih (i + 1) (by omega))
theorem oA_st3 {R : OV} {s t1 t2 t3 : Nat} {v1 v2 v3 : Int32} {f f' : Nat → Int32} (h : upd (upd (upd f t1 v1) t2 v2) t3 v3 = f') : oA (oA (oA (oA R s f) s (upd ((oA R s f).2 s) t1 v1)) s (upd ((oA (oA R s f) s (upd ((oA R s f).2 s) t1 v1)).2 s) t2 v2)) s (upd ((oA (oA (oA R s f) s (upd ((oA R s f).2 s) t1 v1)) s (upd ((oA (oA R s f) s (upd ((oA R s f).2 s) t1 v1)).2 s) t2 v2)).2 s) t3 v3) = oA R s f' := by
  subst h
  simp only [oA, updA_same, updA_updA]
def laF (w : Nat → Int32) (n : Int32) (i : Nat) : Nat → Int32 := fun m => if m = 0 then n else if 1 ≤ m ∧ m < 1 + i then 0 else if 11 ≤ m ∧ m < 11 + i then 0 else if 21 ≤ m ∧ m < 21 + i then -1000000009 else w m
theorem laF_s (w : Nat → Int32) (n : Int32) {i : Nat} (h : i < 10) : upd (upd (upd (laF w n i) (1 + i) 0) (11 + i) 0) (21 + i) (-1000000009) = laF w n (i + 1) := by
  funext m
  simp only [upd, laF]
  (repeat' split) <;> first | rfl | (exfalso; omega)
theorem laF_0 (w : Nat → Int32) (n : Int32) : upd w 0 n = laF w n 0 := by
  funext m
  simp only [upd, laF]
  (repeat' split) <;> first | rfl | (exfalso; omega)
def rwA (n : Nat) (w : Nat → Int32) (X : OV) : Prop := ∀ k, k < n → w (1 + k) = X.2 1 k ∧ w (11 + k) = X.2 2 k ∧ w (21 + k) = X.2 3 k
theorem rwA_set {n : Nat} {w : Nat → Int32} {X : OV} (h : rwA n w X) (hn : n ≤ 10) {t : Nat} (ht : t < 10) (a b c : Int32) : rwA n (upd (upd (upd w (1 + t) a) (11 + t) b) (21 + t) c) (X.1, updA (updA (updA X.2 1 (upd (X.2 1) t a)) 2 (upd (X.2 2) t b)) 3 (upd (X.2 3) t c)) := by
  intro k hk
  obtain ⟨h1, h2, h3⟩ := h k hk
  by_cases hkt : k = t
  · subst hkt
    refine ⟨?_, ?_, ?_⟩
    · rw [upd_ne _ _ (by omega), upd_ne _ _ (by omega), upd_same]; simp [updA, upd]
    · rw [upd_ne _ _ (by omega), upd_same]; simp [updA, upd]
    · rw [upd_same]; simp [updA, upd]
  · refine ⟨?_, ?_, ?_⟩
    · rw [upd_ne _ _ (by omega), upd_ne _ _ (by omega), upd_ne _ _ (by omega), h1]; simp [updA, upd, hkt]
    · rw [upd_ne _ _ (by omega), upd_ne _ _ (by omega), upd_ne _ _ (by omega), h2]; simp [updA, upd, hkt]
    · rw [upd_ne _ _ (by omega), upd_ne _ _ (by omega), upd_ne _ _ (by omega), h3]; simp [updA, upd, hkt]
theorem rwA_cp {n : Nat} {w : Nat → Int32} {X : OV} (h : rwA n w X) (hn : n ≤ 10) {t f : Nat} (ht : t < 10) (hf : f < n) {a b c : Int32} (ha : a = w (1 + f)) (hb : b = w (11 + f)) (hc : c = w (21 + f)) : rwA n (upd (upd (upd w (1 + t) a) (11 + t) b) (21 + t) c) (cpX X X t f) := by
  obtain ⟨h1, h2, h3⟩ := h f hf
  rw [h1] at ha
  rw [h2] at hb
  rw [h3] at hc
  rw [ha, hb, hc]
  exact rwA_set h hn ht _ _ _
theorem RI_undo {N : Mem} {R R' : OV} (h : RI N R) (hp : 0 < unN N) (hs : Sm R R') (h1 : R'.1 2 = nI (unN N - 1)) (h2 : R'.2 1 = R.2 1) (hW : RW (R'.2 0) (N.1 1 (N.2 (unN N - 1))) (N.1 0 (N.2 (unN N - 1)))) : RI (setP (sI N 4 0 2 ((N.1 4 0).1 2 - 1)) (N.1 1 (N.2 (unN N - 1))) (N.1 0 (N.2 (unN N - 1)))) R' := by
  obtain ⟨⟨q1, q2, q3, q4⟩, r2, r3, r4, r5⟩ := h
  have hu := q1.2.1
  have ec : (N.1 4 0).1 2 - 1 = nI (unN N - 1) := nsub q1.1 rfl (by omega)
  rw [ec]
  have e0 : ∀ ci i, ci ≠ 4 → (sI N 4 0 2 (nI (unN N - 1))).1 ci i = N.1 ci i := fun ci i hc => sO_kind _ _ _ _ hc
  have e1 : ((sI N 4 0 2 (nI (unN N - 1))).1 4 0).1 2 = nI (unN N - 1) := by rw [sI, sO_same]; exact oI_w _ _ _
  have e2 : unN (sI N 4 0 2 (nI (unN N - 1))) = unN N - 1 := by
    show (((sI N 4 0 2 (nI (unN N - 1))).1 4 0).1 2).toNatClampNeg = _
    rw [e1, nI_clamp (by omega)]
  have e3 : ((sI N 4 0 2 (nI (unN N - 1))).1 4 0).2 = (N.1 4 0).2 := by rw [sI, sO_same]
  have hI : InvC (sI N 4 0 2 (nI (unN N - 1))) := ⟨⟨by rw [e1, e2], by omega, q1.2.2⟩, fun g hg => by rw [e0 _ _ (by decide)]; exact q2 g hg, fun g hg => by rw [e0 _ _ (by decide)]; exact q3 g hg, by rw [e0 _ _ (by decide)]; exact q4⟩
  generalize N.1 1 (N.2 (unN N - 1)) = X at *
  generalize N.1 0 (N.2 (unN N - 1)) = B at *
  have e4 : (setP (sI N 4 0 2 (nI (unN N - 1))) X B).1 4 0 = (sI N 4 0 2 (nI (unN N - 1))).1 4 0 := setP_k _ X B 0 (by decide) (by decide)
  have e5 : unN (setP (sI N 4 0 2 (nI (unN N - 1))) X B) = unN N - 1 := by
    show (((setP (sI N 4 0 2 (nI (unN N - 1))) X B).1 4 0).1 2).toNatClampNeg = _
    rw [e4]
    exact e2
  refine ⟨InvC_P hI hW.1.1.1 hW.1.2.2.1, by rw [setP_c, setP_b]; exact hW, ⟨by rw [e5]; exact h1, fun j hj => ?_⟩, fun i hi => ?_, ?_⟩
  · rw [e5] at hj
    have := q1.2.2.1 j (by omega)
    show RW _ ((setP (sI N 4 0 2 (nI (unN N - 1))) X B).1 1 (N.2 j)) ((setP (sI N 4 0 2 (nI (unN N - 1))) X B).1 0 (N.2 j))
    rw [setP_cg _ X B (by omega), setP_bg _ X B (by omega), e0 _ _ (by decide), e0 _ _ (by decide), h2]
    exact r3.2 j (by omega)
  · rw [e4, e3, setP_cg _ X B (by omega), setP_bg _ X B (by omega), e0 _ _ (by decide), e0 _ _ (by decide), hs.1, hs.2.1]
    exact r4 i hi
  · rw [setP_k _ X B 0 (by decide) (by decide), e0 _ _ (by decide)]
    exact relT_sm r5 hs
set_option maxRecDepth 100000 in
set_option maxHeartbeats 4000000 in
theorem c_X5_lay {Γ : GT} {M : Mem} {R : OV} {v : Int32} : Ct Γ yX5_lay cX5_lay 3 none 0 [.ref (ad Γ 5 0 0), .int v] (sR M R) none (sR M (oA R 0 (laF (R.2 0) v 10))) := by
  refine ct_of (by decide) (Nat.le_of_ble_eq_true rfl) (fun K hg hr => ?_)
  show WM Γ K _ [(0, _), (1, _)] 0 []
  refine wm_aload_n (q := 1) (i := 0) hg dX5_lay_0 rfl rfl rfl ?_
  refine wm_get (q := 4) hg dX5_lay_1 rfl fl_X5_7 (by first | assumption | decide | omega | (simp only [nO]; omega)) rfl ?_
  refine wm_iconst (q := 5) 0 hg dX5_lay_4 rfl (by decide) ?_
  refine wm_iload_n (q := 6) (i := 1) hg dX5_lay_5 rfl rfl rfl ?_
  refine wm_rstore (q := 7) 0 hg dX5_lay_6 rfl rfl (rfl : (0 : Int32) = nI 0) (by simp only [alen]; omega) ?_
  refine wm_iconst (q := 8) 0 hg dX5_lay_7 rfl (by decide) ?_
  refine wm_istore_n (q := 9) (i := 2) (L' := [(0, _), (1, _), (2, _)]) hg dX5_lay_8 rfl rfl rfl rfl ?_
  suffices hloop : ∀ (n i : Nat), i + n = 10 → WM Γ K (sR M (oA R 0 (laF (R.2 0) v i))) [(0, .ref (ad Γ 5 0 0)), (1, .int v), (2, .int (nI i))] 9 [] from wm_R (by rw [laF_0]) (hloop 10 0 (by omega))
  intro n
  induction n with
  | zero =>
    intro i hi 
    refine wm_iload_n (q := 10) (i := 2) hg dX5_lay_9 rfl rfl rfl ?_
    refine wm_bipush (q := 12) 10 hg dX5_lay_10 rfl (by decide) ?_
    refine wm_icmp_ge (q := 51) (q2 := 15) hg dX5_lay_12 (by decide) rfl (fun hb => ?_) (fun hb => ?_)
    · have he : i = 10 := by omega
      subst he
      exact wm_vret hg hr dX5_lay_51 (rfl)
    · exact absurd (nI_le (a := 10) (b := i) (by omega) (by omega)) hb
  | succ n ih =>
    intro i hi 
    refine wm_iload_n (q := 10) (i := 2) hg dX5_lay_9 rfl rfl rfl ?_
    refine wm_bipush (q := 12) 10 hg dX5_lay_10 rfl (by decide) ?_
    refine wm_icmp_ge (q := 51) (q2 := 15) hg dX5_lay_12 (by decide) rfl (fun hb => ?_) (fun hb => ?_)
    · exact absurd hb (nI_ge (a := i) (b := 10) (by omega) (by omega))
    · refine wm_aload_n (q := 16) (i := 0) hg dX5_lay_15 rfl rfl rfl ?_
      refine wm_get (q := 19) hg dX5_lay_16 rfl fl_X5_7 (by first | assumption | decide | omega | (simp only [nO]; omega)) rfl ?_
      refine wm_iconst (q := 20) 1 hg dX5_lay_19 rfl (by decide) ?_
      refine wm_iload_n (q := 21) (i := 2) hg dX5_lay_20 rfl rfl rfl ?_
      refine wm_iadd (q := 22) hg dX5_lay_21 rfl ?_
      refine wm_iconst (q := 23) 0 hg dX5_lay_22 rfl (by decide) ?_
      refine wm_rstore (q := 24) (1 + i) hg dX5_lay_23 rfl rfl (nadd (a := 1) (b := i) (rfl : (1 : Int32) = nI 1) rfl) (by simp only [alen]; omega) ?_
      refine wm_aload_n (q := 25) (i := 0) hg dX5_lay_24 rfl rfl rfl ?_
      refine wm_get (q := 28) hg dX5_lay_25 rfl fl_X5_7 (by first | assumption | decide | omega | (simp only [nO]; omega)) rfl ?_
      refine wm_bipush (q := 30) 11 hg dX5_lay_28 rfl (by decide) ?_
      refine wm_iload_n (q := 31) (i := 2) hg dX5_lay_30 rfl rfl rfl ?_
      refine wm_iadd (q := 32) hg dX5_lay_31 rfl ?_
      refine wm_iconst (q := 33) 0 hg dX5_lay_32 rfl (by decide) ?_
      refine wm_rstore (q := 34) (11 + i) hg dX5_lay_33 rfl rfl (nadd (a := 11) (b := i) (rfl : (11 : Int32) = nI 11) rfl) (by simp only [alen]; omega) ?_
      refine wm_aload_n (q := 35) (i := 0) hg dX5_lay_34 rfl rfl rfl ?_
      refine wm_get (q := 38) hg dX5_lay_35 rfl fl_X5_7 (by first | assumption | decide | omega | (simp only [nO]; omega)) rfl ?_
      refine wm_bipush (q := 40) 21 hg dX5_lay_38 rfl (by decide) ?_
      refine wm_iload_n (q := 41) (i := 2) hg dX5_lay_40 rfl rfl rfl ?_
      refine wm_iadd (q := 42) hg dX5_lay_41 rfl ?_
      refine wm_ldc (q := 44) (-1000000009) hg dX5_lay_42 rfl ld_X5_25 ?_
      refine wm_rstore (q := 45) (21 + i) hg dX5_lay_44 rfl rfl (nadd (a := 21) (b := i) (rfl : (21 : Int32) = nI 21) rfl) (by simp only [alen]; omega) ?_
      refine wm_iinc (q := 48) (L' := [(0, _), (1, _), (2, _)]) (nI (i + 1)) hg dX5_lay_45 rfl rfl (nadd rfl rfl) rfl rfl ?_
      refine wm_goto (q := 9) hg dX5_lay_48 (by decide) ?_
      exact wm_R (oA_st3 (laF_s (R.2 0) v (by omega))) (ih (i + 1) (by omega))
set_option maxRecDepth 100000 in
set_option maxHeartbeats 4000000 in
theorem c_X5_putAside {Γ : GT} {M : Mem} {R : OV}  : Ct Γ yX5_putAside cX5_putAside 2 none 0 [.ref (ad Γ 5 0 0)] (sR M R) none (sR M (oA R 9 (cpyF (R.2 9) 0 (R.2 0) 130))) := by
  refine ct_of (by decide) (Nat.le_of_ble_eq_true rfl) (fun K hg hr => ?_)
  show WM Γ K _ [(0, _)] 0 []
  refine wm_iconst (q := 1) 0 hg dX5_putAside_0 rfl (by decide) ?_
  refine wm_istore_n (q := 2) (i := 1) (L' := [(0, _), (1, _)]) hg dX5_putAside_1 rfl rfl rfl rfl ?_
  suffices hloop : ∀ (n i : Nat), i + n = 130 → WM Γ K (sR M (oA R 9 (cpyF (R.2 9) 0 (R.2 0) i))) [(0, .ref (ad Γ 5 0 0)), (1, .int (nI i))] 2 [] from wm_R (by rw [cpyF_0]; exact (oA_self R 9).symm) (hloop 130 0 (by omega))
  intro n
  induction n with
  | zero =>
    intro i hi 
    refine wm_iload_n (q := 3) (i := 1) hg dX5_putAside_2 rfl rfl rfl ?_
    refine wm_sipush (q := 6) 130 hg dX5_putAside_3 rfl (by decide) ?_
    refine wm_icmp_ge (q := 27) (q2 := 9) hg dX5_putAside_6 (by decide) rfl (fun hb => ?_) (fun hb => ?_)
    · have he : i = 130 := by omega
      subst he
      exact wm_vret hg hr dX5_putAside_27 (rfl)
    · exact absurd (nI_le (a := 130) (b := i) (by omega) (by omega)) hb
  | succ n ih =>
    intro i hi 
    refine wm_iload_n (q := 3) (i := 1) hg dX5_putAside_2 rfl rfl rfl ?_
    refine wm_sipush (q := 6) 130 hg dX5_putAside_3 rfl (by decide) ?_
    refine wm_icmp_ge (q := 27) (q2 := 9) hg dX5_putAside_6 (by decide) rfl (fun hb => ?_) (fun hb => ?_)
    · exact absurd hb (nI_ge (a := i) (b := 130) (by omega) (by omega))
    · refine wm_aload_n (q := 10) (i := 0) hg dX5_putAside_9 rfl rfl rfl ?_
      refine wm_get (q := 13) hg dX5_putAside_10 rfl fl_X5_33 (by first | assumption | decide | omega | (simp only [nO]; omega)) rfl ?_
      refine wm_iload_n (q := 14) (i := 1) hg dX5_putAside_13 rfl rfl rfl ?_
      refine wm_aload_n (q := 15) (i := 0) hg dX5_putAside_14 rfl rfl rfl ?_
      refine wm_get (q := 18) hg dX5_putAside_15 rfl fl_X5_7 (by first | assumption | decide | omega | (simp only [nO]; omega)) rfl ?_
      refine wm_iload_n (q := 19) (i := 1) hg dX5_putAside_18 rfl rfl rfl ?_
      refine wm_rload (q := 20) i hg dX5_putAside_19 rfl rfl rfl (by simp only [alen]; omega) ?_
      refine wm_rstore (q := 21) i hg dX5_putAside_20 rfl rfl rfl (by simp only [alen]; omega) ?_
      refine wm_iinc (q := 24) (L' := [(0, _), (1, _)]) (nI (i + 1)) hg dX5_putAside_21 rfl rfl (nadd rfl rfl) rfl rfl ?_
      refine wm_goto (q := 2) hg dX5_putAside_24 (by decide) ?_
      exact wm_R (oA_st (by have e := cpyF_s (R.2 9) 0 (R.2 0) i; rw [Nat.zero_add] at e; exact e)) (ih (i + 1) (by omega))
set_option maxRecDepth 100000 in
set_option maxHeartbeats 4000000 in
theorem c_X5_putBack {Γ : GT} {M : Mem} {R : OV}  : Ct Γ yX5_putBack cX5_putBack 2 none 0 [.ref (ad Γ 5 0 0)] (sR M R) none (sR M (oA R 0 (cpyF (R.2 0) 0 (R.2 9) 130))) := by
  refine ct_of (by decide) (Nat.le_of_ble_eq_true rfl) (fun K hg hr => ?_)
  show WM Γ K _ [(0, _)] 0 []
  refine wm_iconst (q := 1) 0 hg dX5_putBack_0 rfl (by decide) ?_
  refine wm_istore_n (q := 2) (i := 1) (L' := [(0, _), (1, _)]) hg dX5_putBack_1 rfl rfl rfl rfl ?_
  suffices hloop : ∀ (n i : Nat), i + n = 130 → WM Γ K (sR M (oA R 0 (cpyF (R.2 0) 0 (R.2 9) i))) [(0, .ref (ad Γ 5 0 0)), (1, .int (nI i))] 2 [] from wm_R (by rw [cpyF_0]; exact (oA_self R 0).symm) (hloop 130 0 (by omega))
  intro n
  induction n with
  | zero =>
    intro i hi 
    refine wm_iload_n (q := 3) (i := 1) hg dX5_putBack_2 rfl rfl rfl ?_
    refine wm_sipush (q := 6) 130 hg dX5_putBack_3 rfl (by decide) ?_
    refine wm_icmp_ge (q := 27) (q2 := 9) hg dX5_putBack_6 (by decide) rfl (fun hb => ?_) (fun hb => ?_)
    · have he : i = 130 := by omega
      subst he
      exact wm_vret hg hr dX5_putBack_27 (rfl)
    · exact absurd (nI_le (a := 130) (b := i) (by omega) (by omega)) hb
  | succ n ih =>
    intro i hi 
    refine wm_iload_n (q := 3) (i := 1) hg dX5_putBack_2 rfl rfl rfl ?_
    refine wm_sipush (q := 6) 130 hg dX5_putBack_3 rfl (by decide) ?_
    refine wm_icmp_ge (q := 27) (q2 := 9) hg dX5_putBack_6 (by decide) rfl (fun hb => ?_) (fun hb => ?_)
    · exact absurd hb (nI_ge (a := i) (b := 130) (by omega) (by omega))
    · refine wm_aload_n (q := 10) (i := 0) hg dX5_putBack_9 rfl rfl rfl ?_
      refine wm_get (q := 13) hg dX5_putBack_10 rfl fl_X5_7 (by first | assumption | decide | omega | (simp only [nO]; omega)) rfl ?_
      refine wm_iload_n (q := 14) (i := 1) hg dX5_putBack_13 rfl rfl rfl ?_
      refine wm_aload_n (q := 15) (i := 0) hg dX5_putBack_14 rfl rfl rfl ?_
      refine wm_get (q := 18) hg dX5_putBack_15 rfl fl_X5_33 (by first | assumption | decide | omega | (simp only [nO]; omega)) rfl ?_
      refine wm_iload_n (q := 19) (i := 1) hg dX5_putBack_18 rfl rfl rfl ?_
      refine wm_rload (q := 20) i hg dX5_putBack_19 rfl rfl rfl (by simp only [alen]; omega) ?_
      refine wm_rstore (q := 21) i hg dX5_putBack_20 rfl rfl rfl (by simp only [alen]; omega) ?_
      refine wm_iinc (q := 24) (L' := [(0, _), (1, _)]) (nI (i + 1)) hg dX5_putBack_21 rfl rfl (nadd rfl rfl) rfl rfl ?_
      refine wm_goto (q := 2) hg dX5_putBack_24 (by decide) ?_
      exact wm_R (oA_st (by have e := cpyF_s (R.2 0) 0 (R.2 9) i; rw [Nat.zero_add] at e; exact e)) (ih (i + 1) (by omega))
set_option maxRecDepth 100000 in
set_option maxHeartbeats 4000000 in
theorem c_X5_undo {Γ : GT} {M N : Mem} {R : OV} (hR : RI N R) : CtR Γ yX5_undo cX5_undo 2 (some .int) 0 [.ref (ad Γ 5 0 0)] M R (some (.int (fUndo N).1)) (fun R' => RI (fUndo N).2 R') := by
  refine ctr_of (by decide) (Nat.le_of_ble_eq_true rfl) (fun K hg hr => ?_)
  show WM Γ K _ [(0, _)] 0 []
  have hU := hR.1.1
  have hc := hR.2.2.1.1
  have hu := hU.2.1
  have hu1 := hU.1
  refine wm_aload_n (q := 1) (i := 0) hg dX5_undo_0 rfl rfl rfl ?_
  refine wm_rget (q := 4) hg dX5_undo_1 rfl fl_X5_56 rfl ?_
  refine wm_if_ne (q := 10) (q2 := 7) hg dX5_undo_4 (by decide) rfl (fun h1 => ?_) (fun h1 => ?_)
  · have hp : 0 < unN N := Nat.pos_of_ne_zero (fun z => h1 (by rw [hc, z]; rfl))
    have h0 : 0 < (N.1 4 0).1 2 := by rw [hu1]; exact nI_lt (a := 0) hp (by omega)
    refine wm_aload_n (q := 11) (i := 0) hg dX5_undo_10 rfl rfl rfl ?_
    refine wm_dup (q := 12) hg dX5_undo_11 rfl rfl ?_
    refine wm_rget (q := 15) hg dX5_undo_12 rfl fl_X5_56 rfl ?_
    refine wm_iconst (q := 16) 1 hg dX5_undo_15 rfl (by decide) ?_
    refine wm_isub (q := 17) hg dX5_undo_16 rfl ?_
    refine wm_rput (q := 20) hg dX5_undo_17 rfl fl_X5_56 rfl ?_
    refine wm_iconst (q := 21) 0 hg dX5_undo_20 rfl (by decide) ?_
    refine wm_istore_n (q := 22) (i := 1) (L' := [(0, _), (1, _)]) hg dX5_undo_21 rfl rfl rfl rfl ?_
    suffices hloop : ∀ (n i : Nat), i + n = 130 → WM Γ K (sR M (oA (oI R 2 (nI (unN N - 1))) 0 (cpyF (R.2 0) 0 (rowF (R.2 1) (unN N - 1)) i))) [(0, .ref (ad Γ 5 0 0)), (1, .int (nI i))] 22 [] from wm_R (by rw [cpyF_0]; show (upd R.1 2 (R.1 2 - 1), R.2) = oA (oI R 2 (nI (unN N - 1))) 0 ((oI R 2 (nI (unN N - 1))).2 0); rw [oA_self, show R.1 2 - 1 = nI (unN N - 1) from nsub hc rfl hp]) (hloop 130 0 (by omega))
    intro n
    induction n with
    | zero =>
      intro i hi 
      refine wm_iload_n (q := 23) (i := 1) hg dX5_undo_22 rfl rfl rfl ?_
      refine wm_sipush (q := 26) 130 hg dX5_undo_23 rfl (by decide) ?_
      refine wm_icmp_ge (q := 56) (q2 := 29) hg dX5_undo_26 (by decide) rfl (fun hb => ?_) (fun hb => ?_)
      · have he : i = 130 := by omega
        subst he
        refine wm_aload_n (q := 57) (i := 0) hg dX5_undo_56 rfl rfl rfl ?_
        refine wm_rget (q := 60) hg dX5_undo_57 rfl fl_X5_56 rfl ?_
        exact wm_irret hg hr dX5_undo_60 (by unfold fUndo; rw [if_pos h0]; show _ = (N.1 4 0).1 2 - 1; rw [show (N.1 4 0).1 2 - 1 = nI (unN N - 1) from nsub hu1 rfl hp]; exact upd_same R.1 2 (nI (unN N - 1))) (by unfold fUndo; rw [if_pos h0]; refine RI_undo hR hp ((Sm.I _ (by decide)).tr (Sm.A _ (by decide))) (upd_same R.1 2 (nI (unN N - 1))) rfl ?_; rw [oA_w]; exact RW_congr (hR.2.2.1.2 _ (by omega)) (fun k hk => by have e := cpyF_in (R.2 0) 0 (rowF (R.2 1) (unN N - 1)) hk; rw [Nat.zero_add] at e; exact e))
      · exact absurd (nI_le (a := 130) (b := i) (by omega) (by omega)) hb
    | succ n ih =>
      intro i hi 
      refine wm_iload_n (q := 23) (i := 1) hg dX5_undo_22 rfl rfl rfl ?_
      refine wm_sipush (q := 26) 130 hg dX5_undo_23 rfl (by decide) ?_
      refine wm_icmp_ge (q := 56) (q2 := 29) hg dX5_undo_26 (by decide) rfl (fun hb => ?_) (fun hb => ?_)
      · exact absurd hb (nI_ge (a := i) (b := 130) (by omega) (by omega))
      · refine wm_aload_n (q := 30) (i := 0) hg dX5_undo_29 rfl rfl rfl ?_
        refine wm_get (q := 33) hg dX5_undo_30 rfl fl_X5_7 (by first | assumption | decide | omega | (simp only [nO]; omega)) rfl ?_
        refine wm_iload_n (q := 34) (i := 1) hg dX5_undo_33 rfl rfl rfl ?_
        refine wm_aload_n (q := 35) (i := 0) hg dX5_undo_34 rfl rfl rfl ?_
        refine wm_get (q := 38) hg dX5_undo_35 rfl fl_X5_13 (by first | assumption | decide | omega | (simp only [nO]; omega)) rfl ?_
        refine wm_sipush (q := 41) 130 hg dX5_undo_38 rfl (by decide) ?_
        refine wm_aload_n (q := 42) (i := 0) hg dX5_undo_41 rfl rfl rfl ?_
        refine wm_rget (q := 45) hg dX5_undo_42 rfl fl_X5_56 rfl ?_
        refine wm_imul (q := 46) hg dX5_undo_45 rfl ?_
        refine wm_iload_n (q := 47) (i := 1) hg dX5_undo_46 rfl rfl rfl ?_
        refine wm_iadd (q := 48) hg dX5_undo_47 rfl ?_
        refine wm_rload (q := 49) ((130 * (unN N - 1)) + i) hg dX5_undo_48 rfl rfl (nadd (a := (130 * (unN N - 1))) (b := i) (nmul (a := 130) (b := (unN N - 1)) (rfl : (130 : Int32) = nI 130) (upd_same R.1 2 (nI (unN N - 1)))) rfl) (by simp only [alen]; omega) ?_
        refine wm_rstore (q := 50) i hg dX5_undo_49 rfl rfl rfl (by simp only [alen]; omega) ?_
        refine wm_iinc (q := 53) (L' := [(0, _), (1, _)]) (nI (i + 1)) hg dX5_undo_50 rfl rfl (nadd rfl rfl) rfl rfl ?_
        refine wm_goto (q := 22) hg dX5_undo_53 (by decide) ?_
        exact wm_R (oA_st (by have e := cpyF_s (R.2 0) 0 (rowF (R.2 1) (unN N - 1)) i; rw [Nat.zero_add] at e; exact e)) (ih (i + 1) (by omega))
  · have h0 : ¬ 0 < (N.1 4 0).1 2 := by rw [hu1, ← hc, h1]; decide
    refine wm_ldc (q := 9) (-1000000002) hg dX5_undo_7 rfl ld_X5_59 ?_
    exact wm_irret hg hr dX5_undo_9 (by unfold fUndo; rw [if_neg h0]) (by unfold fUndo; rw [if_neg h0]; exact hR)
set_option maxRecDepth 100000 in
set_option maxHeartbeats 4000000 in
theorem c_X5_end {Γ : GT} {M : Mem} {R X B : OV} {e : Int32} (hW : RW (R.2 0) X B) : CtR Γ yX5_end cX5_end 2 (some .int) 6 [.ref (ad Γ 5 0 0), .int e] M R (some (.int (nI (endX X B e).1))) (fun R' => ∃ w, R' = oA R 0 w ∧ RW w (endX X B e).2.1 (endX X B e).2.2) := by
  refine ctr_of (by decide) (Nat.le_of_ble_eq_true rfl) (fun K hg hr => ?_)
  show WM Γ K _ [(0, _), (1, _)] 0 []
  have hz := hW.1.1.1
  have hX := hW.1.2.1
  have hW1 : RWs ((oA R 0 (upd (R.2 0) 35 (R.2 0 35 + (energy X - e)))).2 0) X (oI B 0 (B.1 0 + (energy X - e))) := by
    obtain ⟨⟨p1, p2, p3⟩, p4⟩ := hW
    rw [oA_w]
    refine ⟨p1, ⟨?_, fun k hk => ⟨?_, ?_, ?_⟩, ?_, ?_, fun a => ?_⟩, okB_w p3.1 _ (by decide), ?_, ?_, ?_, ?_, ?_, fun j hj => ⟨?_, ?_, ?_⟩⟩
    · rw [upd_ne _ _ (by omega)]; exact p2.1
    · have := hz.2; rw [upd_ne _ _ (by omega)]; exact (p2.2.1 k hk).1
    · have := hz.2; rw [upd_ne _ _ (by omega)]; exact (p2.2.1 k hk).2.1
    · have := hz.2; rw [upd_ne _ _ (by omega)]; exact (p2.2.1 k hk).2.2
    · rw [upd_ne _ _ (by omega)]; exact p2.2.2.1
    · rw [upd_ne _ _ (by omega)]; exact p2.2.2.2.1
    · rw [upd_ne _ _ (by omega), upd_ne _ _ (by omega)]; exact p2.2.2.2.2 a
    · rw [upd_same, p3.2.1]; exact (oI_w _ _ _).symm
    · rw [upd_ne _ _ (by omega), p3.2.2.1]; exact (oI_x _ _ (by decide)).symm
    · rw [upd_ne _ _ (by omega), p3.2.2.2.1]; exact (oI_x _ _ (by decide)).symm
    · rw [upd_ne _ _ (by omega), p3.2.2.2.2.1]; exact (oI_x _ _ (by decide)).symm
    · rw [upd_ne _ _ (by omega), p3.2.2.2.2.2.1]; exact (oI_x _ _ (by decide)).symm
    · rw [upd_ne _ _ (by omega)]; exact (p3.2.2.2.2.2.2 j hj).1
    · rw [upd_ne _ _ (by omega)]; exact (p3.2.2.2.2.2.2 j hj).2.1
    · rw [upd_ne _ _ (by omega)]; exact (p3.2.2.2.2.2.2 j hj).2.2
  refine wm_aload_n (q := 1) (i := 0) hg dX5_end_0 rfl rfl rfl ?_
  refine wm_get (q := 4) hg dX5_end_1 rfl fl_X5_7 (by first | assumption | decide | omega | (simp only [nO]; omega)) rfl ?_
  refine wm_bipush (q := 6) 35 hg dX5_end_4 rfl (by decide) ?_
  refine wm_dup2 (q := 7) hg dX5_end_6 rfl rfl rfl ?_
  refine wm_rload (q := 8) 35 hg dX5_end_7 rfl rfl (rfl : (35 : Int32) = nI 35) (by simp only [alen]; omega) ?_
  refine wm_aload_n (q := 9) (i := 0) hg dX5_end_8 rfl rfl rfl ?_
  refine wm_callV1 (q := 12) hg dX5_end_9 rfl lk_X5_95 (by first | decide | omega) (c_X5_energy (by first | assumption | decide | omega) (by first | assumption | decide | omega)) (by first | assumption | decide | omega | (simp only [nO]; omega)) ⟨rfl, by decide⟩ rfl rfl (Nat.le_of_ble_eq_true rfl) ?_
  refine wm_iload_n (q := 13) (i := 1) hg dX5_end_12 rfl rfl rfl ?_
  refine wm_isub (q := 14) hg dX5_end_13 rfl ?_
  refine wm_iadd (q := 15) hg dX5_end_14 rfl ?_
  refine wm_rstore (q := 16) 35 hg dX5_end_15 rfl rfl (rfl : (35 : Int32) = nI 35) (by simp only [alen]; omega) ?_
  refine wm_aload_n (q := 17) (i := 0) hg dX5_end_16 rfl rfl rfl ?_
  refine wm_callR1 (q := 20) hg dX5_end_17 rfl lk_X5_99 (by first | decide | omega) (c_X5_settle (X := X) (B := oI B 0 (B.1 0 + (energy X - e))) hW1) (by first | assumption | decide | omega | (simp only [nO]; omega)) ⟨rfl, by decide⟩ rfl rfl (Nat.le_of_ble_eq_true rfl) (fun R2 hR2 => ?_)
  exact wm_irret hg hr dX5_end_20 (rfl) (by obtain ⟨w2, rfl, q1, q2, q3⟩ := hR2; exact ⟨w2, oA_oA _ _ _ _, q1, by show w2 33 = (stQ X (oI B 0 (B.1 0 + (energy X - e)))).2.1.1 6; rw [q2, stQ_1, oA_w, upd_ne _ _ (by decide)]; exact hW.2.1, by show w2 34 = (stQ X (oI B 0 (B.1 0 + (energy X - e)))).2.1.1 7; rw [q3, stQ_1, oA_w, upd_ne _ _ (by decide)]; exact hW.2.2⟩)
set_option maxRecDepth 100000 in
set_option maxHeartbeats 4000000 in
theorem c_X5_take {Γ : GT} {M : Mem} {R X : OV} {p : Nat} {x : Int32} (hz : ok10 X) (hx : x = nI p) (hp : p < szN X) (h0 : R.2 0 0 = X.1 0) (hA : rwA (szN X) (R.2 0) X) : CtR Γ yX5_take cX5_take 3 none 0 [.ref (ad Γ 5 0 0), .int x] M R none (fun R' => ∃ w, R' = oA R 0 w ∧ w 0 = (toX X p).1 0 ∧ rwA (szN X) w (toX X p) ∧ ∀ k, 31 ≤ k → w k = R.2 0 k) := by
  refine ctr_of (by decide) (Nat.le_of_ble_eq_true rfl) (fun K hg hr => ?_)
  show WM Γ K _ [(0, _), (1, _)] 0 []
  subst hx
  have hz1 := hz.1
  have hz2 := hz.2
  have e0 : (toX X p).1 0 = nI (szN X - 1) := by unfold toX; rw [toL_1]; show upd X.1 0 (X.1 0 - 1) 0 = _; rw [upd_same]; exact nsub hz1 rfl (by omega)
  refine wm_aload_n (q := 1) (i := 0) hg dX5_take_0 rfl rfl rfl ?_
  refine wm_get (q := 4) hg dX5_take_1 rfl fl_X5_7 (by first | assumption | decide | omega | (simp only [nO]; omega)) rfl ?_
  refine wm_iconst (q := 5) 0 hg dX5_take_4 rfl (by decide) ?_
  refine wm_dup2 (q := 6) hg dX5_take_5 rfl rfl rfl ?_
  refine wm_rload (q := 7) 0 hg dX5_take_6 rfl rfl (rfl : (0 : Int32) = nI 0) (by simp only [alen]; omega) ?_
  refine wm_iconst (q := 8) 1 hg dX5_take_7 rfl (by decide) ?_
  refine wm_isub (q := 9) hg dX5_take_8 rfl ?_
  refine wm_rstore (q := 10) 0 hg dX5_take_9 rfl rfl (rfl : (0 : Int32) = nI 0) (by simp only [alen]; omega) ?_
  refine wm_iload_n (q := 11) (i := 1) hg dX5_take_10 rfl rfl rfl ?_
  refine wm_istore_n (q := 12) (i := 2) (L' := [(0, _), (1, _), (2, _)]) hg dX5_take_11 rfl rfl rfl rfl ?_
  suffices hloop : ∀ (n i : Nat), i + n = szN X - 1 - p → ∀ w : Nat → Int32, w 0 = nI (szN X - 1) → rwA (szN X) w (toL X p i) → (∀ k, 31 ≤ k → w k = R.2 0 k) → WM Γ K (sR M (oA R 0 w)) [(0, .ref (ad Γ 5 0 0)), (1, .int (nI p)), (2, .int (nI (p + i)))] 12 [] from hloop (szN X - 1 - p) 0 (by omega) _ (by rw [upd_same]; exact nsub (h0.trans hz1) rfl (by omega)) (fun k hk => by rw [upd_ne _ _ (by omega), upd_ne _ _ (by omega), upd_ne _ _ (by omega)]; exact hA k hk) (fun k hk => upd_ne _ _ (by omega))
  intro n
  induction n with
  | zero =>
    intro i hi w hw0 hwA hwK
    refine wm_iload_n (q := 13) (i := 2) hg dX5_take_12 rfl rfl rfl ?_
    refine wm_aload_n (q := 14) (i := 0) hg dX5_take_13 rfl rfl rfl ?_
    refine wm_get (q := 17) hg dX5_take_14 rfl fl_X5_7 (by first | assumption | decide | omega | (simp only [nO]; omega)) rfl ?_
    refine wm_iconst (q := 18) 0 hg dX5_take_17 rfl (by decide) ?_
    refine wm_rload (q := 19) 0 hg dX5_take_18 rfl rfl (rfl : (0 : Int32) = nI 0) (by simp only [alen]; omega) ?_
    refine wm_icmp_ge (q := 86) (q2 := 22) hg dX5_take_19 (by decide) rfl (fun hb => ?_) (fun hb => ?_)
    · exact wm_vrret hg hr dX5_take_86 (⟨w, rfl, hw0.trans e0.symm, by unfold toX; rw [show szN X - 1 - p = i by omega]; exact hwA, hwK⟩)
    · exact absurd (lpLe (N := szN X - 1) (by rw [oA_w]; exact hw0) (by omega) (by omega)) hb
  | succ n ih =>
    intro i hi w hw0 hwA hwK
    refine wm_iload_n (q := 13) (i := 2) hg dX5_take_12 rfl rfl rfl ?_
    refine wm_aload_n (q := 14) (i := 0) hg dX5_take_13 rfl rfl rfl ?_
    refine wm_get (q := 17) hg dX5_take_14 rfl fl_X5_7 (by first | assumption | decide | omega | (simp only [nO]; omega)) rfl ?_
    refine wm_iconst (q := 18) 0 hg dX5_take_17 rfl (by decide) ?_
    refine wm_rload (q := 19) 0 hg dX5_take_18 rfl rfl (rfl : (0 : Int32) = nI 0) (by simp only [alen]; omega) ?_
    refine wm_icmp_ge (q := 86) (q2 := 22) hg dX5_take_19 (by decide) rfl (fun hb => ?_) (fun hb => ?_)
    · exact absurd hb (lpLt (N := szN X - 1) (by rw [oA_w]; exact hw0) (by omega) (by omega))
    · refine wm_aload_n (q := 23) (i := 0) hg dX5_take_22 rfl rfl rfl ?_
      refine wm_get (q := 26) hg dX5_take_23 rfl fl_X5_7 (by first | assumption | decide | omega | (simp only [nO]; omega)) rfl ?_
      refine wm_iconst (q := 27) 1 hg dX5_take_26 rfl (by decide) ?_
      refine wm_iload_n (q := 28) (i := 2) hg dX5_take_27 rfl rfl rfl ?_
      refine wm_iadd (q := 29) hg dX5_take_28 rfl ?_
      refine wm_aload_n (q := 30) (i := 0) hg dX5_take_29 rfl rfl rfl ?_
      refine wm_get (q := 33) hg dX5_take_30 rfl fl_X5_7 (by first | assumption | decide | omega | (simp only [nO]; omega)) rfl ?_
      refine wm_iconst (q := 34) 1 hg dX5_take_33 rfl (by decide) ?_
      refine wm_iload_n (q := 35) (i := 2) hg dX5_take_34 rfl rfl rfl ?_
      refine wm_iadd (q := 36) hg dX5_take_35 rfl ?_
      refine wm_iconst (q := 37) 1 hg dX5_take_36 rfl (by decide) ?_
      refine wm_iadd (q := 38) hg dX5_take_37 rfl ?_
      refine wm_rload (q := 39) ((1 + (p + i)) + 1) hg dX5_take_38 rfl rfl (nadd (a := (1 + (p + i))) (b := 1) (nadd (a := 1) (b := (p + i)) (rfl : (1 : Int32) = nI 1) rfl) (rfl : (1 : Int32) = nI 1)) (by simp only [alen]; omega) ?_
      refine wm_rstore (q := 40) (1 + (p + i)) hg dX5_take_39 rfl rfl (nadd (a := 1) (b := (p + i)) (rfl : (1 : Int32) = nI 1) rfl) (by simp only [alen]; omega) ?_
      refine wm_aload_n (q := 41) (i := 0) hg dX5_take_40 rfl rfl rfl ?_
      refine wm_get (q := 44) hg dX5_take_41 rfl fl_X5_7 (by first | assumption | decide | omega | (simp only [nO]; omega)) rfl ?_
      refine wm_bipush (q := 46) 11 hg dX5_take_44 rfl (by decide) ?_
      refine wm_iload_n (q := 47) (i := 2) hg dX5_take_46 rfl rfl rfl ?_
      refine wm_iadd (q := 48) hg dX5_take_47 rfl ?_
      refine wm_aload_n (q := 49) (i := 0) hg dX5_take_48 rfl rfl rfl ?_
      refine wm_get (q := 52) hg dX5_take_49 rfl fl_X5_7 (by first | assumption | decide | omega | (simp only [nO]; omega)) rfl ?_
      refine wm_bipush (q := 54) 11 hg dX5_take_52 rfl (by decide) ?_
      refine wm_iload_n (q := 55) (i := 2) hg dX5_take_54 rfl rfl rfl ?_
      refine wm_iadd (q := 56) hg dX5_take_55 rfl ?_
      refine wm_iconst (q := 57) 1 hg dX5_take_56 rfl (by decide) ?_
      refine wm_iadd (q := 58) hg dX5_take_57 rfl ?_
      refine wm_rload (q := 59) ((11 + (p + i)) + 1) hg dX5_take_58 rfl rfl (nadd (a := (11 + (p + i))) (b := 1) (nadd (a := 11) (b := (p + i)) (rfl : (11 : Int32) = nI 11) rfl) (rfl : (1 : Int32) = nI 1)) (by simp only [alen]; omega) ?_
      refine wm_rstore (q := 60) (11 + (p + i)) hg dX5_take_59 rfl rfl (nadd (a := 11) (b := (p + i)) (rfl : (11 : Int32) = nI 11) rfl) (by simp only [alen]; omega) ?_
      refine wm_aload_n (q := 61) (i := 0) hg dX5_take_60 rfl rfl rfl ?_
      refine wm_get (q := 64) hg dX5_take_61 rfl fl_X5_7 (by first | assumption | decide | omega | (simp only [nO]; omega)) rfl ?_
      refine wm_bipush (q := 66) 21 hg dX5_take_64 rfl (by decide) ?_
      refine wm_iload_n (q := 67) (i := 2) hg dX5_take_66 rfl rfl rfl ?_
      refine wm_iadd (q := 68) hg dX5_take_67 rfl ?_
      refine wm_aload_n (q := 69) (i := 0) hg dX5_take_68 rfl rfl rfl ?_
      refine wm_get (q := 72) hg dX5_take_69 rfl fl_X5_7 (by first | assumption | decide | omega | (simp only [nO]; omega)) rfl ?_
      refine wm_bipush (q := 74) 21 hg dX5_take_72 rfl (by decide) ?_
      refine wm_iload_n (q := 75) (i := 2) hg dX5_take_74 rfl rfl rfl ?_
      refine wm_iadd (q := 76) hg dX5_take_75 rfl ?_
      refine wm_iconst (q := 77) 1 hg dX5_take_76 rfl (by decide) ?_
      refine wm_iadd (q := 78) hg dX5_take_77 rfl ?_
      refine wm_rload (q := 79) ((21 + (p + i)) + 1) hg dX5_take_78 rfl rfl (nadd (a := (21 + (p + i))) (b := 1) (nadd (a := 21) (b := (p + i)) (rfl : (21 : Int32) = nI 21) rfl) (rfl : (1 : Int32) = nI 1)) (by simp only [alen]; omega) ?_
      refine wm_rstore (q := 80) (21 + (p + i)) hg dX5_take_79 rfl rfl (nadd (a := 21) (b := (p + i)) (rfl : (21 : Int32) = nI 21) rfl) (by simp only [alen]; omega) ?_
      refine wm_iinc (q := 83) (L' := [(0, _), (1, _), (2, _)]) (nI ((p + i) + 1)) hg dX5_take_80 rfl rfl (nadd rfl rfl) rfl rfl ?_
      refine wm_goto (q := 12) hg dX5_take_83 (by decide) ?_
      refine wm_R (oA_st3 rfl) (ih (i + 1) (by omega) _ ?_ ?_ ?_)
      · rw [upd_ne _ _ (by omega), upd_ne _ _ (by omega), upd_ne _ _ (by omega)]; exact hw0
      · refine rwA_cp (t := p + i) (f := p + i + 1) hwA hz2 (by omega) (by omega) ?_ ?_ ?_
        · simp only [oA, updA_same]; exact congrArg w (by omega)
        · simp only [oA, updA_same, upd_ne _ _ (show 11 + (p + i) + 1 ≠ 1 + (p + i) by omega)]; exact congrArg w (by omega)
        · simp only [oA, updA_same, updA_updA, upd_ne _ _ (show 21 + (p + i) + 1 ≠ 11 + (p + i) by omega), upd_ne _ _ (show 21 + (p + i) + 1 ≠ 1 + (p + i) by omega)]; exact congrArg w (by omega)
      · intro k hk; rw [upd_ne _ _ (by omega), upd_ne _ _ (by omega), upd_ne _ _ (by omega)]; exact hwK k hk
