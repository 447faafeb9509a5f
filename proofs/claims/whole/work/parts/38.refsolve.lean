/-! ===== the reference: solve ===== -/
def anF (w : Nat → Int32) : Nat → Int32 := fun k => w (1 + k)
def skF (f : Nat → Int32) (l : Nat) : Nat → Int32 := fun k => f (10 * l + k)
set_option maxRecDepth 100000 in
set_option maxHeartbeats 4000000 in
theorem c_X5_store {Γ : GT} {M : Mem} {R : OV} {l : Nat} {x : Int32} (hx : x = nI l) (hl : l < 3) : Ct Γ yX5_store cX5_store 3 none 1 [.ref (ad Γ 5 0 0), .int x] (sR M R) none (sR M (oA R 14 (cpyF (R.2 14) (10 * l) (anF (R.2 0)) 10))) := by
  refine ct_of (by decide) (Nat.le_of_ble_eq_true rfl) (fun K hg hr => ?_)
  show WM Γ K _ [(0, _), (1, _)] 0 []
  subst hx
  refine wm_iconst (q := 1) 0 hg dX5_store_0 rfl (by decide) ?_
  refine wm_istore_n (q := 2) (i := 2) (L' := [(0, _), (1, _), (2, _)]) hg dX5_store_1 rfl rfl rfl rfl ?_
  suffices hloop : ∀ (n i : Nat), i + n = 10 → WM Γ K (sR M (oA R 14 (cpyF (R.2 14) (10 * l) (anF (R.2 0)) i))) [(0, .ref (ad Γ 5 0 0)), (1, .int (nI l)), (2, .int (nI i))] 2 [] from wm_R (by rw [cpyF_0]; exact (oA_self R 14).symm) (hloop 10 0 (by omega))
  intro n
  induction n with
  | zero =>
    intro i hi 
    refine wm_iload_n (q := 3) (i := 2) hg dX5_store_2 rfl rfl rfl ?_
    refine wm_bipush (q := 5) 10 hg dX5_store_3 rfl (by decide) ?_
    refine wm_icmp_ge (q := 30) (q2 := 8) hg dX5_store_5 (by decide) rfl (fun hb => ?_) (fun hb => ?_)
    · have he : i = 10 := by omega
      subst he
      exact wm_vret hg hr dX5_store_30 (rfl)
    · exact absurd (nI_le (a := 10) (b := i) (by omega) (by omega)) hb
  | succ n ih =>
    intro i hi 
    refine wm_iload_n (q := 3) (i := 2) hg dX5_store_2 rfl rfl rfl ?_
    refine wm_bipush (q := 5) 10 hg dX5_store_3 rfl (by decide) ?_
    refine wm_icmp_ge (q := 30) (q2 := 8) hg dX5_store_5 (by decide) rfl (fun hb => ?_) (fun hb => ?_)
    · exact absurd hb (nI_ge (a := i) (b := 10) (by omega) (by omega))
    · refine wm_aload_n (q := 9) (i := 0) hg dX5_store_8 rfl rfl rfl ?_
      refine wm_get (q := 12) hg dX5_store_9 rfl fl_X5_36 (by first | assumption | decide | omega | (simp only [nO]; omega)) rfl ?_
      refine wm_bipush (q := 14) 10 hg dX5_store_12 rfl (by decide) ?_
      refine wm_iload_n (q := 15) (i := 1) hg dX5_store_14 rfl rfl rfl ?_
      refine wm_imul (q := 16) hg dX5_store_15 rfl ?_
      refine wm_iload_n (q := 17) (i := 2) hg dX5_store_16 rfl rfl rfl ?_
      refine wm_iadd (q := 18) hg dX5_store_17 rfl ?_
      refine wm_aload_n (q := 19) (i := 0) hg dX5_store_18 rfl rfl rfl ?_
      refine wm_iload_n (q := 20) (i := 2) hg dX5_store_19 rfl rfl rfl ?_
      refine wm_callV1 (q := 23) hg dX5_store_20 rfl lk_X5_68 (by first | decide | omega) (c_X5_angle rfl (by omega)) (by first | assumption | decide | omega | (simp only [nO]; omega)) ⟨rfl, by decide⟩ rfl rfl (Nat.le_of_ble_eq_true rfl) ?_
      refine wm_rstore (q := 24) ((10 * l) + i) hg dX5_store_23 rfl rfl (nadd (a := (10 * l)) (b := i) (nmul (a := 10) (b := l) (rfl : (10 : Int32) = nI 10) rfl) rfl) (by simp only [alen]; omega) ?_
      refine wm_iinc (q := 27) (L' := [(0, _), (1, _), (2, _)]) (nI (i + 1)) hg dX5_store_24 rfl rfl (nadd rfl rfl) rfl rfl ?_
      refine wm_goto (q := 2) hg dX5_store_27 (by decide) ?_
      exact wm_R (oA_st (cpyF_s (R.2 14) (10 * l) (anF (R.2 0)) i)) (ih (i + 1) (by omega))
set_option maxRecDepth 100000 in
set_option maxHeartbeats 4000000 in
theorem c_X5_restore {Γ : GT} {M : Mem} {R : OV} {l : Nat} {x : Int32} (hx : x = nI l) (hl : l < 3) : Ct Γ yX5_restore cX5_restore 3 none 0 [.ref (ad Γ 5 0 0), .int x] (sR M R) none (sR M (oA R 0 (cpyF (R.2 0) 1 (skF (R.2 14) l) 10))) := by
  refine ct_of (by decide) (Nat.le_of_ble_eq_true rfl) (fun K hg hr => ?_)
  show WM Γ K _ [(0, _), (1, _)] 0 []
  subst hx
  refine wm_iconst (q := 1) 0 hg dX5_restore_0 rfl (by decide) ?_
  refine wm_istore_n (q := 2) (i := 2) (L' := [(0, _), (1, _), (2, _)]) hg dX5_restore_1 rfl rfl rfl rfl ?_
  suffices hloop : ∀ (n i : Nat), i + n = 10 → WM Γ K (sR M (oA R 0 (cpyF (R.2 0) 1 (skF (R.2 14) l) i))) [(0, .ref (ad Γ 5 0 0)), (1, .int (nI l)), (2, .int (nI i))] 2 [] from wm_R (by rw [cpyF_0]; exact (oA_self R 0).symm) (hloop 10 0 (by omega))
  intro n
  induction n with
  | zero =>
    intro i hi 
    refine wm_iload_n (q := 3) (i := 2) hg dX5_restore_2 rfl rfl rfl ?_
    refine wm_bipush (q := 5) 10 hg dX5_restore_3 rfl (by decide) ?_
    refine wm_icmp_ge (q := 33) (q2 := 8) hg dX5_restore_5 (by decide) rfl (fun hb => ?_) (fun hb => ?_)
    · have he : i = 10 := by omega
      subst he
      exact wm_vret hg hr dX5_restore_33 (rfl)
    · exact absurd (nI_le (a := 10) (b := i) (by omega) (by omega)) hb
  | succ n ih =>
    intro i hi 
    refine wm_iload_n (q := 3) (i := 2) hg dX5_restore_2 rfl rfl rfl ?_
    refine wm_bipush (q := 5) 10 hg dX5_restore_3 rfl (by decide) ?_
    refine wm_icmp_ge (q := 33) (q2 := 8) hg dX5_restore_5 (by decide) rfl (fun hb => ?_) (fun hb => ?_)
    · exact absurd hb (nI_ge (a := i) (b := 10) (by omega) (by omega))
    · refine wm_aload_n (q := 9) (i := 0) hg dX5_restore_8 rfl rfl rfl ?_
      refine wm_get (q := 12) hg dX5_restore_9 rfl fl_X5_7 (by first | assumption | decide | omega | (simp only [nO]; omega)) rfl ?_
      refine wm_iconst (q := 13) 1 hg dX5_restore_12 rfl (by decide) ?_
      refine wm_iload_n (q := 14) (i := 2) hg dX5_restore_13 rfl rfl rfl ?_
      refine wm_iadd (q := 15) hg dX5_restore_14 rfl ?_
      refine wm_aload_n (q := 16) (i := 0) hg dX5_restore_15 rfl rfl rfl ?_
      refine wm_get (q := 19) hg dX5_restore_16 rfl fl_X5_36 (by first | assumption | decide | omega | (simp only [nO]; omega)) rfl ?_
      refine wm_bipush (q := 21) 10 hg dX5_restore_19 rfl (by decide) ?_
      refine wm_iload_n (q := 22) (i := 1) hg dX5_restore_21 rfl rfl rfl ?_
      refine wm_imul (q := 23) hg dX5_restore_22 rfl ?_
      refine wm_iload_n (q := 24) (i := 2) hg dX5_restore_23 rfl rfl rfl ?_
      refine wm_iadd (q := 25) hg dX5_restore_24 rfl ?_
      refine wm_rload (q := 26) ((10 * l) + i) hg dX5_restore_25 rfl rfl (nadd (a := (10 * l)) (b := i) (nmul (a := 10) (b := l) (rfl : (10 : Int32) = nI 10) rfl) rfl) (by simp only [alen]; omega) ?_
      refine wm_rstore (q := 27) (1 + i) hg dX5_restore_26 rfl rfl (nadd (a := 1) (b := i) (rfl : (1 : Int32) = nI 1) rfl) (by simp only [alen]; omega) ?_
      refine wm_iinc (q := 30) (L' := [(0, _), (1, _), (2, _)]) (nI (i + 1)) hg dX5_restore_27 rfl rfl (nadd rfl rfl) rfl rfl ?_
      refine wm_goto (q := 2) hg dX5_restore_30 (by decide) ?_
      exact wm_R (oA_st (cpyF_s (R.2 0) 1 (skF (R.2 14) l) i)) (ih (i + 1) (by omega))
set_option maxRecDepth 100000 in
set_option maxHeartbeats 4000000 in
theorem c_X5_choices {Γ : GT} {M : Mem} {R : OV} {n : Nat} (hn : R.2 0 0 = nI n) : Ct Γ yX5_choices cX5_choices 1 (some .int) 0 [.ref (ad Γ 5 0 0)] (sR M R) (some (.int (nI (2 * n)))) (sR M R) := by
  refine ct_of (by decide) (Nat.le_of_ble_eq_true rfl) (fun K hg hr => ?_)
  show WM Γ K _ [(0, _)] 0 []
  refine wm_iconst (q := 1) 2 hg dX5_choices_0 rfl (by decide) ?_
  refine wm_aload_n (q := 2) (i := 0) hg dX5_choices_1 rfl rfl rfl ?_
  refine wm_get (q := 5) hg dX5_choices_2 rfl fl_X5_7 (by first | assumption | decide | omega | (simp only [nO]; omega)) rfl ?_
  refine wm_iconst (q := 6) 0 hg dX5_choices_5 rfl (by decide) ?_
  refine wm_rload (q := 7) 0 hg dX5_choices_6 rfl rfl (rfl : (0 : Int32) = nI 0) (by simp only [alen]; omega) ?_
  refine wm_imul (q := 8) hg dX5_choices_7 rfl ?_
  exact wm_iret hg hr dX5_choices_8 (by rw [hn]; exact nmul (a := 2) (b := n) rfl rfl) (rfl)
