/-! ===== the text; recording; the frame of a change ===== -/
def txN (T : OV) : Nat := (T.1 1).toNatClampNeg
def okT (T : OV) : Prop := T.1 1 = nI (txN T) ∧ txN T ≤ 40
def rfX (T : OV) (k p : Int32) : OV := (upd (upd T.1 2 k) 3 p, T.2)
def taX (T : OV) (v : Int32) : OV := (upd T.1 1 (T.1 1 + 1), updA T.2 0 (upd (T.2 0) (txN T) v))
/-- bytes from place i on, n of them: kind of fault (0: none), its place, the chain read -/
def rdG (T : OV) : Nat → Nat → OV → Int32 → Int32 × Nat × OV
  | 0, i, X, _ => (if 0 < X.1 0 then 0 else 3, i, X)
  | n + 1, i, X, bh =>
    if wthn (T.2 0 i) 48 55 = 0 then
      (if T.2 0 i = 33 then (if bh = 0 then (if T.2 0 i = 32 then rdG T n (i + 1) X (wthn (T.2 0 i) 48 55) else (1, i, X)) else if X.1 0 ≤ 0 then (if T.2 0 i = 32 then rdG T n (i + 1) X (wthn (T.2 0 i) 48 55) else (1, i, X)) else rdG T n (i + 1) (oA X 2 (upd (X.2 2) (szN X - 1) 1)) (wthn (T.2 0 i) 48 55))
       else if T.2 0 i = 32 then rdG T n (i + 1) X (wthn (T.2 0 i) 48 55) else (1, i, X))
    else if X.1 0 < 10 then rdG T n (i + 1) (piX X (szN X) (T.2 0 i - 48)) (wthn (T.2 0 i) 48 55) else (2, i, X)
def rdR (T X : OV) : Int32 × Nat × OV := rdG T (txN T) 0 (oI X 0 0) 0
theorem ok10_pi {X : OV} (hX : ok10 X) (h : szN X < 10) (p : Nat) (a : Int32) : ok10 (piX X p a) := by
  have e : (piX X p a).1 0 = nI (szN X + 1) := by
    show upd X.1 0 (X.1 0 + 1) 0 = _
    rw [upd_same, hX.1]
    exact nI_1 _
  have e2 : szN (piX X p a) = szN X + 1 := by
    unfold szN at *
    rw [e, nI_clamp (by omega)]
  exact ⟨by rw [e, e2], by omega⟩
theorem ok10_sz {X : OV} {n : Nat} (h : X.1 0 = nI n) (hn : n ≤ 10) : ok10 X := by
  have e : szN X = n := by
    unfold szN
    rw [h, nI_clamp (by omega)]
  exact ⟨by rw [e]; exact h, by omega⟩
theorem szN_of {X : OV} {n : Nat} (h : X.1 0 = nI n) (hn : n < 2 ^ 31) : szN X = n := by
  unfold szN
  rw [h, nI_clamp hn]
theorem ok10_to {X : OV} (hX : ok10 X) {p : Nat} (h : p < szN X) : ok10 (toX X p) := by
  refine ok10_sz (n := szN X - 1) ?_ (by have := hX.2; omega)
  show (toL X p (szN X - 1 - p)).1 0 = _
  rw [toL_1, upd_same]
  exact nsub hX.1 rfl (by omega)
theorem swX_0 (X : OV) (v : Int32) : (swX X v).1 0 = v := by simp [swX, upd]
theorem piX_0 (X : OV) (p : Nat) (a : Int32) : (piX X p a).1 0 = X.1 0 + 1 := by simp [piX, upd]
theorem toX_0 (X : OV) (p : Nat) : (toX X p).1 0 = X.1 0 - 1 := by
  show (toL X p (szN X - 1 - p)).1 0 = _
  rw [toL_1, upd_same]
theorem clX_4 (B : OV) : (clX B).1 4 = 0 := by simp [clX, upd]
theorem okB_cl (B : OV) : okB (clX B) := by
  have e : lgN (clX B) = 0 := by unfold lgN; rw [clX_4]; decide
  exact ⟨by rw [clX_4, e]; rfl, by rw [e]; decide⟩
theorem ok10_set {X : OV} (hX : ok10 X) {j : Nat} (v : Int32) (h : (0 : Nat) ≠ j) : ok10 (oI X j v) := by
  have e : (oI X j v).1 0 = X.1 0 := upd_ne _ _ h
  exact ok10_sz (n := szN X) (by rw [e]; exact hX.1) hX.2
def unN (M : Mem) : Nat := ((M.1 4 0).1 2).toNatClampNeg
def HU (M : Mem) : Prop := (M.1 4 0).1 2 = nI (unN M) ∧ unN M ≤ 8 ∧ (∀ k, k < 8 → 1 ≤ M.2 k ∧ M.2 k ≤ 8) ∧ ∀ a b, a < 8 → b < 8 → M.2 a = M.2 b → a = b
def hiL (g : Nat → Nat) (i : Nat) : Nat → Nat := fun k => if k + 1 < i then g (k + 1) else g k
def drM (M : Mem) : Mem := sI (sH M (fun k => if k = 7 then M.2 0 else hiL M.2 8 k)) 4 0 2 7
def reY (M : Mem) : Mem := sI (sO (sO M 1 (M.2 (unN M)) (M.1 1 0)) 0 (M.2 (unN M)) (M.1 0 0)) 4 0 2 ((M.1 4 0).1 2 + 1)
def recM (M : Mem) : Mem := if (M.1 4 0).1 2 < 8 then reY M else reY (drM M)
theorem hiL_s (g : Nat → Nat) (i : Nat) : (fun k => if k = i then g (i + 1) else hiL g (i + 1) k) = hiL g (i + 1 + 1) := by
  funext k
  unfold hiL
  by_cases h : k = i
  · subst h; simp
  · by_cases h2 : k + 1 < i + 1
    · have h3 : k + 1 < i + 1 + 1 := by omega
      rw [if_neg h, if_pos h2, if_pos h3]
    · have h3 : ¬ k + 1 < i + 1 + 1 := by omega
      rw [if_neg h, if_neg h2, if_neg h3]
theorem unN_dr (M : Mem) : unN (drM M) = 7 := by
  unfold unN drM
  rw [sI, sO_same]
  simp only [oI, upd_same]
  decide
theorem HU_dr {M : Mem} (h : HU M) : HU (drM M) := by
  have eh : ∀ k, k < 8 → (drM M).2 k = if k = 7 then M.2 0 else M.2 (k + 1) := by
    intro k hk
    show (if k = 7 then M.2 0 else hiL M.2 8 k) = _
    by_cases h7 : k = 7
    · simp [h7]
    · have h8 : k + 1 < 8 := by omega
      simp only [if_neg h7, hiL, if_pos h8]
  refine ⟨?_, by rw [unN_dr]; decide, fun k hk => ?_, fun a b ha hb hab => ?_⟩
  · rw [unN_dr]
    unfold drM
    rw [sI, sO_same]
    simp only [oI, upd_same]
    rfl
  · rw [eh k hk]
    by_cases h7 : k = 7
    · rw [if_pos h7]; exact h.2.2.1 0 (by decide)
    · rw [if_neg h7]; exact h.2.2.1 (k + 1) (by omega)
  · rw [eh a ha, eh b hb] at hab
    by_cases h7 : a = 7 <;> by_cases h8 : b = 7
    · omega
    · rw [if_pos h7, if_neg h8] at hab
      have := h.2.2.2 0 (b + 1) (by decide) (by omega) hab
      omega
    · rw [if_neg h7, if_pos h8] at hab
      have := h.2.2.2 (a + 1) 0 (by omega) (by decide) hab
      omega
    · rw [if_neg h7, if_neg h8] at hab
      have := h.2.2.2 (a + 1) (b + 1) (by omega) (by omega) hab
      omega
/-- what recording leaves: all chains and books but those of the history, the text, the reference -/
theorem reY_kind {M : Mem} {ci : Nat} (i : Nat) (h0 : ci ≠ 0) (h1 : ci ≠ 1) (h4 : ci ≠ 4) : (reY M).1 ci i = M.1 ci i := by
  unfold reY
  rw [sI, sO_kind _ _ _ _ h4, sO_kind _ _ _ _ h0, sO_kind _ _ _ _ h1]
theorem drM_kind {M : Mem} {ci : Nat} (i : Nat) (h4 : ci ≠ 4) : (drM M).1 ci i = M.1 ci i := by
  unfold drM
  rw [sI, sO_kind _ _ _ _ h4]
theorem reY_c {M : Mem} {g : Nat} (h : M.2 (unN M) ≠ g) : (reY M).1 1 g = M.1 1 g := by
  unfold reY
  rw [sI, sO_kind _ _ _ _ (by decide), sO_kind _ _ _ _ (by decide), sO_idx _ _ _ _ (Ne.symm h)]
theorem reY_b {M : Mem} {g : Nat} (h : M.2 (unN M) ≠ g) : (reY M).1 0 g = M.1 0 g := by
  unfold reY
  rw [sI, sO_kind _ _ _ _ (by decide), sO_idx _ _ _ _ (Ne.symm h), sO_kind _ _ _ _ (by decide)]
theorem un_lt {M : Mem} (h : HU M) (h8 : (M.1 4 0).1 2 < 8) : unN M < 8 := by
  rcases Nat.lt_or_ge (unN M) 8 with q | q
  · exact q
  · exact absurd h8 (by rw [h.1]; exact nI_nlt (a := unN M) (b := 8) q (by have := h.2.1; omega))
theorem recM_c {M : Mem} (h : HU M) {g : Nat} (hg : g = 0 ∨ 8 < g) : (recM M).1 1 g = M.1 1 g := by
  unfold recM
  split
  · next h8 =>
    have := h.2.2.1 _ (un_lt h h8)
    exact reY_c (by omega)
  · have := (HU_dr h).2.2.1 7 (by decide)
    rw [reY_c (by rw [unN_dr]; omega), drM_kind _ (by decide)]
theorem recM_b {M : Mem} (h : HU M) {g : Nat} (hg : g = 0 ∨ 8 < g) : (recM M).1 0 g = M.1 0 g := by
  unfold recM
  split
  · next h8 =>
    have := h.2.2.1 _ (un_lt h h8)
    exact reY_b (by omega)
  · have := (HU_dr h).2.2.1 7 (by decide)
    rw [reY_b (by rw [unN_dr]; omega), drM_kind _ (by decide)]
theorem recM_kind {M : Mem} {ci : Nat} (i : Nat) (h0 : ci ≠ 0) (h1 : ci ≠ 1) (h4 : ci ≠ 4) : (recM M).1 ci i = M.1 ci i := by
  unfold recM
  split
  · exact reY_kind i h0 h1 h4
  · rw [reY_kind i h0 h1 h4, drM_kind i h4]
def setP (M : Mem) (X B : OV) : Mem := sO (sO M 1 0 X) 0 0 B
noncomputable def endX (X B : OV) (e : Int32) : Nat × OV × OV := stQ X (oI B 0 (B.1 0 + (energy X - e)))
noncomputable def chM (M : Mem) (X1 B1 : OV) : Mem := setP (recM M) (endX X1 B1 (energy (M.1 1 0))).2.1 (endX X1 B1 (energy (M.1 1 0))).2.2
noncomputable def chN (M : Mem) (X1 B1 : OV) : Int32 := nI (endX X1 B1 (energy (M.1 1 0))).1
theorem okB_w {B : OV} (hB : okB B) {j : Nat} (v : Int32) (h : (4 : Nat) ≠ j) : okB (oI B j v) := by
  have e : (oI B j v).1 4 = B.1 4 := upd_ne _ _ h
  have e2 : lgN (oI B j v) = lgN B := by unfold lgN; rw [e]
  exact ⟨by rw [e, e2]; exact hB.1, by rw [e2]; exact hB.2⟩
set_option maxRecDepth 100000 in
set_option maxHeartbeats 4000000 in
theorem c_X3_refuse {Γ : GT} {M : Mem} {k p : Int32}  : Ct Γ yX3_refuse cX3_refuse 3 (some .boolean) 0 [.ref (ad Γ 3 0 0), .int k, .int p] M (some (.int 0)) (sO M 3 0 (rfX (M.1 3 0) k p)) := by
  refine ct_of (by decide) (Nat.le_of_ble_eq_true rfl) (fun K hg hr => ?_)
  show WM Γ K _ [(0, _), (1, _), (2, _)] 0 []
  refine wm_aload_n (q := 1) (i := 0) hg dX3_refuse_0 rfl rfl rfl ?_
  refine wm_iload_n (q := 2) (i := 1) hg dX3_refuse_1 rfl rfl rfl ?_
  refine wm_put (q := 5) hg dX3_refuse_2 rfl fl_X3_20 (by first | assumption | decide | omega | (simp only [nO]; omega)) rfl ?_
  refine wm_aload_n (q := 6) (i := 0) hg dX3_refuse_5 rfl rfl rfl ?_
  refine wm_iload_n (q := 7) (i := 2) hg dX3_refuse_6 rfl rfl rfl ?_
  refine wm_put (q := 10) hg dX3_refuse_7 rfl fl_X3_23 (by first | assumption | decide | omega | (simp only [nO]; omega)) rfl ?_
  refine wm_iconst (q := 11) 0 hg dX3_refuse_10 rfl (by decide) ?_
  exact wm_zret hg hr dX3_refuse_11 (rfl) (by simp [rfX, sO_same, sO_sO, oI, oA, updA_same, updA_ne, updA_updA, upd_same, upd_ne]) (by decide)
set_option maxRecDepth 100000 in
set_option maxHeartbeats 4000000 in
theorem c_X3_append0 {Γ : GT} {M : Mem} {v : Int32} (ht : okT (M.1 3 0)) (h : ¬ (M.1 3 0).1 1 < 40) : Ct Γ yX3_append cX3_append 2 (some .boolean) 0 [.ref (ad Γ 3 0 0), .int v] M (some (.int 0)) M := by
  refine ct_of (by decide) (Nat.le_of_ble_eq_true rfl) (fun K hg hr => ?_)
  show WM Γ K _ [(0, _), (1, _)] 0 []
  refine wm_aload_n (q := 1) (i := 0) hg dX3_append_0 rfl rfl rfl ?_
  refine wm_get (q := 4) hg dX3_append_1 rfl fl_X3_15 (by first | assumption | decide | omega | (simp only [nO]; omega)) rfl ?_
  refine wm_bipush (q := 6) 40 hg dX3_append_4 rfl (by decide) ?_
  refine wm_icmp_lt (q := 11) (q2 := 9) hg dX3_append_6 (by decide) rfl (fun h1 => ?_) (fun h1 => ?_)
  · exact absurd h1 h
  · refine wm_iconst (q := 10) 0 hg dX3_append_9 rfl (by decide) ?_
    exact wm_zret hg hr dX3_append_10 (rfl) (rfl) (by decide)
set_option maxRecDepth 100000 in
set_option maxHeartbeats 4000000 in
theorem c_X3_append1 {Γ : GT} {M : Mem} {v : Int32} (ht : okT (M.1 3 0)) (h : (M.1 3 0).1 1 < 40) : Ct Γ yX3_append cX3_append 2 (some .boolean) 0 [.ref (ad Γ 3 0 0), .int v] M (some (.int 1)) (sO M 3 0 (taX (M.1 3 0) v)) := by
  refine ct_of (by decide) (Nat.le_of_ble_eq_true rfl) (fun K hg hr => ?_)
  show WM Γ K _ [(0, _), (1, _)] 0 []
  refine wm_aload_n (q := 1) (i := 0) hg dX3_append_0 rfl rfl rfl ?_
  refine wm_get (q := 4) hg dX3_append_1 rfl fl_X3_15 (by first | assumption | decide | omega | (simp only [nO]; omega)) rfl ?_
  refine wm_bipush (q := 6) 40 hg dX3_append_4 rfl (by decide) ?_
  refine wm_icmp_lt (q := 11) (q2 := 9) hg dX3_append_6 (by decide) rfl (fun h1 => ?_) (fun h1 => ?_)
  · have hlt : txN (M.1 3 0) < 40 := by
      rcases Nat.lt_or_ge (txN (M.1 3 0)) 40 with q | q
      · exact q
      · exact absurd h (by rw [ht.1]; exact nI_nlt (a := txN (M.1 3 0)) (b := 40) q (by have := ht.2; omega))
    refine wm_aload_n (q := 12) (i := 0) hg dX3_append_11 rfl rfl rfl ?_
    refine wm_get (q := 15) hg dX3_append_12 rfl fl_X3_9 (by first | assumption | decide | omega | (simp only [nO]; omega)) rfl ?_
    refine wm_aload_n (q := 16) (i := 0) hg dX3_append_15 rfl rfl rfl ?_
    refine wm_get (q := 19) hg dX3_append_16 rfl fl_X3_15 (by first | assumption | decide | omega | (simp only [nO]; omega)) rfl ?_
    refine wm_iload_n (q := 20) (i := 1) hg dX3_append_19 rfl rfl rfl ?_
    refine wm_iastore (q := 21) (txN (M.1 3 0)) hg dX3_append_20 rfl (by first | assumption | decide | omega | (simp only [nO]; omega)) rfl ht.1 hlt ?_
    refine wm_aload_n (q := 22) (i := 0) hg dX3_append_21 rfl rfl rfl ?_
    refine wm_dup (q := 23) hg dX3_append_22 rfl rfl ?_
    refine wm_get (q := 26) hg dX3_append_23 rfl fl_X3_15 (by first | assumption | decide | omega | (simp only [nO]; omega)) rfl ?_
    refine wm_iconst (q := 27) 1 hg dX3_append_26 rfl (by decide) ?_
    refine wm_iadd (q := 28) hg dX3_append_27 rfl ?_
    refine wm_put (q := 31) hg dX3_append_28 rfl fl_X3_15 (by first | assumption | decide | omega | (simp only [nO]; omega)) rfl ?_
    refine wm_iconst (q := 32) 1 hg dX3_append_31 rfl (by decide) ?_
    exact wm_zret hg hr dX3_append_32 (rfl) (by simp [taX, sO_same, sO_sO, oI, oA, updA_same, updA_ne, updA_updA, upd_same, upd_ne]) (by decide)
  · exact absurd h h1
set_option maxRecDepth 100000 in
set_option maxHeartbeats 4000000 in
theorem c_X3_readInto0 {Γ : GT} {M : Mem}  (ht : okT (M.1 3 0)) (h : ¬ (rdR (M.1 3 0) (M.1 1 11)).1 = 0) : Ct Γ yX3_readInto cX3_readInto 6 (some .boolean) 2 [.ref (ad Γ 3 0 0), .ref (ad Γ 1 11 0)] M (some (.int 0)) (sO (sO M 1 11 (rdR (M.1 3 0) (M.1 1 11)).2.2) 3 0 (rfX (M.1 3 0) (rdR (M.1 3 0) (M.1 1 11)).1 (nI (rdR (M.1 3 0) (M.1 1 11)).2.1))) := by
  refine ct_of (by decide) (Nat.le_of_ble_eq_true rfl) (fun K hg hr => ?_)
  show WM Γ K _ [(0, _), (1, _)] 0 []
  have ht2 := ht.2
  refine wm_iconst (q := 1) 0 hg dX3_readInto_0 rfl (by decide) ?_
  refine wm_istore_n (q := 2) (i := 2) (L' := [(0, _), (1, _), (2, _)]) hg dX3_readInto_1 rfl rfl rfl rfl ?_
  refine wm_aload_n (q := 3) (i := 1) hg dX3_readInto_2 rfl rfl rfl ?_
  refine wm_iconst (q := 4) 0 hg dX3_readInto_3 rfl (by decide) ?_
  refine wm_put (q := 7) hg dX3_readInto_4 rfl fl_X3_26 (by first | assumption | decide | omega | (simp only [nO]; omega)) rfl ?_
  refine wm_iconst (q := 8) 0 hg dX3_readInto_7 rfl (by decide) ?_
  refine wm_istore_n (q := 9) (i := 3) (L' := [(0, _), (1, _), (2, _), (3, _)]) hg dX3_readInto_8 rfl rfl rfl rfl ?_
  suffices hloop : ∀ (n i : Nat) (Y : OV) (bh : Int32), i + n = txN (M.1 3 0) → ok10 Y → rdG (M.1 3 0) n i Y bh = (rdR (M.1 3 0) (M.1 1 11)) → WM Γ K (sO M 1 11 Y) [(0, .ref (ad Γ 3 0 0)), (1, .ref (ad Γ 1 11 0)), (2, .int bh), (3, .int (nI i))] 9 [] from hloop (txN (M.1 3 0)) 0 (oI (M.1 1 11) 0 0) 0 (by omega) (ok10_sz (n := 0) (by simp only [oI, upd_same]; rfl) (by decide)) rfl
  intro n
  induction n with
  | zero =>
    intro i Y bh hi hY hR
    have hY2 := hY.2
    have eT : (sO M 1 11 Y).1 3 0 = (M.1 3 0) := sO_kind _ _ _ _ (by decide)
    have eY : (sO M 1 11 Y).1 1 11 = Y := sO_same _ _ _ _
    have hT1 : ((sO M 1 11 Y).1 3 0).1 1 = nI (txN (M.1 3 0)) := by rw [eT]; exact ht.1
    have hR2 : (rdR (M.1 3 0) (M.1 1 11)) = (if 0 < Y.1 0 then 0 else 3, i, Y) := hR.symm
    rw [hR2] at h hr
    refine wm_iload_n (q := 10) (i := 3) hg dX3_readInto_9 rfl rfl rfl ?_
    refine wm_aload_n (q := 11) (i := 0) hg dX3_readInto_10 rfl rfl rfl ?_
    refine wm_get (q := 14) hg dX3_readInto_11 rfl fl_X3_15 (by first | assumption | decide | omega | (simp only [nO]; omega)) rfl ?_
    refine wm_icmp_ge (q := 129) (q2 := 17) hg dX3_readInto_14 (by decide) rfl (fun hb => ?_) (fun hb => ?_)
    · refine wm_aload_n (q := 130) (i := 1) hg dX3_readInto_129 rfl rfl rfl ?_
      refine wm_get (q := 133) hg dX3_readInto_130 rfl fl_X3_26 (by first | assumption | decide | omega | (simp only [nO]; omega)) rfl ?_
      refine wm_if_gt (q := 148) (q2 := 136) hg dX3_readInto_133 (by decide) rfl (fun hp => ?_) (fun hp => ?_)
      · rw [eY] at hp
        exact absurd (if_pos hp) h
      · rw [eY] at hp
        refine wm_aload_n (q := 137) (i := 0) hg dX3_readInto_136 rfl rfl rfl ?_
        refine wm_iconst (q := 138) 3 hg dX3_readInto_137 rfl (by decide) ?_
        refine wm_aload_n (q := 139) (i := 0) hg dX3_readInto_138 rfl rfl rfl ?_
        refine wm_get (q := 142) hg dX3_readInto_139 rfl fl_X3_15 (by first | assumption | decide | omega | (simp only [nO]; omega)) rfl ?_
        refine wm_callV1 (q := 145) hg dX3_readInto_142 rfl lk_X3_35 (by first | decide | omega) c_X3_refuse (by first | assumption | decide | omega | (simp only [nO]; omega)) ⟨rfl, by decide⟩ rfl rfl (Nat.le_of_ble_eq_true rfl) ?_
        refine wm_if_eq (q := 152) (q2 := 148) hg dX3_readInto_145 (by decide) rfl (fun hz0 => ?_) (fun hz0 => ?_)
        · refine wm_iconst (q := 153) 0 hg dX3_readInto_152 rfl (by decide) ?_
          exact wm_zret hg hr dX3_readInto_153 (rfl) (by rw [eT, ht.1, show txN (M.1 3 0) = i by omega]; simp only [if_neg hp]) (by decide)
        · exact absurd rfl hz0
    · exact absurd (lpLe hT1 (by omega) (by omega)) hb
  | succ n ih =>
    intro i Y bh hi hY hR
    have hY2 := hY.2
    have eT : (sO M 1 11 Y).1 3 0 = (M.1 3 0) := sO_kind _ _ _ _ (by decide)
    have eY : (sO M 1 11 Y).1 1 11 = Y := sO_same _ _ _ _
    have hT1 : ((sO M 1 11 Y).1 3 0).1 1 = nI (txN (M.1 3 0)) := by rw [eT]; exact ht.1
    simp only [rdG] at hR
    refine wm_iload_n (q := 10) (i := 3) hg dX3_readInto_9 rfl rfl rfl ?_
    refine wm_aload_n (q := 11) (i := 0) hg dX3_readInto_10 rfl rfl rfl ?_
    refine wm_get (q := 14) hg dX3_readInto_11 rfl fl_X3_15 (by first | assumption | decide | omega | (simp only [nO]; omega)) rfl ?_
    refine wm_icmp_ge (q := 129) (q2 := 17) hg dX3_readInto_14 (by decide) rfl (fun hb => ?_) (fun hb => ?_)
    · exact absurd hb (lpLt hT1 (by omega) (by omega))
    · refine wm_aload_n (q := 18) (i := 0) hg dX3_readInto_17 rfl rfl rfl ?_
      refine wm_get (q := 21) hg dX3_readInto_18 rfl fl_X3_9 (by first | assumption | decide | omega | (simp only [nO]; omega)) rfl ?_
      refine wm_iload_n (q := 22) (i := 3) hg dX3_readInto_21 rfl rfl rfl ?_
      refine wm_iaload (q := 23) i hg dX3_readInto_22 rfl (by first | assumption | decide | omega | (simp only [nO]; omega)) rfl rfl (by simp only [alen]; omega) ?_
      refine wm_istore (q := 25) (i := 4) (L' := [(0, _), (1, _), (2, _), (3, _), (4, _)]) hg dX3_readInto_23 rfl rfl rfl ?_
      refine wm_iload (q := 27) (i := 4) hg dX3_readInto_25 rfl rfl ?_
      refine wm_bipush (q := 29) 48 hg dX3_readInto_27 rfl (by decide) ?_
      refine wm_bipush (q := 31) 55 hg dX3_readInto_29 rfl (by decide) ?_
      refine wm_callN1 (q := 34) hg dX3_readInto_31 rfl lkN_X4_isWithin (fun h => h.2.2) (by first | decide | omega) c_X4_isWithin rfl rfl (Nat.le_of_ble_eq_true rfl) ?_
      refine wm_istore (q := 36) (i := 5) (L' := [(0, _), (1, _), (2, _), (3, _), (4, _), (5, _)]) hg dX3_readInto_34 rfl rfl rfl ?_
      refine wm_iload (q := 38) (i := 5) hg dX3_readInto_36 rfl rfl ?_
      refine wm_if_eq (q := 73) (q2 := 41) hg dX3_readInto_38 (by decide) rfl (fun h1 => ?_) (fun h1 => ?_)
      · rw [eT] at h1
        rw [if_pos h1] at hR
        refine wm_iload (q := 75) (i := 4) hg dX3_readInto_73 rfl rfl ?_
        refine wm_bipush (q := 77) 33 hg dX3_readInto_75 rfl (by decide) ?_
        refine wm_icmp_ne (q := 106) (q2 := 80) hg dX3_readInto_77 (by decide) rfl (fun h2 => ?_) (fun h2 => ?_)
        · rw [eT] at h2
          rw [if_neg h2] at hR
          refine wm_iload (q := 108) (i := 4) hg dX3_readInto_106 rfl rfl ?_
          refine wm_bipush (q := 110) 32 hg dX3_readInto_108 rfl (by decide) ?_
          refine wm_icmp_eq (q := 120) (q2 := 113) hg dX3_readInto_110 (by decide) rfl (fun h5 => ?_) (fun h5 => ?_)
          · rw [eT] at h5
            rw [if_pos h5] at hR
            refine wm_iload (q := 122) (i := 5) hg dX3_readInto_120 rfl rfl ?_
            refine wm_istore_n (q := 123) (i := 2) (L' := [(0, _), (1, _), (2, _), (3, _), (4, _), (5, _)]) hg dX3_readInto_122 rfl rfl rfl rfl ?_
            refine wm_iinc (q := 126) (L' := [(0, _), (1, _), (2, _), (3, _), (4, _), (5, _)]) (nI (i + 1)) hg dX3_readInto_123 rfl rfl (nadd rfl rfl) rfl rfl ?_
            refine wm_goto (q := 9) hg dX3_readInto_126 (by decide) ?_
            refine wm_L (L' := [(0, _), (1, _), (2, _), (3, _)]) [0, 1, 2, 3] rfl ?_
            refine wm_Leq (by rw [eT]) ?_
            exact ih (i + 1) Y _ (by omega) hY hR
          · rw [eT] at h5
            rw [if_neg h5] at hR
            refine wm_aload_n (q := 114) (i := 0) hg dX3_readInto_113 rfl rfl rfl ?_
            refine wm_iconst (q := 115) 1 hg dX3_readInto_114 rfl (by decide) ?_
            refine wm_iload_n (q := 116) (i := 3) hg dX3_readInto_115 rfl rfl rfl ?_
            refine wm_callV1 (q := 119) hg dX3_readInto_116 rfl lk_X3_35 (by first | decide | omega) c_X3_refuse (by first | assumption | decide | omega | (simp only [nO]; omega)) ⟨rfl, by decide⟩ rfl rfl (Nat.le_of_ble_eq_true rfl) ?_
            exact wm_zret hg hr dX3_readInto_119 rfl (by rw [← hR, eT]) (by decide)
        · rw [eT] at h2
          rw [if_pos h2] at hR
          refine wm_iload_n (q := 81) (i := 2) hg dX3_readInto_80 rfl rfl rfl ?_
          refine wm_if_eq (q := 106) (q2 := 84) hg dX3_readInto_81 (by decide) rfl (fun h3 => ?_) (fun h3 => ?_)
          · rw [if_pos h3] at hR
            refine wm_iload (q := 108) (i := 4) hg dX3_readInto_106 rfl rfl ?_
            refine wm_bipush (q := 110) 32 hg dX3_readInto_108 rfl (by decide) ?_
            refine wm_icmp_eq (q := 120) (q2 := 113) hg dX3_readInto_110 (by decide) rfl (fun h5 => ?_) (fun h5 => ?_)
            · rw [eT] at h5
              rw [if_pos h5] at hR
              refine wm_iload (q := 122) (i := 5) hg dX3_readInto_120 rfl rfl ?_
              refine wm_istore_n (q := 123) (i := 2) (L' := [(0, _), (1, _), (2, _), (3, _), (4, _), (5, _)]) hg dX3_readInto_122 rfl rfl rfl rfl ?_
              refine wm_iinc (q := 126) (L' := [(0, _), (1, _), (2, _), (3, _), (4, _), (5, _)]) (nI (i + 1)) hg dX3_readInto_123 rfl rfl (nadd rfl rfl) rfl rfl ?_
              refine wm_goto (q := 9) hg dX3_readInto_126 (by decide) ?_
              refine wm_L (L' := [(0, _), (1, _), (2, _), (3, _)]) [0, 1, 2, 3] rfl ?_
              refine wm_Leq (by rw [eT]) ?_
              exact ih (i + 1) Y _ (by omega) hY hR
            · rw [eT] at h5
              rw [if_neg h5] at hR
              refine wm_aload_n (q := 114) (i := 0) hg dX3_readInto_113 rfl rfl rfl ?_
              refine wm_iconst (q := 115) 1 hg dX3_readInto_114 rfl (by decide) ?_
              refine wm_iload_n (q := 116) (i := 3) hg dX3_readInto_115 rfl rfl rfl ?_
              refine wm_callV1 (q := 119) hg dX3_readInto_116 rfl lk_X3_35 (by first | decide | omega) c_X3_refuse (by first | assumption | decide | omega | (simp only [nO]; omega)) ⟨rfl, by decide⟩ rfl rfl (Nat.le_of_ble_eq_true rfl) ?_
              exact wm_zret hg hr dX3_readInto_119 rfl (by rw [← hR, eT]) (by decide)
          · rw [if_neg h3] at hR
            refine wm_aload_n (q := 85) (i := 1) hg dX3_readInto_84 rfl rfl rfl ?_
            refine wm_get (q := 88) hg dX3_readInto_85 rfl fl_X3_26 (by first | assumption | decide | omega | (simp only [nO]; omega)) rfl ?_
            refine wm_if_le (q := 106) (q2 := 91) hg dX3_readInto_88 (by decide) rfl (fun h4 => ?_) (fun h4 => ?_)
            · rw [eY] at h4
              rw [if_pos h4] at hR
              refine wm_iload (q := 108) (i := 4) hg dX3_readInto_106 rfl rfl ?_
              refine wm_bipush (q := 110) 32 hg dX3_readInto_108 rfl (by decide) ?_
              refine wm_icmp_eq (q := 120) (q2 := 113) hg dX3_readInto_110 (by decide) rfl (fun h5 => ?_) (fun h5 => ?_)
              · rw [eT] at h5
                rw [if_pos h5] at hR
                refine wm_iload (q := 122) (i := 5) hg dX3_readInto_120 rfl rfl ?_
                refine wm_istore_n (q := 123) (i := 2) (L' := [(0, _), (1, _), (2, _), (3, _), (4, _), (5, _)]) hg dX3_readInto_122 rfl rfl rfl rfl ?_
                refine wm_iinc (q := 126) (L' := [(0, _), (1, _), (2, _), (3, _), (4, _), (5, _)]) (nI (i + 1)) hg dX3_readInto_123 rfl rfl (nadd rfl rfl) rfl rfl ?_
                refine wm_goto (q := 9) hg dX3_readInto_126 (by decide) ?_
                refine wm_L (L' := [(0, _), (1, _), (2, _), (3, _)]) [0, 1, 2, 3] rfl ?_
                refine wm_Leq (by rw [eT]) ?_
                exact ih (i + 1) Y _ (by omega) hY hR
              · rw [eT] at h5
                rw [if_neg h5] at hR
                refine wm_aload_n (q := 114) (i := 0) hg dX3_readInto_113 rfl rfl rfl ?_
                refine wm_iconst (q := 115) 1 hg dX3_readInto_114 rfl (by decide) ?_
                refine wm_iload_n (q := 116) (i := 3) hg dX3_readInto_115 rfl rfl rfl ?_
                refine wm_callV1 (q := 119) hg dX3_readInto_116 rfl lk_X3_35 (by first | decide | omega) c_X3_refuse (by first | assumption | decide | omega | (simp only [nO]; omega)) ⟨rfl, by decide⟩ rfl rfl (Nat.le_of_ble_eq_true rfl) ?_
                exact wm_zret hg hr dX3_readInto_119 rfl (by rw [← hR, eT]) (by decide)
            · rw [eY] at h4
              rw [if_neg h4] at hR
              have hpos : 1 ≤ szN Y := by
                rcases Nat.lt_or_ge (szN Y) 1 with q | q
                · exact absurd (by rw [hY.1, show szN Y = 0 by omega]; decide) h4
                · exact q
              refine wm_aload_n (q := 92) (i := 1) hg dX3_readInto_91 rfl rfl rfl ?_
              refine wm_get (q := 95) hg dX3_readInto_92 rfl fl_X3_43 (by first | assumption | decide | omega | (simp only [nO]; omega)) rfl ?_
              refine wm_aload_n (q := 96) (i := 1) hg dX3_readInto_95 rfl rfl rfl ?_
              refine wm_get (q := 99) hg dX3_readInto_96 rfl fl_X3_26 (by first | assumption | decide | omega | (simp only [nO]; omega)) rfl ?_
              refine wm_iconst (q := 100) 1 hg dX3_readInto_99 rfl (by decide) ?_
              refine wm_isub (q := 101) hg dX3_readInto_100 rfl ?_
              refine wm_iconst (q := 102) 1 hg dX3_readInto_101 rfl (by decide) ?_
              refine wm_iastore (q := 103) (szN Y - 1) hg dX3_readInto_102 rfl (by first | assumption | decide | omega | (simp only [nO]; omega)) rfl (by rw [eY]; exact nsub hY.1 rfl hpos) (by simp only [alen]; omega) ?_
              refine wm_goto (q := 120) hg dX3_readInto_103 (by decide) ?_
              refine wm_iload (q := 122) (i := 5) hg dX3_readInto_120 rfl rfl ?_
              refine wm_istore_n (q := 123) (i := 2) (L' := [(0, _), (1, _), (2, _), (3, _), (4, _), (5, _)]) hg dX3_readInto_122 rfl rfl rfl rfl ?_
              refine wm_iinc (q := 126) (L' := [(0, _), (1, _), (2, _), (3, _), (4, _), (5, _)]) (nI (i + 1)) hg dX3_readInto_123 rfl rfl (nadd rfl rfl) rfl rfl ?_
              refine wm_goto (q := 9) hg dX3_readInto_126 (by decide) ?_
              refine wm_L (L' := [(0, _), (1, _), (2, _), (3, _)]) [0, 1, 2, 3] rfl ?_
              refine wm_Leq (by rw [eT]) ?_
              refine wm_mem (M' := sO M 1 11 (oA Y 2 (upd (Y.2 2) (szN Y - 1) 1))) (by simp only [eY, sO_sO]) (ih (i + 1) (oA Y 2 (upd (Y.2 2) (szN Y - 1) 1)) _ (by omega) (ok10_1 rfl hY) hR)
      · rw [eT] at h1
        rw [if_neg h1] at hR
        refine wm_aload_n (q := 42) (i := 1) hg dX3_readInto_41 rfl rfl rfl ?_
        refine wm_get (q := 45) hg dX3_readInto_42 rfl fl_X3_26 (by first | assumption | decide | omega | (simp only [nO]; omega)) rfl ?_
        refine wm_bipush (q := 47) 10 hg dX3_readInto_45 rfl (by decide) ?_
        refine wm_icmp_lt (q := 57) (q2 := 50) hg dX3_readInto_47 (by decide) rfl (fun h2 => ?_) (fun h2 => ?_)
        · rw [eY] at h2
          rw [if_pos h2] at hR
          have hlt : szN Y < 10 := by
            rcases Nat.lt_or_ge (szN Y) 10 with q | q
            · exact q
            · exact absurd h2 (by rw [hY.1]; exact nI_nlt (a := szN Y) (b := 10) q (by omega))
          refine wm_aload_n (q := 58) (i := 1) hg dX3_readInto_57 rfl rfl rfl ?_
          refine wm_aload_n (q := 59) (i := 1) hg dX3_readInto_58 rfl rfl rfl ?_
          refine wm_get (q := 62) hg dX3_readInto_59 rfl fl_X3_26 (by first | assumption | decide | omega | (simp only [nO]; omega)) rfl ?_
          refine wm_iload (q := 64) (i := 4) hg dX3_readInto_62 rfl rfl ?_
          refine wm_bipush (q := 66) 48 hg dX3_readInto_64 rfl (by decide) ?_
          refine wm_isub (q := 67) hg dX3_readInto_66 rfl ?_
          refine wm_callV0 (q := 70) hg dX3_readInto_67 rfl lk_X3_39 (by first | decide | omega) (c_X1_putIn (p := szN Y) (by decide) (by rw [eY]; exact hY) (by rw [eY]; exact hlt) (by rw [eY]; exact hY.1) (by rw [eY]; exact Nat.le_refl _)) (by first | assumption | decide | omega | (simp only [nO]; omega)) ⟨rfl, by decide⟩ rfl rfl (Nat.le_of_ble_eq_true rfl) ?_
          refine wm_goto (q := 120) hg dX3_readInto_70 (by decide) ?_
          refine wm_iload (q := 122) (i := 5) hg dX3_readInto_120 rfl rfl ?_
          refine wm_istore_n (q := 123) (i := 2) (L' := [(0, _), (1, _), (2, _), (3, _), (4, _), (5, _)]) hg dX3_readInto_122 rfl rfl rfl rfl ?_
          refine wm_iinc (q := 126) (L' := [(0, _), (1, _), (2, _), (3, _), (4, _), (5, _)]) (nI (i + 1)) hg dX3_readInto_123 rfl rfl (nadd rfl rfl) rfl rfl ?_
          refine wm_goto (q := 9) hg dX3_readInto_126 (by decide) ?_
          refine wm_L (L' := [(0, _), (1, _), (2, _), (3, _)]) [0, 1, 2, 3] rfl ?_
          refine wm_Leq (by rw [eT]) ?_
          refine wm_mem (M' := sO M 1 11 (piX Y (szN Y) ((M.1 3 0).2 0 i - 48))) (by simp only [eY, eT, sO_sO]) (ih (i + 1) _ _ (by omega) (ok10_pi hY hlt _ _) hR)
        · rw [eY] at h2
          rw [if_neg h2] at hR
          refine wm_aload_n (q := 51) (i := 0) hg dX3_readInto_50 rfl rfl rfl ?_
          refine wm_iconst (q := 52) 2 hg dX3_readInto_51 rfl (by decide) ?_
          refine wm_iload_n (q := 53) (i := 3) hg dX3_readInto_52 rfl rfl rfl ?_
          refine wm_callV1 (q := 56) hg dX3_readInto_53 rfl lk_X3_35 (by first | decide | omega) c_X3_refuse (by first | assumption | decide | omega | (simp only [nO]; omega)) ⟨rfl, by decide⟩ rfl rfl (Nat.le_of_ble_eq_true rfl) ?_
          exact wm_zret hg hr dX3_readInto_56 rfl (by rw [← hR, eT]) (by decide)
set_option maxRecDepth 100000 in
set_option maxHeartbeats 4000000 in
theorem c_X3_readInto1 {Γ : GT} {M : Mem}  (ht : okT (M.1 3 0)) (h : (rdR (M.1 3 0) (M.1 1 11)).1 = 0) : Ct Γ yX3_readInto cX3_readInto 6 (some .boolean) 2 [.ref (ad Γ 3 0 0), .ref (ad Γ 1 11 0)] M (some (.int 1)) (sO M 1 11 (rdR (M.1 3 0) (M.1 1 11)).2.2) := by
  refine ct_of (by decide) (Nat.le_of_ble_eq_true rfl) (fun K hg hr => ?_)
  show WM Γ K _ [(0, _), (1, _)] 0 []
  have ht2 := ht.2
  refine wm_iconst (q := 1) 0 hg dX3_readInto_0 rfl (by decide) ?_
  refine wm_istore_n (q := 2) (i := 2) (L' := [(0, _), (1, _), (2, _)]) hg dX3_readInto_1 rfl rfl rfl rfl ?_
  refine wm_aload_n (q := 3) (i := 1) hg dX3_readInto_2 rfl rfl rfl ?_
  refine wm_iconst (q := 4) 0 hg dX3_readInto_3 rfl (by decide) ?_
  refine wm_put (q := 7) hg dX3_readInto_4 rfl fl_X3_26 (by first | assumption | decide | omega | (simp only [nO]; omega)) rfl ?_
  refine wm_iconst (q := 8) 0 hg dX3_readInto_7 rfl (by decide) ?_
  refine wm_istore_n (q := 9) (i := 3) (L' := [(0, _), (1, _), (2, _), (3, _)]) hg dX3_readInto_8 rfl rfl rfl rfl ?_
  suffices hloop : ∀ (n i : Nat) (Y : OV) (bh : Int32), i + n = txN (M.1 3 0) → ok10 Y → rdG (M.1 3 0) n i Y bh = (rdR (M.1 3 0) (M.1 1 11)) → WM Γ K (sO M 1 11 Y) [(0, .ref (ad Γ 3 0 0)), (1, .ref (ad Γ 1 11 0)), (2, .int bh), (3, .int (nI i))] 9 [] from hloop (txN (M.1 3 0)) 0 (oI (M.1 1 11) 0 0) 0 (by omega) (ok10_sz (n := 0) (by simp only [oI, upd_same]; rfl) (by decide)) rfl
  intro n
  induction n with
  | zero =>
    intro i Y bh hi hY hR
    have hY2 := hY.2
    have eT : (sO M 1 11 Y).1 3 0 = (M.1 3 0) := sO_kind _ _ _ _ (by decide)
    have eY : (sO M 1 11 Y).1 1 11 = Y := sO_same _ _ _ _
    have hT1 : ((sO M 1 11 Y).1 3 0).1 1 = nI (txN (M.1 3 0)) := by rw [eT]; exact ht.1
    have hR2 : (rdR (M.1 3 0) (M.1 1 11)) = (if 0 < Y.1 0 then 0 else 3, i, Y) := hR.symm
    rw [hR2] at h hr
    refine wm_iload_n (q := 10) (i := 3) hg dX3_readInto_9 rfl rfl rfl ?_
    refine wm_aload_n (q := 11) (i := 0) hg dX3_readInto_10 rfl rfl rfl ?_
    refine wm_get (q := 14) hg dX3_readInto_11 rfl fl_X3_15 (by first | assumption | decide | omega | (simp only [nO]; omega)) rfl ?_
    refine wm_icmp_ge (q := 129) (q2 := 17) hg dX3_readInto_14 (by decide) rfl (fun hb => ?_) (fun hb => ?_)
    · refine wm_aload_n (q := 130) (i := 1) hg dX3_readInto_129 rfl rfl rfl ?_
      refine wm_get (q := 133) hg dX3_readInto_130 rfl fl_X3_26 (by first | assumption | decide | omega | (simp only [nO]; omega)) rfl ?_
      refine wm_if_gt (q := 148) (q2 := 136) hg dX3_readInto_133 (by decide) rfl (fun hp => ?_) (fun hp => ?_)
      · rw [eY] at hp
        have hr := hr
        refine wm_iconst (q := 149) 1 hg dX3_readInto_148 rfl (by decide) ?_
        refine wm_goto (q := 153) hg dX3_readInto_149 (by decide) ?_
        exact wm_zret hg hr dX3_readInto_153 (rfl) (rfl) (by decide)
      · rw [eY] at hp
        exact absurd h (by simp only [if_neg hp]; decide)
    · exact absurd (lpLe hT1 (by omega) (by omega)) hb
  | succ n ih =>
    intro i Y bh hi hY hR
    have hY2 := hY.2
    have eT : (sO M 1 11 Y).1 3 0 = (M.1 3 0) := sO_kind _ _ _ _ (by decide)
    have eY : (sO M 1 11 Y).1 1 11 = Y := sO_same _ _ _ _
    have hT1 : ((sO M 1 11 Y).1 3 0).1 1 = nI (txN (M.1 3 0)) := by rw [eT]; exact ht.1
    simp only [rdG] at hR
    refine wm_iload_n (q := 10) (i := 3) hg dX3_readInto_9 rfl rfl rfl ?_
    refine wm_aload_n (q := 11) (i := 0) hg dX3_readInto_10 rfl rfl rfl ?_
    refine wm_get (q := 14) hg dX3_readInto_11 rfl fl_X3_15 (by first | assumption | decide | omega | (simp only [nO]; omega)) rfl ?_
    refine wm_icmp_ge (q := 129) (q2 := 17) hg dX3_readInto_14 (by decide) rfl (fun hb => ?_) (fun hb => ?_)
    · exact absurd hb (lpLt hT1 (by omega) (by omega))
    · refine wm_aload_n (q := 18) (i := 0) hg dX3_readInto_17 rfl rfl rfl ?_
      refine wm_get (q := 21) hg dX3_readInto_18 rfl fl_X3_9 (by first | assumption | decide | omega | (simp only [nO]; omega)) rfl ?_
      refine wm_iload_n (q := 22) (i := 3) hg dX3_readInto_21 rfl rfl rfl ?_
      refine wm_iaload (q := 23) i hg dX3_readInto_22 rfl (by first | assumption | decide | omega | (simp only [nO]; omega)) rfl rfl (by simp only [alen]; omega) ?_
      refine wm_istore (q := 25) (i := 4) (L' := [(0, _), (1, _), (2, _), (3, _), (4, _)]) hg dX3_readInto_23 rfl rfl rfl ?_
      refine wm_iload (q := 27) (i := 4) hg dX3_readInto_25 rfl rfl ?_
      refine wm_bipush (q := 29) 48 hg dX3_readInto_27 rfl (by decide) ?_
      refine wm_bipush (q := 31) 55 hg dX3_readInto_29 rfl (by decide) ?_
      refine wm_callN1 (q := 34) hg dX3_readInto_31 rfl lkN_X4_isWithin (fun h => h.2.2) (by first | decide | omega) c_X4_isWithin rfl rfl (Nat.le_of_ble_eq_true rfl) ?_
      refine wm_istore (q := 36) (i := 5) (L' := [(0, _), (1, _), (2, _), (3, _), (4, _), (5, _)]) hg dX3_readInto_34 rfl rfl rfl ?_
      refine wm_iload (q := 38) (i := 5) hg dX3_readInto_36 rfl rfl ?_
      refine wm_if_eq (q := 73) (q2 := 41) hg dX3_readInto_38 (by decide) rfl (fun h1 => ?_) (fun h1 => ?_)
      · rw [eT] at h1
        rw [if_pos h1] at hR
        refine wm_iload (q := 75) (i := 4) hg dX3_readInto_73 rfl rfl ?_
        refine wm_bipush (q := 77) 33 hg dX3_readInto_75 rfl (by decide) ?_
        refine wm_icmp_ne (q := 106) (q2 := 80) hg dX3_readInto_77 (by decide) rfl (fun h2 => ?_) (fun h2 => ?_)
        · rw [eT] at h2
          rw [if_neg h2] at hR
          refine wm_iload (q := 108) (i := 4) hg dX3_readInto_106 rfl rfl ?_
          refine wm_bipush (q := 110) 32 hg dX3_readInto_108 rfl (by decide) ?_
          refine wm_icmp_eq (q := 120) (q2 := 113) hg dX3_readInto_110 (by decide) rfl (fun h5 => ?_) (fun h5 => ?_)
          · rw [eT] at h5
            rw [if_pos h5] at hR
            refine wm_iload (q := 122) (i := 5) hg dX3_readInto_120 rfl rfl ?_
            refine wm_istore_n (q := 123) (i := 2) (L' := [(0, _), (1, _), (2, _), (3, _), (4, _), (5, _)]) hg dX3_readInto_122 rfl rfl rfl rfl ?_
            refine wm_iinc (q := 126) (L' := [(0, _), (1, _), (2, _), (3, _), (4, _), (5, _)]) (nI (i + 1)) hg dX3_readInto_123 rfl rfl (nadd rfl rfl) rfl rfl ?_
            refine wm_goto (q := 9) hg dX3_readInto_126 (by decide) ?_
            refine wm_L (L' := [(0, _), (1, _), (2, _), (3, _)]) [0, 1, 2, 3] rfl ?_
            refine wm_Leq (by rw [eT]) ?_
            exact ih (i + 1) Y _ (by omega) hY hR
          · rw [eT] at h5
            rw [if_neg h5] at hR
            exact absurd h (by rw [← hR]; exact (by decide : ¬ (1 : Int32) = 0))
        · rw [eT] at h2
          rw [if_pos h2] at hR
          refine wm_iload_n (q := 81) (i := 2) hg dX3_readInto_80 rfl rfl rfl ?_
          refine wm_if_eq (q := 106) (q2 := 84) hg dX3_readInto_81 (by decide) rfl (fun h3 => ?_) (fun h3 => ?_)
          · rw [if_pos h3] at hR
            refine wm_iload (q := 108) (i := 4) hg dX3_readInto_106 rfl rfl ?_
            refine wm_bipush (q := 110) 32 hg dX3_readInto_108 rfl (by decide) ?_
            refine wm_icmp_eq (q := 120) (q2 := 113) hg dX3_readInto_110 (by decide) rfl (fun h5 => ?_) (fun h5 => ?_)
            · rw [eT] at h5
              rw [if_pos h5] at hR
              refine wm_iload (q := 122) (i := 5) hg dX3_readInto_120 rfl rfl ?_
              refine wm_istore_n (q := 123) (i := 2) (L' := [(0, _), (1, _), (2, _), (3, _), (4, _), (5, _)]) hg dX3_readInto_122 rfl rfl rfl rfl ?_
              refine wm_iinc (q := 126) (L' := [(0, _), (1, _), (2, _), (3, _), (4, _), (5, _)]) (nI (i + 1)) hg dX3_readInto_123 rfl rfl (nadd rfl rfl) rfl rfl ?_
              refine wm_goto (q := 9) hg dX3_readInto_126 (by decide) ?_
              refine wm_L (L' := [(0, _), (1, _), (2, _), (3, _)]) [0, 1, 2, 3] rfl ?_
              refine wm_Leq (by rw [eT]) ?_
              exact ih (i + 1) Y _ (by omega) hY hR
            · rw [eT] at h5
              rw [if_neg h5] at hR
              exact absurd h (by rw [← hR]; exact (by decide : ¬ (1 : Int32) = 0))
          · rw [if_neg h3] at hR
            refine wm_aload_n (q := 85) (i := 1) hg dX3_readInto_84 rfl rfl rfl ?_
            refine wm_get (q := 88) hg dX3_readInto_85 rfl fl_X3_26 (by first | assumption | decide | omega | (simp only [nO]; omega)) rfl ?_
            refine wm_if_le (q := 106) (q2 := 91) hg dX3_readInto_88 (by decide) rfl (fun h4 => ?_) (fun h4 => ?_)
            · rw [eY] at h4
              rw [if_pos h4] at hR
              refine wm_iload (q := 108) (i := 4) hg dX3_readInto_106 rfl rfl ?_
              refine wm_bipush (q := 110) 32 hg dX3_readInto_108 rfl (by decide) ?_
              refine wm_icmp_eq (q := 120) (q2 := 113) hg dX3_readInto_110 (by decide) rfl (fun h5 => ?_) (fun h5 => ?_)
              · rw [eT] at h5
                rw [if_pos h5] at hR
                refine wm_iload (q := 122) (i := 5) hg dX3_readInto_120 rfl rfl ?_
                refine wm_istore_n (q := 123) (i := 2) (L' := [(0, _), (1, _), (2, _), (3, _), (4, _), (5, _)]) hg dX3_readInto_122 rfl rfl rfl rfl ?_
                refine wm_iinc (q := 126) (L' := [(0, _), (1, _), (2, _), (3, _), (4, _), (5, _)]) (nI (i + 1)) hg dX3_readInto_123 rfl rfl (nadd rfl rfl) rfl rfl ?_
                refine wm_goto (q := 9) hg dX3_readInto_126 (by decide) ?_
                refine wm_L (L' := [(0, _), (1, _), (2, _), (3, _)]) [0, 1, 2, 3] rfl ?_
                refine wm_Leq (by rw [eT]) ?_
                exact ih (i + 1) Y _ (by omega) hY hR
              · rw [eT] at h5
                rw [if_neg h5] at hR
                exact absurd h (by rw [← hR]; exact (by decide : ¬ (1 : Int32) = 0))
            · rw [eY] at h4
              rw [if_neg h4] at hR
              have hpos : 1 ≤ szN Y := by
                rcases Nat.lt_or_ge (szN Y) 1 with q | q
                · exact absurd (by rw [hY.1, show szN Y = 0 by omega]; decide) h4
                · exact q
              refine wm_aload_n (q := 92) (i := 1) hg dX3_readInto_91 rfl rfl rfl ?_
              refine wm_get (q := 95) hg dX3_readInto_92 rfl fl_X3_43 (by first | assumption | decide | omega | (simp only [nO]; omega)) rfl ?_
              refine wm_aload_n (q := 96) (i := 1) hg dX3_readInto_95 rfl rfl rfl ?_
              refine wm_get (q := 99) hg dX3_readInto_96 rfl fl_X3_26 (by first | assumption | decide | omega | (simp only [nO]; omega)) rfl ?_
              refine wm_iconst (q := 100) 1 hg dX3_readInto_99 rfl (by decide) ?_
              refine wm_isub (q := 101) hg dX3_readInto_100 rfl ?_
              refine wm_iconst (q := 102) 1 hg dX3_readInto_101 rfl (by decide) ?_
              refine wm_iastore (q := 103) (szN Y - 1) hg dX3_readInto_102 rfl (by first | assumption | decide | omega | (simp only [nO]; omega)) rfl (by rw [eY]; exact nsub hY.1 rfl hpos) (by simp only [alen]; omega) ?_
              refine wm_goto (q := 120) hg dX3_readInto_103 (by decide) ?_
              refine wm_iload (q := 122) (i := 5) hg dX3_readInto_120 rfl rfl ?_
              refine wm_istore_n (q := 123) (i := 2) (L' := [(0, _), (1, _), (2, _), (3, _), (4, _), (5, _)]) hg dX3_readInto_122 rfl rfl rfl rfl ?_
              refine wm_iinc (q := 126) (L' := [(0, _), (1, _), (2, _), (3, _), (4, _), (5, _)]) (nI (i + 1)) hg dX3_readInto_123 rfl rfl (nadd rfl rfl) rfl rfl ?_
              refine wm_goto (q := 9) hg dX3_readInto_126 (by decide) ?_
              refine wm_L (L' := [(0, _), (1, _), (2, _), (3, _)]) [0, 1, 2, 3] rfl ?_
              refine wm_Leq (by rw [eT]) ?_
              refine wm_mem (M' := sO M 1 11 (oA Y 2 (upd (Y.2 2) (szN Y - 1) 1))) (by simp only [eY, sO_sO]) (ih (i + 1) (oA Y 2 (upd (Y.2 2) (szN Y - 1) 1)) _ (by omega) (ok10_1 rfl hY) hR)
      · rw [eT] at h1
        rw [if_neg h1] at hR
        refine wm_aload_n (q := 42) (i := 1) hg dX3_readInto_41 rfl rfl rfl ?_
        refine wm_get (q := 45) hg dX3_readInto_42 rfl fl_X3_26 (by first | assumption | decide | omega | (simp only [nO]; omega)) rfl ?_
        refine wm_bipush (q := 47) 10 hg dX3_readInto_45 rfl (by decide) ?_
        refine wm_icmp_lt (q := 57) (q2 := 50) hg dX3_readInto_47 (by decide) rfl (fun h2 => ?_) (fun h2 => ?_)
        · rw [eY] at h2
          rw [if_pos h2] at hR
          have hlt : szN Y < 10 := by
            rcases Nat.lt_or_ge (szN Y) 10 with q | q
            · exact q
            · exact absurd h2 (by rw [hY.1]; exact nI_nlt (a := szN Y) (b := 10) q (by omega))
          refine wm_aload_n (q := 58) (i := 1) hg dX3_readInto_57 rfl rfl rfl ?_
          refine wm_aload_n (q := 59) (i := 1) hg dX3_readInto_58 rfl rfl rfl ?_
          refine wm_get (q := 62) hg dX3_readInto_59 rfl fl_X3_26 (by first | assumption | decide | omega | (simp only [nO]; omega)) rfl ?_
          refine wm_iload (q := 64) (i := 4) hg dX3_readInto_62 rfl rfl ?_
          refine wm_bipush (q := 66) 48 hg dX3_readInto_64 rfl (by decide) ?_
          refine wm_isub (q := 67) hg dX3_readInto_66 rfl ?_
          refine wm_callV0 (q := 70) hg dX3_readInto_67 rfl lk_X3_39 (by first | decide | omega) (c_X1_putIn (p := szN Y) (by decide) (by rw [eY]; exact hY) (by rw [eY]; exact hlt) (by rw [eY]; exact hY.1) (by rw [eY]; exact Nat.le_refl _)) (by first | assumption | decide | omega | (simp only [nO]; omega)) ⟨rfl, by decide⟩ rfl rfl (Nat.le_of_ble_eq_true rfl) ?_
          refine wm_goto (q := 120) hg dX3_readInto_70 (by decide) ?_
          refine wm_iload (q := 122) (i := 5) hg dX3_readInto_120 rfl rfl ?_
          refine wm_istore_n (q := 123) (i := 2) (L' := [(0, _), (1, _), (2, _), (3, _), (4, _), (5, _)]) hg dX3_readInto_122 rfl rfl rfl rfl ?_
          refine wm_iinc (q := 126) (L' := [(0, _), (1, _), (2, _), (3, _), (4, _), (5, _)]) (nI (i + 1)) hg dX3_readInto_123 rfl rfl (nadd rfl rfl) rfl rfl ?_
          refine wm_goto (q := 9) hg dX3_readInto_126 (by decide) ?_
          refine wm_L (L' := [(0, _), (1, _), (2, _), (3, _)]) [0, 1, 2, 3] rfl ?_
          refine wm_Leq (by rw [eT]) ?_
          refine wm_mem (M' := sO M 1 11 (piX Y (szN Y) ((M.1 3 0).2 0 i - 48))) (by simp only [eY, eT, sO_sO]) (ih (i + 1) _ _ (by omega) (ok10_pi hY hlt _ _) hR)
        · rw [eY] at h2
          rw [if_neg h2] at hR
          exact absurd h (by rw [← hR]; exact (by decide : ¬ (2 : Int32) = 0))
set_option maxRecDepth 100000 in
set_option maxHeartbeats 4000000 in
theorem c_X4_dropOldest {Γ : GT} {M : Mem}  (hU : HU M) : Ct Γ yX4_dropOldest cX4_dropOldest 3 none 0 [.ref (ad Γ 4 0 0)] M none (drM M) := by
  refine ct_of (by decide) (Nat.le_of_ble_eq_true rfl) (fun K hg hr => ?_)
  show WM Γ K _ [(0, _)] 0 []
  refine wm_aload_n (q := 1) (i := 0) hg dX4_dropOldest_0 rfl rfl rfl ?_
  refine wm_get (q := 4) hg dX4_dropOldest_1 rfl fl_X4_16 (by first | assumption | decide | omega | (simp only [nO]; omega)) rfl ?_
  refine wm_iconst (q := 5) 0 hg dX4_dropOldest_4 rfl (by decide) ?_
  refine wm_hload (q := 6) 0 hg dX4_dropOldest_5 rfl (rfl : (0 : Int32) = nI 0) (by omega) ?_
  refine wm_astore_n (q := 7) (i := 1) (L' := [(0, _), (1, _)]) hg dX4_dropOldest_6 rfl rfl rfl rfl ?_
  refine wm_iconst (q := 8) 1 hg dX4_dropOldest_7 rfl (by decide) ?_
  refine wm_istore_n (q := 9) (i := 2) (L' := [(0, _), (1, _), (2, _)]) hg dX4_dropOldest_8 rfl rfl rfl rfl ?_
  have hst : ∀ k, k < 8 → M.2 k < 11 := fun k hk => by have := hU.2.2.1 k hk; omega
  suffices hloop : ∀ (n i : Nat), i + n = 7 → WM Γ K (sH M (hiL M.2 (i + 1))) [(0, .ref (ad Γ 4 0 0)), (1, .ref (ad Γ 2 (M.2 0) 0)), (2, .int (nI (i + 1)))] 9 [] from wm_mem (by have e : hiL M.2 (0 + 1) = M.2 := (by funext k; simp [hiL]); rw [e]) (hloop 7 0 (by omega))
  intro n
  induction n with
  | zero =>
    intro i hi 
    have hx : hiL M.2 (i + 1) (i + 1) = M.2 (i + 1) := by unfold hiL; rw [if_neg (by omega)]
    refine wm_iload_n (q := 10) (i := 2) hg dX4_dropOldest_9 rfl rfl rfl ?_
    refine wm_aload_n (q := 11) (i := 0) hg dX4_dropOldest_10 rfl rfl rfl ?_
    refine wm_get (q := 14) hg dX4_dropOldest_11 rfl fl_X4_16 (by first | assumption | decide | omega | (simp only [nO]; omega)) rfl ?_
    refine wm_alenR (q := 15) (v := 8) hg dX4_dropOldest_14 rfl (Or.inl ⟨rfl, rfl⟩) ?_
    refine wm_icmp_ge (q := 38) (q2 := 18) hg dX4_dropOldest_15 (by decide) rfl (fun hb => ?_) (fun hb => ?_)
    · have e7 : i = 7 := by omega
      subst e7
      have h11 := hst 0 (by decide)
      refine wm_aload_n (q := 39) (i := 0) hg dX4_dropOldest_38 rfl rfl rfl ?_
      refine wm_aload_n (q := 40) (i := 0) hg dX4_dropOldest_39 rfl rfl rfl ?_
      refine wm_get (q := 43) hg dX4_dropOldest_40 rfl fl_X4_16 (by first | assumption | decide | omega | (simp only [nO]; omega)) rfl ?_
      refine wm_alenR (q := 44) (v := 8) hg dX4_dropOldest_43 rfl (Or.inl ⟨rfl, rfl⟩) ?_
      refine wm_iconst (q := 45) 1 hg dX4_dropOldest_44 rfl (by decide) ?_
      refine wm_isub (q := 46) hg dX4_dropOldest_45 rfl ?_
      refine wm_put (q := 49) hg dX4_dropOldest_46 rfl fl_X4_20 (by first | assumption | decide | omega | (simp only [nO]; omega)) rfl ?_
      refine wm_aload_n (q := 50) (i := 0) hg dX4_dropOldest_49 rfl rfl rfl ?_
      refine wm_get (q := 53) hg dX4_dropOldest_50 rfl fl_X4_16 (by first | assumption | decide | omega | (simp only [nO]; omega)) rfl ?_
      refine wm_aload_n (q := 54) (i := 0) hg dX4_dropOldest_53 rfl rfl rfl ?_
      refine wm_get (q := 57) hg dX4_dropOldest_54 rfl fl_X4_20 (by first | assumption | decide | omega | (simp only [nO]; omega)) rfl ?_
      refine wm_aload_n (q := 58) (i := 1) hg dX4_dropOldest_57 rfl rfl rfl ?_
      refine wm_hstore (q := 59) 7 hg dX4_dropOldest_58 rfl (by simp [sO_same, oI, upd_same]; rfl) (by decide) (by first | assumption | decide | omega | (simp only [nO]; omega)) ?_
      exact wm_vret hg hr dX4_dropOldest_59 rfl
    · exact absurd (nI_le (a := 8) (b := i + 1) (by omega) (by omega)) hb
  | succ n ih =>
    intro i hi 
    have hx : hiL M.2 (i + 1) (i + 1) = M.2 (i + 1) := by unfold hiL; rw [if_neg (by omega)]
    refine wm_iload_n (q := 10) (i := 2) hg dX4_dropOldest_9 rfl rfl rfl ?_
    refine wm_aload_n (q := 11) (i := 0) hg dX4_dropOldest_10 rfl rfl rfl ?_
    refine wm_get (q := 14) hg dX4_dropOldest_11 rfl fl_X4_16 (by first | assumption | decide | omega | (simp only [nO]; omega)) rfl ?_
    refine wm_alenR (q := 15) (v := 8) hg dX4_dropOldest_14 rfl (Or.inl ⟨rfl, rfl⟩) ?_
    refine wm_icmp_ge (q := 38) (q2 := 18) hg dX4_dropOldest_15 (by decide) rfl (fun hb => ?_) (fun hb => ?_)
    · exact absurd hb (nI_ge (a := i + 1) (b := 8) (by omega) (by decide))
    · refine wm_aload_n (q := 19) (i := 0) hg dX4_dropOldest_18 rfl rfl rfl ?_
      refine wm_get (q := 22) hg dX4_dropOldest_19 rfl fl_X4_16 (by first | assumption | decide | omega | (simp only [nO]; omega)) rfl ?_
      refine wm_iload_n (q := 23) (i := 2) hg dX4_dropOldest_22 rfl rfl rfl ?_
      refine wm_iconst (q := 24) 1 hg dX4_dropOldest_23 rfl (by decide) ?_
      refine wm_isub (q := 25) hg dX4_dropOldest_24 rfl ?_
      refine wm_aload_n (q := 26) (i := 0) hg dX4_dropOldest_25 rfl rfl rfl ?_
      refine wm_get (q := 29) hg dX4_dropOldest_26 rfl fl_X4_16 (by first | assumption | decide | omega | (simp only [nO]; omega)) rfl ?_
      refine wm_iload_n (q := 30) (i := 2) hg dX4_dropOldest_29 rfl rfl rfl ?_
      refine wm_hload (q := 31) (i + 1) hg dX4_dropOldest_30 rfl rfl (by omega) ?_
      refine wm_hstore (q := 32) ((i + 1) - 1) hg dX4_dropOldest_31 rfl (nsub (a := (i + 1)) (b := 1) rfl (rfl : (1 : Int32) = nI 1) (by omega)) (by omega) (by show hiL M.2 (i + 1) (i + 1) < 11; rw [hx]; exact hst (i + 1) (by omega)) ?_
      refine wm_iinc (q := 35) (L' := [(0, _), (1, _), (2, _)]) (nI ((i + 1) + 1)) hg dX4_dropOldest_32 rfl rfl (nadd rfl rfl) rfl rfl ?_
      refine wm_goto (q := 9) hg dX4_dropOldest_35 (by decide) ?_
      exact wm_mem (by simp only [hx, Nat.add_sub_cancel]; exact congrArg (fun g => sH M g) (hiL_s M.2 i)) (ih (i + 1) (by omega))
set_option maxRecDepth 100000 in
set_option maxHeartbeats 4000000 in
theorem c_X4_record {Γ : GT} {M : Mem}  (hU : HU M) : Ct Γ yX4_record cX4_record 1 none 5 [.ref (ad Γ 4 0 0)] M none (recM M) := by
  refine ct_of (by decide) (Nat.le_of_ble_eq_true rfl) (fun K hg hr => ?_)
  show WM Γ K _ [(0, _)] 0 []
  refine wm_aload_n (q := 1) (i := 0) hg dX4_record_0 rfl rfl rfl ?_
  refine wm_get (q := 4) hg dX4_record_1 rfl fl_X4_20 (by first | assumption | decide | omega | (simp only [nO]; omega)) rfl ?_
  refine wm_aload_n (q := 5) (i := 0) hg dX4_record_4 rfl rfl rfl ?_
  refine wm_get (q := 8) hg dX4_record_5 rfl fl_X4_16 (by first | assumption | decide | omega | (simp only [nO]; omega)) rfl ?_
  refine wm_alenR (q := 9) (v := 8) hg dX4_record_8 rfl (Or.inl ⟨rfl, rfl⟩) ?_
  refine wm_icmp_lt (q := 16) (q2 := 12) hg dX4_record_9 (by decide) rfl (fun h8 => ?_) (fun h8 => ?_)
  · have h1 := hU.2.2.1 (unN M) (un_lt hU h8)
    refine wm_aload_n (q := 17) (i := 0) hg dX4_record_16 rfl rfl rfl ?_
    refine wm_get (q := 20) hg dX4_record_17 rfl fl_X4_16 (by first | assumption | decide | omega | (simp only [nO]; omega)) rfl ?_
    refine wm_aload_n (q := 21) (i := 0) hg dX4_record_20 rfl rfl rfl ?_
    refine wm_get (q := 24) hg dX4_record_21 rfl fl_X4_20 (by first | assumption | decide | omega | (simp only [nO]; omega)) rfl ?_
    refine wm_hload (q := 25) (unN M) hg dX4_record_24 rfl hU.1 (un_lt hU h8) ?_
    refine wm_aload_n (q := 26) (i := 0) hg dX4_record_25 rfl rfl rfl ?_
    refine wm_get (q := 29) hg dX4_record_26 rfl fl_X4_10 (by first | assumption | decide | omega | (simp only [nO]; omega)) rfl ?_
    refine wm_callV0 (q := 32) hg dX4_record_29 rfl lk_X4_155 (by first | decide | omega) (c_X2_takeFrom (by omega) (by decide) (by omega)) (by first | assumption | decide | omega | (simp only [nO]; omega)) ⟨rfl, by decide⟩ rfl rfl (Nat.le_of_ble_eq_true rfl) ?_
    refine wm_aload_n (q := 33) (i := 0) hg dX4_record_32 rfl rfl rfl ?_
    refine wm_dup (q := 34) hg dX4_record_33 rfl rfl ?_
    refine wm_get (q := 37) hg dX4_record_34 rfl fl_X4_20 (by first | assumption | decide | omega | (simp only [nO]; omega)) rfl ?_
    refine wm_iconst (q := 38) 1 hg dX4_record_37 rfl (by decide) ?_
    refine wm_iadd (q := 39) hg dX4_record_38 rfl ?_
    refine wm_put (q := 42) hg dX4_record_39 rfl fl_X4_20 (by first | assumption | decide | omega | (simp only [nO]; omega)) rfl ?_
    exact wm_vret hg hr dX4_record_42 (by simp only [recM, if_pos h8, reY, sI, sO_kind _ _ _ _ (show (4:Nat) ≠ 0 by decide), sO_kind _ _ _ _ (show (4:Nat) ≠ 1 by decide)])
  · refine wm_aload_n (q := 13) (i := 0) hg dX4_record_12 rfl rfl rfl ?_
    refine wm_callV0 (q := 16) hg dX4_record_13 rfl lk_X4_235 (by first | decide | omega) (c_X4_dropOldest (by first | assumption | decide | omega)) (by first | assumption | decide | omega | (simp only [nO]; omega)) ⟨rfl, by decide⟩ rfl rfl (Nat.le_of_ble_eq_true rfl) ?_
    have h1 := (HU_dr hU).2.2.1 7 (by decide)
    refine wm_aload_n (q := 17) (i := 0) hg dX4_record_16 rfl rfl rfl ?_
    refine wm_get (q := 20) hg dX4_record_17 rfl fl_X4_16 (by first | assumption | decide | omega | (simp only [nO]; omega)) rfl ?_
    refine wm_aload_n (q := 21) (i := 0) hg dX4_record_20 rfl rfl rfl ?_
    refine wm_get (q := 24) hg dX4_record_21 rfl fl_X4_20 (by first | assumption | decide | omega | (simp only [nO]; omega)) rfl ?_
    refine wm_hload (q := 25) 7 hg dX4_record_24 rfl (by have := (HU_dr hU).1; rw [unN_dr] at this; exact this) (by decide) ?_
    refine wm_aload_n (q := 26) (i := 0) hg dX4_record_25 rfl rfl rfl ?_
    refine wm_get (q := 29) hg dX4_record_26 rfl fl_X4_10 (by first | assumption | decide | omega | (simp only [nO]; omega)) rfl ?_
    refine wm_callV0 (q := 32) hg dX4_record_29 rfl lk_X4_155 (by first | decide | omega) (c_X2_takeFrom (by omega) (by decide) (by omega)) (by first | assumption | decide | omega | (simp only [nO]; omega)) ⟨rfl, by decide⟩ rfl rfl (Nat.le_of_ble_eq_true rfl) ?_
    refine wm_aload_n (q := 33) (i := 0) hg dX4_record_32 rfl rfl rfl ?_
    refine wm_dup (q := 34) hg dX4_record_33 rfl rfl ?_
    refine wm_get (q := 37) hg dX4_record_34 rfl fl_X4_20 (by first | assumption | decide | omega | (simp only [nO]; omega)) rfl ?_
    refine wm_iconst (q := 38) 1 hg dX4_record_37 rfl (by decide) ?_
    refine wm_iadd (q := 39) hg dX4_record_38 rfl ?_
    refine wm_put (q := 42) hg dX4_record_39 rfl fl_X4_20 (by first | assumption | decide | omega | (simp only [nO]; omega)) rfl ?_
    exact wm_vret hg hr dX4_record_42 (by simp only [recM, if_neg h8, reY, unN_dr, sI, sO_kind _ _ _ _ (show (4:Nat) ≠ 0 by decide), sO_kind _ _ _ _ (show (4:Nat) ≠ 1 by decide)])
set_option maxRecDepth 100000 in
set_option maxHeartbeats 4000000 in
theorem c_X4_isMagnet {Γ : GT} {M : Mem} {i : Int32}  : Ct Γ yX4_isMagnet cX4_isMagnet 2 (some .boolean) 1 [.ref (ad Γ 4 0 0), .int i] M (some (.int (wthn i 0 ((M.1 1 0).1 0 - 1)))) M := by
  refine ct_of (by decide) (Nat.le_of_ble_eq_true rfl) (fun K hg hr => ?_)
  show WM Γ K _ [(0, _), (1, _)] 0 []
  refine wm_iload_n (q := 1) (i := 1) hg dX4_isMagnet_0 rfl rfl rfl ?_
  refine wm_iconst (q := 2) 0 hg dX4_isMagnet_1 rfl (by decide) ?_
  refine wm_aload_n (q := 3) (i := 0) hg dX4_isMagnet_2 rfl rfl rfl ?_
  refine wm_get (q := 6) hg dX4_isMagnet_3 rfl fl_X4_10 (by first | assumption | decide | omega | (simp only [nO]; omega)) rfl ?_
  refine wm_get (q := 9) hg dX4_isMagnet_6 rfl fl_X4_50 (by first | assumption | decide | omega | (simp only [nO]; omega)) rfl ?_
  refine wm_get (q := 12) hg dX4_isMagnet_9 rfl fl_X4_54 (by first | assumption | decide | omega | (simp only [nO]; omega)) rfl ?_
  refine wm_iconst (q := 13) 1 hg dX4_isMagnet_12 rfl (by decide) ?_
  refine wm_isub (q := 14) hg dX4_isMagnet_13 rfl ?_
  refine wm_callS1 (q := 17) hg dX4_isMagnet_14 rfl lk_X4_45 (by first | decide | omega) c_X4_isWithin rfl rfl (Nat.le_of_ble_eq_true rfl) ?_
  exact wm_zret hg hr dX4_isMagnet_17 (rfl) (rfl) (wthn_01 _ _ _)
set_option maxRecDepth 100000 in
set_option maxHeartbeats 4000000 in
theorem c_X4_startChange {Γ : GT} {M : Mem}  (hU : HU M) (hz : ok10 (M.1 1 0)) : Ct Γ yX4_startChange cX4_startChange 1 (some .int) 6 [.ref (ad Γ 4 0 0)] M (some (.int (energy (M.1 1 0)))) (recM M) := by
  refine ct_of (by decide) (Nat.le_of_ble_eq_true rfl) (fun K hg hr => ?_)
  show WM Γ K _ [(0, _)] 0 []
  have e0 := recM_c hU (g := 0) (Or.inl rfl)
  refine wm_aload_n (q := 1) (i := 0) hg dX4_startChange_0 rfl rfl rfl ?_
  refine wm_callV0 (q := 4) hg dX4_startChange_1 rfl lk_X4_57 (by first | decide | omega) (c_X4_record (by first | assumption | decide | omega)) (by first | assumption | decide | omega | (simp only [nO]; omega)) ⟨rfl, by decide⟩ rfl rfl (Nat.le_of_ble_eq_true rfl) ?_
  refine wm_aload_n (q := 5) (i := 0) hg dX4_startChange_4 rfl rfl rfl ?_
  refine wm_get (q := 8) hg dX4_startChange_5 rfl fl_X4_10 (by first | assumption | decide | omega | (simp only [nO]; omega)) rfl ?_
  refine wm_get (q := 11) hg dX4_startChange_8 rfl fl_X4_50 (by first | assumption | decide | omega | (simp only [nO]; omega)) rfl ?_
  refine wm_callV1 (q := 14) hg dX4_startChange_11 rfl lk_X4_159 (by first | decide | omega) (c_X1_energy (by decide) (by rw [e0]; exact hz)) (by first | assumption | decide | omega | (simp only [nO]; omega)) ⟨rfl, by decide⟩ rfl rfl (Nat.le_of_ble_eq_true rfl) ?_
  exact wm_iret hg hr dX4_startChange_14 (by rw [e0]; rfl) (rfl)
set_option maxRecDepth 100000 in
set_option maxHeartbeats 4000000 in
theorem c_X4_endChange {Γ : GT} {M : Mem} {e : Int32} (hz : ok10 (M.1 1 0)) (hB : okB (M.1 0 0)) : Ct Γ yX4_endChange cX4_endChange 2 (some .int) 5 [.ref (ad Γ 4 0 0), .int e] M (some (.int (nI (endX (M.1 1 0) (M.1 0 0) e).1))) (setP M (endX (M.1 1 0) (M.1 0 0) e).2.1 (endX (M.1 1 0) (M.1 0 0) e).2.2) := by
  refine ct_of (by decide) (Nat.le_of_ble_eq_true rfl) (fun K hg hr => ?_)
  show WM Γ K _ [(0, _), (1, _)] 0 []
  refine wm_aload_n (q := 1) (i := 0) hg dX4_endChange_0 rfl rfl rfl ?_
  refine wm_get (q := 4) hg dX4_endChange_1 rfl fl_X4_10 (by first | assumption | decide | omega | (simp only [nO]; omega)) rfl ?_
  refine wm_get (q := 7) hg dX4_endChange_4 rfl fl_X4_64 (by first | assumption | decide | omega | (simp only [nO]; omega)) rfl ?_
  refine wm_dup (q := 8) hg dX4_endChange_7 rfl rfl ?_
  refine wm_get (q := 11) hg dX4_endChange_8 rfl fl_X4_162 (by first | assumption | decide | omega | (simp only [nO]; omega)) rfl ?_
  refine wm_aload_n (q := 12) (i := 0) hg dX4_endChange_11 rfl rfl rfl ?_
  refine wm_get (q := 15) hg dX4_endChange_12 rfl fl_X4_10 (by first | assumption | decide | omega | (simp only [nO]; omega)) rfl ?_
  refine wm_get (q := 18) hg dX4_endChange_15 rfl fl_X4_50 (by first | assumption | decide | omega | (simp only [nO]; omega)) rfl ?_
  refine wm_callV1 (q := 21) hg dX4_endChange_18 rfl lk_X4_159 (by first | decide | omega) (c_X1_energy (by first | assumption | decide | omega) (by first | assumption | decide | omega)) (by first | assumption | decide | omega | (simp only [nO]; omega)) ⟨rfl, by decide⟩ rfl rfl (Nat.le_of_ble_eq_true rfl) ?_
  refine wm_iload_n (q := 22) (i := 1) hg dX4_endChange_21 rfl rfl rfl ?_
  refine wm_isub (q := 23) hg dX4_endChange_22 rfl ?_
  refine wm_iadd (q := 24) hg dX4_endChange_23 rfl ?_
  refine wm_put (q := 27) hg dX4_endChange_24 rfl fl_X4_162 (by first | assumption | decide | omega | (simp only [nO]; omega)) rfl ?_
  refine wm_aload_n (q := 28) (i := 0) hg dX4_endChange_27 rfl rfl rfl ?_
  refine wm_get (q := 31) hg dX4_endChange_28 rfl fl_X4_10 (by first | assumption | decide | omega | (simp only [nO]; omega)) rfl ?_
  refine wm_get (q := 34) hg dX4_endChange_31 rfl fl_X4_50 (by first | assumption | decide | omega | (simp only [nO]; omega)) rfl ?_
  refine wm_aload_n (q := 35) (i := 0) hg dX4_endChange_34 rfl rfl rfl ?_
  refine wm_get (q := 38) hg dX4_endChange_35 rfl fl_X4_10 (by first | assumption | decide | omega | (simp only [nO]; omega)) rfl ?_
  refine wm_get (q := 41) hg dX4_endChange_38 rfl fl_X4_64 (by first | assumption | decide | omega | (simp only [nO]; omega)) rfl ?_
  refine wm_callV1 (q := 44) hg dX4_endChange_41 rfl lk_X4_73 (by first | decide | omega) (c_settle_b (by decide) (by rw [sO_kind _ _ _ _ (by decide)]; exact hz) (by decide) (by rw [sO_same]; exact okB_w hB _ (by decide))) (by first | assumption | decide | omega | (simp only [nO]; omega)) ⟨rfl, by decide⟩ rfl rfl (Nat.le_of_ble_eq_true rfl) ?_
  exact wm_iret hg hr dX4_endChange_44 (by rw [sO_kind _ _ _ _ (by decide), sO_same]; rfl) (by rw [sO_kind _ _ _ _ (by decide), sO_same]; rw [sO_comm M 0 0 _ _ (Or.inl (by decide)), sO_sO]; rfl)
