/-! ===== the reference: loop ===== -/
theorem ofI_to {z : Int} (h1 : -(2 ^ 31) ≤ z) (h2 : z < 2 ^ 31) : (Int32.ofInt z).toInt = z := by rw [Int32.toInt_ofInt]; exact bm32 h1 h2
theorem zb_b {z : Int} {b : Nat} (h1 : -100 ≤ z) (h2 : z ≤ 100) (hb : b ≤ 100) : -10000 ≤ z * b ∧ z * b ≤ 10000 := by
  have hb2 : (b : Int) ≤ 100 := by omega
  have hb0 : (0 : Int) ≤ b := by omega
  have := Int.mul_le_mul_of_nonneg_right h2 hb0
  have := Int.mul_le_mul_of_nonneg_right h1 hb0
  omega
theorem zb_to {z : Int} {b : Nat} (h1 : -100 ≤ z) (h2 : z ≤ 100) (hb : b ≤ 100) : (Int32.ofInt (z * b)).toInt = z * b := by
  have := zb_b h1 h2 hb
  exact ofI_to (by omega) (by omega)
theorem zb_up {z : Int} {b : Nat} (h1 : -100 ≤ z) (h2 : z < 100) (hb : b ≤ 100) : Int32.ofInt (z * b) + nI b = Int32.ofInt ((z + 1) * b) := by
  apply Int32.toInt_inj.mp
  have := zb_b h1 (Int.le_of_lt h2) hb
  have hx := zb_b (z := z + 1) (by omega) (by omega) hb
  rw [zb_to (by omega) (by omega) hb, Int32.toInt_add, zb_to h1 (by omega) hb, nI_toInt (by omega), Int.add_mul, Int.one_mul]
  rw [Int.add_mul, Int.one_mul] at hx
  exact bm32 (by omega) (by omega)
theorem zb_dn {z : Int} {b : Nat} (h1 : -100 < z) (h2 : z ≤ 100) (hb : b ≤ 100) : Int32.ofInt (z * b) - nI b = Int32.ofInt ((z - 1) * b) := by
  apply Int32.toInt_inj.mp
  have := zb_b (Int.le_of_lt h1) h2 hb
  have hx := zb_b (z := z - 1) (by omega) (by omega) hb
  rw [zb_to (by omega) (by omega) hb, Int32.toInt_sub, zb_to (by omega) h2 hb, nI_toInt (by omega), Int.sub_mul, Int.one_mul]
  rw [Int.sub_mul, Int.one_mul] at hx
  exact bm32 (by omega) (by omega)
theorem zb_n (u b : Nat) : nI (u * b) = Int32.ofInt ((u : Int) * b) := by
  rw [show ((u : Int) * b) = ((u * b : Nat) : Int) by omega]
  rfl
theorem zb_lt {z y : Int} {b : Nat} (h1 : -100 ≤ z) (h2 : z ≤ 100) (g1 : -100 ≤ y) (g2 : y ≤ 100) (hb1 : 1 ≤ b) (hb : b ≤ 100) : Int32.ofInt (z * b) < Int32.ofInt (y * b) ↔ z < y := by
  rw [Int32.lt_iff_toInt_lt, zb_to h1 h2 hb, zb_to g1 g2 hb]
  exact ⟨fun h => Int.lt_of_mul_lt_mul_right h (by omega), fun h => Int.mul_lt_mul_of_pos_right h (by omega)⟩
/-- how many steps up at place k -/
def zk (u k : Nat) : Int := if u < k then (if 3 * u < k then (k : Int) - 4 * u else 2 * u - k) else k
theorem su_z {u k b : Nat} (hu : u ≤ 10) (hk : k ≤ 60) (hb : b ≤ 100) : stepsUp (nI k) (nI u) * nI b = Int32.ofInt (zk u k * b) := by
  have e3 : (3 : Int32) * nI u = nI (3 * u) := pk_mul 3 u
  have e4 : (4 : Int32) * nI u = nI (4 * u) := pk_mul 4 u
  have e2 : (2 : Int32) * nI u = nI (2 * u) := pk_mul 2 u
  have hz : -100 ≤ zk u k ∧ zk u k ≤ 100 := by unfold zk; (repeat' split) <;> omega
  have hs : (stepsUp (nI k) (nI u)).toInt = zk u k := by
    unfold stepsUp zk
    rw [e3, e4, e2]
    by_cases h1 : u < k
    · rw [if_pos (nI_lt h1 (by omega)), if_pos h1]
      by_cases h2 : 3 * u < k
      · rw [if_pos (nI_lt h2 (by omega)), if_pos h2, Int32.toInt_sub, nI_toInt (by omega), nI_toInt (by omega), bm32 (by omega) (by omega)]
        omega
      · rw [if_neg (nI_nlt (a := 3 * u) (b := k) (by omega) (by omega)), if_neg h2, Int32.toInt_sub, nI_toInt (by omega), nI_toInt (by omega), bm32 (by omega) (by omega)]
        omega
    · rw [if_neg (nI_nlt (a := u) (b := k) (by omega) (by omega)), if_neg h1, nI_toInt (by omega)]
  apply Int32.toInt_inj.mp
  have hx := zb_b hz.1 hz.2 hb
  rw [zb_to hz.1 hz.2 hb, Int32.toInt_mul, hs, nI_toInt (by omega)]
  exact bm32 (by omega) (by omega)
/-- what the loop leaves alone -/
def RKl (R R' : OV) : Prop := (∀ s, s ≠ 0 → R'.2 s = R.2 s) ∧ ∀ j, j < 10 → R'.1 j = R.1 j
theorem RKl.rf (R : OV) : RKl R R := ⟨fun _ _ => rfl, fun _ _ => rfl⟩
theorem RKl.tr {R S T : OV} (h : RKl R S) (k : RKl S T) : RKl R T := ⟨fun s a => (k.1 s a).trans (h.1 s a), fun j a => (k.2 j a).trans (h.2 j a)⟩
theorem RKl_A {R : OV} (f : Nat → Int32) : RKl R (oA R 0 f) := ⟨fun _ a => updA_ne _ _ a, fun _ _ => rfl⟩
theorem RKl_I {R : OV} {s : Nat} (v : Int32) (h : 10 ≤ s) : RKl R (oI R s v) := ⟨fun _ _ => rfl, fun t a => upd_ne _ _ (by omega)⟩
theorem lpI_f (up step : Int32) (X : OV) : ∀ k j, j ≠ 6 → (lpI up step X k).1.1 j = X.1 j
  | 0, _, _ => rfl
  | k + 1, j, hj => by
    show (stR (oI (lpI up step X k).1 6 _)).2.1 j = _
    rw [stR_1, oI_x _ _ hj]
    exact lpI_f up step X k j hj
def LQ (R0 R : OV) (s : LoS) : Prop := (∃ B, RWs (R.2 0) s.1 B) ∧ R.1 10 = s.2.2.2.2.1 ∧ R.1 11 = s.2.1 ∧ R.1 12 = s.2.2.1 ∧ R.1 13 = s.2.2.2.1 ∧ RKl R0 R
set_option maxRecDepth 100000 in
set_option maxHeartbeats 4000000 in
theorem c_X5_to {Γ : GT} {M : Mem} {R X B : OV} {h s : Int32} (hW : RWs (R.2 0) X B) (hs : s = X.1 7) : CtR Γ yX5_to cX5_to 3 (some .int) 6 [.ref (ad Γ 5 0 0), .int h, .int s] M R (some (.int (lpP (stR (oI X 6 h)).2))) (fun R' => ∃ w, R' = oI (oA R 0 w) 10 (R.1 10 + nI (stR (oI X 6 h)).1) ∧ ∃ C, RWs w (stR (oI X 6 h)).2 C) := by
  refine ctr_of (by decide) (Nat.le_of_ble_eq_true rfl) (fun K hg hr => ?_)
  show WM Γ K _ [(0, _), (1, _), (2, _)] 0 []
  subst hs
  have hge : ¬ (0 : Int32) ≤ h → h < 0 := fun z => Int32.not_le.mp z
  have hlt : (0 : Int32) ≤ h → ¬ h < 0 := fun z => Int32.not_lt.mpr z
  refine wm_aload_n (q := 1) (i := 0) hg dX5_to_0 rfl rfl rfl ?_
  refine wm_get (q := 4) hg dX5_to_1 rfl fl_X5_7 (by first | assumption | decide | omega | (simp only [nO]; omega)) rfl ?_
  refine wm_bipush (q := 6) 33 hg dX5_to_4 rfl (by decide) ?_
  refine wm_iload_n (q := 7) (i := 1) hg dX5_to_6 rfl rfl rfl ?_
  refine wm_if_ge (q := 15) (q2 := 10) hg dX5_to_7 (by decide) rfl (fun g1 => ?_) (fun g1 => ?_)
  · refine wm_iload_n (q := 16) (i := 1) hg dX5_to_15 rfl rfl rfl ?_
    refine wm_rstore (q := 17) 33 hg dX5_to_16 rfl rfl (rfl : (33 : Int32) = nI 33) (by simp only [alen]; omega) ?_
    refine wm_R (R' := oA R 0 (upd (R.2 0) 33 (hW3 h))) (by unfold hW3; rw [if_neg (hlt g1)]) ?_
    refine wm_aload_n (q := 18) (i := 0) hg dX5_to_17 rfl rfl rfl ?_
    refine wm_get (q := 21) hg dX5_to_18 rfl fl_X5_7 (by first | assumption | decide | omega | (simp only [nO]; omega)) rfl ?_
    refine wm_bipush (q := 23) 34 hg dX5_to_21 rfl (by decide) ?_
    refine wm_iload_n (q := 24) (i := 1) hg dX5_to_23 rfl rfl rfl ?_
    refine wm_if_ge (q := 36) (q2 := 27) hg dX5_to_24 (by decide) rfl (fun g2 => ?_) (fun g2 => ?_)
    · refine wm_iload_n (q := 37) (i := 2) hg dX5_to_36 rfl rfl rfl ?_
      refine wm_rstore (q := 38) 34 hg dX5_to_37 rfl rfl (rfl : (34 : Int32) = nI 34) (by simp only [alen]; omega) ?_
      refine wm_R (R' := oA R 0 (upd (upd (R.2 0) 33 (hW3 h)) 34 (hW4 h (X.1 7)))) ((oA_st rfl).trans (by unfold hW4; rw [if_neg (hlt g2)])) ?_
      have hWe : RWs ((oA R 0 (upd (upd (R.2 0) 33 (hW3 h)) 34 (hW4 h (X.1 7)))).2 0) (oI X 6 h) B := by rw [oA_w]; exact RWs_h hW h
      refine wm_aload_n (q := 39) (i := 0) hg dX5_to_38 rfl rfl rfl ?_
      refine wm_dup (q := 40) hg dX5_to_39 rfl rfl ?_
      refine wm_rget (q := 43) hg dX5_to_40 rfl fl_X5_144 rfl ?_
      refine wm_aload_n (q := 44) (i := 0) hg dX5_to_43 rfl rfl rfl ?_
      refine wm_callR1 (q := 47) hg dX5_to_44 rfl lk_X5_99 (by first | decide | omega) (c_X5_settle (X := oI X 6 h) (B := B) hWe) (by first | assumption | decide | omega | (simp only [nO]; omega)) ⟨rfl, by decide⟩ rfl rfl (Nat.le_of_ble_eq_true rfl) (fun R2 hR2 => ?_)
      obtain ⟨w2, rfl, hw2, -, -⟩ := hR2
      rw [(stQ_R (oI X 6 h) B).2] at hw2
      generalize (stQ (oI X 6 h) B).2.2 = C at hw2
      refine wm_iadd (q := 48) hg dX5_to_47 rfl ?_
      refine wm_rput (q := 51) hg dX5_to_48 rfl fl_X5_144 rfl ?_
      refine wm_R (R' := oI (oA R 0 w2) 10 (R.1 10 + nI (stR (oI X 6 h)).1)) (by rw [(stQ_R (oI X 6 h) B).1]; simp only [oA, updA_updA]) ?_
      refine wm_aload_n (q := 52) (i := 0) hg dX5_to_51 rfl rfl rfl ?_
      refine wm_iload_n (q := 53) (i := 2) hg dX5_to_52 rfl rfl rfl ?_
      refine wm_callV1 (q := 56) hg dX5_to_53 rfl lk_X5_135 (by first | decide | omega) (c_X5_pointsTo (X := (stR (oI X 6 h)).2) hw2.1.1 (by rw [oA_w] at *; exact hw2.2.1)) (by first | assumption | decide | omega | (simp only [nO]; omega)) ⟨rfl, by decide⟩ rfl rfl (Nat.le_of_ble_eq_true rfl) ?_
      exact wm_irret hg hr dX5_to_56 (by unfold lpP; rw [stR_1, oI_x _ _ (by decide)]) (⟨w2, rfl, C, hw2⟩)
    · refine wm_iload_n (q := 28) (i := 2) hg dX5_to_27 rfl rfl rfl ?_
      refine wm_iconst (q := 29) 4 hg dX5_to_28 rfl (by decide) ?_
      refine wm_iadd (q := 30) hg dX5_to_29 rfl ?_
      refine wm_bipush (q := 32) 8 hg dX5_to_30 rfl (by decide) ?_
      refine wm_irem (q := 33) hg dX5_to_32 rfl (by decide) ?_
      refine wm_goto (q := 37) hg dX5_to_33 (by decide) ?_
      refine wm_rstore (q := 38) 34 hg dX5_to_37 rfl rfl (rfl : (34 : Int32) = nI 34) (by simp only [alen]; omega) ?_
      refine wm_R (R' := oA R 0 (upd (upd (R.2 0) 33 (hW3 h)) 34 (hW4 h (X.1 7)))) ((oA_st rfl).trans (by unfold hW4; rw [if_pos (hge g2)]; rfl)) ?_
      have hWe : RWs ((oA R 0 (upd (upd (R.2 0) 33 (hW3 h)) 34 (hW4 h (X.1 7)))).2 0) (oI X 6 h) B := by rw [oA_w]; exact RWs_h hW h
      refine wm_aload_n (q := 39) (i := 0) hg dX5_to_38 rfl rfl rfl ?_
      refine wm_dup (q := 40) hg dX5_to_39 rfl rfl ?_
      refine wm_rget (q := 43) hg dX5_to_40 rfl fl_X5_144 rfl ?_
      refine wm_aload_n (q := 44) (i := 0) hg dX5_to_43 rfl rfl rfl ?_
      refine wm_callR1 (q := 47) hg dX5_to_44 rfl lk_X5_99 (by first | decide | omega) (c_X5_settle (X := oI X 6 h) (B := B) hWe) (by first | assumption | decide | omega | (simp only [nO]; omega)) ⟨rfl, by decide⟩ rfl rfl (Nat.le_of_ble_eq_true rfl) (fun R2 hR2 => ?_)
      obtain ⟨w2, rfl, hw2, -, -⟩ := hR2
      rw [(stQ_R (oI X 6 h) B).2] at hw2
      generalize (stQ (oI X 6 h) B).2.2 = C at hw2
      refine wm_iadd (q := 48) hg dX5_to_47 rfl ?_
      refine wm_rput (q := 51) hg dX5_to_48 rfl fl_X5_144 rfl ?_
      refine wm_R (R' := oI (oA R 0 w2) 10 (R.1 10 + nI (stR (oI X 6 h)).1)) (by rw [(stQ_R (oI X 6 h) B).1]; simp only [oA, updA_updA]) ?_
      refine wm_aload_n (q := 52) (i := 0) hg dX5_to_51 rfl rfl rfl ?_
      refine wm_iload_n (q := 53) (i := 2) hg dX5_to_52 rfl rfl rfl ?_
      refine wm_callV1 (q := 56) hg dX5_to_53 rfl lk_X5_135 (by first | decide | omega) (c_X5_pointsTo (X := (stR (oI X 6 h)).2) hw2.1.1 (by rw [oA_w] at *; exact hw2.2.1)) (by first | assumption | decide | omega | (simp only [nO]; omega)) ⟨rfl, by decide⟩ rfl rfl (Nat.le_of_ble_eq_true rfl) ?_
      exact wm_irret hg hr dX5_to_56 (by unfold lpP; rw [stR_1, oI_x _ _ (by decide)]) (⟨w2, rfl, C, hw2⟩)
  · refine wm_iload_n (q := 11) (i := 1) hg dX5_to_10 rfl rfl rfl ?_
    refine wm_ineg (q := 12) hg dX5_to_11 rfl ?_
    refine wm_goto (q := 16) hg dX5_to_12 (by decide) ?_
    refine wm_rstore (q := 17) 33 hg dX5_to_16 rfl rfl (rfl : (33 : Int32) = nI 33) (by simp only [alen]; omega) ?_
    refine wm_R (R' := oA R 0 (upd (R.2 0) 33 (hW3 h))) (by unfold hW3; rw [if_pos (hge g1)]) ?_
    refine wm_aload_n (q := 18) (i := 0) hg dX5_to_17 rfl rfl rfl ?_
    refine wm_get (q := 21) hg dX5_to_18 rfl fl_X5_7 (by first | assumption | decide | omega | (simp only [nO]; omega)) rfl ?_
    refine wm_bipush (q := 23) 34 hg dX5_to_21 rfl (by decide) ?_
    refine wm_iload_n (q := 24) (i := 1) hg dX5_to_23 rfl rfl rfl ?_
    refine wm_if_ge (q := 36) (q2 := 27) hg dX5_to_24 (by decide) rfl (fun g2 => ?_) (fun g2 => ?_)
    · refine wm_iload_n (q := 37) (i := 2) hg dX5_to_36 rfl rfl rfl ?_
      refine wm_rstore (q := 38) 34 hg dX5_to_37 rfl rfl (rfl : (34 : Int32) = nI 34) (by simp only [alen]; omega) ?_
      refine wm_R (R' := oA R 0 (upd (upd (R.2 0) 33 (hW3 h)) 34 (hW4 h (X.1 7)))) ((oA_st rfl).trans (by unfold hW4; rw [if_neg (hlt g2)])) ?_
      have hWe : RWs ((oA R 0 (upd (upd (R.2 0) 33 (hW3 h)) 34 (hW4 h (X.1 7)))).2 0) (oI X 6 h) B := by rw [oA_w]; exact RWs_h hW h
      refine wm_aload_n (q := 39) (i := 0) hg dX5_to_38 rfl rfl rfl ?_
      refine wm_dup (q := 40) hg dX5_to_39 rfl rfl ?_
      refine wm_rget (q := 43) hg dX5_to_40 rfl fl_X5_144 rfl ?_
      refine wm_aload_n (q := 44) (i := 0) hg dX5_to_43 rfl rfl rfl ?_
      refine wm_callR1 (q := 47) hg dX5_to_44 rfl lk_X5_99 (by first | decide | omega) (c_X5_settle (X := oI X 6 h) (B := B) hWe) (by first | assumption | decide | omega | (simp only [nO]; omega)) ⟨rfl, by decide⟩ rfl rfl (Nat.le_of_ble_eq_true rfl) (fun R2 hR2 => ?_)
      obtain ⟨w2, rfl, hw2, -, -⟩ := hR2
      rw [(stQ_R (oI X 6 h) B).2] at hw2
      generalize (stQ (oI X 6 h) B).2.2 = C at hw2
      refine wm_iadd (q := 48) hg dX5_to_47 rfl ?_
      refine wm_rput (q := 51) hg dX5_to_48 rfl fl_X5_144 rfl ?_
      refine wm_R (R' := oI (oA R 0 w2) 10 (R.1 10 + nI (stR (oI X 6 h)).1)) (by rw [(stQ_R (oI X 6 h) B).1]; simp only [oA, updA_updA]) ?_
      refine wm_aload_n (q := 52) (i := 0) hg dX5_to_51 rfl rfl rfl ?_
      refine wm_iload_n (q := 53) (i := 2) hg dX5_to_52 rfl rfl rfl ?_
      refine wm_callV1 (q := 56) hg dX5_to_53 rfl lk_X5_135 (by first | decide | omega) (c_X5_pointsTo (X := (stR (oI X 6 h)).2) hw2.1.1 (by rw [oA_w] at *; exact hw2.2.1)) (by first | assumption | decide | omega | (simp only [nO]; omega)) ⟨rfl, by decide⟩ rfl rfl (Nat.le_of_ble_eq_true rfl) ?_
      exact wm_irret hg hr dX5_to_56 (by unfold lpP; rw [stR_1, oI_x _ _ (by decide)]) (⟨w2, rfl, C, hw2⟩)
    · refine wm_iload_n (q := 28) (i := 2) hg dX5_to_27 rfl rfl rfl ?_
      refine wm_iconst (q := 29) 4 hg dX5_to_28 rfl (by decide) ?_
      refine wm_iadd (q := 30) hg dX5_to_29 rfl ?_
      refine wm_bipush (q := 32) 8 hg dX5_to_30 rfl (by decide) ?_
      refine wm_irem (q := 33) hg dX5_to_32 rfl (by decide) ?_
      refine wm_goto (q := 37) hg dX5_to_33 (by decide) ?_
      refine wm_rstore (q := 38) 34 hg dX5_to_37 rfl rfl (rfl : (34 : Int32) = nI 34) (by simp only [alen]; omega) ?_
      refine wm_R (R' := oA R 0 (upd (upd (R.2 0) 33 (hW3 h)) 34 (hW4 h (X.1 7)))) ((oA_st rfl).trans (by unfold hW4; rw [if_pos (hge g2)]; rfl)) ?_
      have hWe : RWs ((oA R 0 (upd (upd (R.2 0) 33 (hW3 h)) 34 (hW4 h (X.1 7)))).2 0) (oI X 6 h) B := by rw [oA_w]; exact RWs_h hW h
      refine wm_aload_n (q := 39) (i := 0) hg dX5_to_38 rfl rfl rfl ?_
      refine wm_dup (q := 40) hg dX5_to_39 rfl rfl ?_
      refine wm_rget (q := 43) hg dX5_to_40 rfl fl_X5_144 rfl ?_
      refine wm_aload_n (q := 44) (i := 0) hg dX5_to_43 rfl rfl rfl ?_
      refine wm_callR1 (q := 47) hg dX5_to_44 rfl lk_X5_99 (by first | decide | omega) (c_X5_settle (X := oI X 6 h) (B := B) hWe) (by first | assumption | decide | omega | (simp only [nO]; omega)) ⟨rfl, by decide⟩ rfl rfl (Nat.le_of_ble_eq_true rfl) (fun R2 hR2 => ?_)
      obtain ⟨w2, rfl, hw2, -, -⟩ := hR2
      rw [(stQ_R (oI X 6 h) B).2] at hw2
      generalize (stQ (oI X 6 h) B).2.2 = C at hw2
      refine wm_iadd (q := 48) hg dX5_to_47 rfl ?_
      refine wm_rput (q := 51) hg dX5_to_48 rfl fl_X5_144 rfl ?_
      refine wm_R (R' := oI (oA R 0 w2) 10 (R.1 10 + nI (stR (oI X 6 h)).1)) (by rw [(stQ_R (oI X 6 h) B).1]; simp only [oA, updA_updA]) ?_
      refine wm_aload_n (q := 52) (i := 0) hg dX5_to_51 rfl rfl rfl ?_
      refine wm_iload_n (q := 53) (i := 2) hg dX5_to_52 rfl rfl rfl ?_
      refine wm_callV1 (q := 56) hg dX5_to_53 rfl lk_X5_135 (by first | decide | omega) (c_X5_pointsTo (X := (stR (oI X 6 h)).2) hw2.1.1 (by rw [oA_w] at *; exact hw2.2.1)) (by first | assumption | decide | omega | (simp only [nO]; omega)) ⟨rfl, by decide⟩ rfl rfl (Nat.le_of_ble_eq_true rfl) ?_
      exact wm_irret hg hr dX5_to_56 (by unfold lpP; rw [stR_1, oI_x _ _ (by decide)]) (⟨w2, rfl, C, hw2⟩)
