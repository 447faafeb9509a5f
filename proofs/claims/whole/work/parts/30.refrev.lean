/-! ===== the reference: reverse ===== -/
theorem rec_last {N : Mem} (h : HU N) : 1 ≤ unN (recM N) ∧ unN (recM N) ≤ 8 ∧ (recM N).1 1 ((recM N).2 (unN (recM N) - 1)) = N.1 1 0 ∧ (recM N).1 0 ((recM N).2 (unN (recM N) - 1)) = N.1 0 0 := by
  unfold recM
  split
  · next h8 =>
    have hl := un_lt h h8
    obtain ⟨u1, -⟩ := un_reY h hl
    rw [u1, Nat.add_sub_cancel]
    exact ⟨by omega, by omega, reY_atc N, reY_atb N⟩
  · have hD := HU_dr h
    have hd := unN_dr N
    obtain ⟨u1, -⟩ := un_reY hD (by omega)
    rw [u1, Nat.add_sub_cancel]
    refine ⟨by omega, by omega, ?_, ?_⟩
    · exact (reY_atc (drM N)).trans (drM_kind 0 (by decide))
    · exact (reY_atb (drM N)).trans (drM_kind 0 (by decide))
theorem apX_at (X Y : OV) (f k : Nat) : (apX X Y f).2 1 k = (if k = szN X then Y.2 1 f else X.2 1 k) ∧ (apX X Y f).2 2 k = (if k = szN X then Y.2 2 f else X.2 2 k) ∧ (apX X Y f).2 3 k = (if k = szN X then Y.2 3 f else X.2 3 k) := st3_at X (szN X) k _ _ _
theorem rvL_at (C X : OV) : ∀ j, j ≤ 10 → ∀ k, k < j → (rvL C X j).2 1 k = X.2 1 (szN X - k - 1) ∧ (rvL C X j).2 2 k = X.2 2 (szN X - k - 1) ∧ (rvL C X j).2 3 k = X.2 3 (szN X - k - 1)
  | 0, _, k, hk => absurd hk (Nat.not_lt_zero k)
  | j + 1, hj, k, hk => by
    obtain ⟨a1, a2, a3⟩ := apX_at (rvL C X j) X (szN X - j - 1) k
    have hs := (rvL_ok C X j (by omega)).2
    show (apX (rvL C X j) X (szN X - j - 1)).2 1 k = _ ∧ (apX (rvL C X j) X (szN X - j - 1)).2 2 k = _ ∧ (apX (rvL C X j) X (szN X - j - 1)).2 3 k = _
    rw [a1, a2, a3, hs]
    by_cases hkj : k = j
    · subst hkj
      simp only [if_pos]
      exact ⟨trivial, trivial, trivial⟩
    · simp only [if_neg hkj]
      exact rvL_at C X j (by omega) k (by omega)
def miV (g : Int32) : Int32 := if g = -1000000009 then -1000000009 else (4 - g) &&& 7
theorem miL_at (X : OV) : ∀ i k, (miL X i).2 1 k = (if k < i then (4 - X.2 1 k) &&& 7 else X.2 1 k) ∧ (miL X i).2 2 k = X.2 2 k ∧ (miL X i).2 3 k = (if k < i then miV (X.2 3 k) else X.2 3 k)
  | 0, k => by
    rw [if_neg (Nat.not_lt_zero k), if_neg (Nat.not_lt_zero k)]
    exact ⟨rfl, rfl, rfl⟩
  | i + 1, k => by
    obtain ⟨h1, h2, h3⟩ := miL_at X i k
    obtain ⟨g1, -, g3⟩ := miL_at X i i
    rw [if_neg (Nat.lt_irrefl i)] at g1 g3
    by_cases hz : X.2 3 i = -1000000009
    · have e : miL X (i + 1) = oA (miL X i) 1 (upd ((miL X i).2 1) i ((4 - (miL X i).2 1 i) &&& 7)) := if_pos (g3.trans hz)
      rw [e]
      by_cases hk : k = i
      · subst hk
        rw [if_pos (by omega), if_pos (by omega)]
        refine ⟨?_, ?_, ?_⟩
        · simp only [updA_same, upd_same, g1]
        · simp only [updA_ne _ _ (show (2:Nat) ≠ 1 by decide), h2]
        · simp only [updA_ne _ _ (show (3:Nat) ≠ 1 by decide), g3, miV, if_pos hz]; exact hz
      · have hc : (k < i + 1) = (k < i) := propext ⟨fun z => by omega, fun z => by omega⟩
        simp only [hc]
        refine ⟨?_, ?_, ?_⟩
        · simp only [updA_same, upd_ne _ _ hk, h1]
        · simp only [updA_ne _ _ (show (2:Nat) ≠ 1 by decide), h2]
        · simp only [updA_ne _ _ (show (3:Nat) ≠ 1 by decide), h3]
    · have e : miL X (i + 1) = oA (oA (miL X i) 1 (upd ((miL X i).2 1) i ((4 - (miL X i).2 1 i) &&& 7))) 3 (upd ((miL X i).2 3) i ((4 - (miL X i).2 3 i) &&& 7)) := if_neg (fun z => hz (g3.symm.trans z))
      rw [e]
      by_cases hk : k = i
      · subst hk
        rw [if_pos (by omega), if_pos (by omega)]
        refine ⟨?_, ?_, ?_⟩
        · simp only [updA_ne _ _ (show (1:Nat) ≠ 3 by decide), updA_same, upd_same, g1]
        · simp only [updA_ne _ _ (show (2:Nat) ≠ 3 by decide), updA_ne _ _ (show (2:Nat) ≠ 1 by decide), h2]
        · simp only [updA_same, upd_same, g3, miV, if_neg hz]
      · have hc : (k < i + 1) = (k < i) := propext ⟨fun z => by omega, fun z => by omega⟩
        simp only [hc]
        refine ⟨?_, ?_, ?_⟩
        · simp only [updA_ne _ _ (show (1:Nat) ≠ 3 by decide), updA_same, upd_ne _ _ hk, h1]
        · simp only [updA_ne _ _ (show (2:Nat) ≠ 3 by decide), updA_ne _ _ (show (2:Nat) ≠ 1 by decide), h2]
        · simp only [updA_same, upd_ne _ _ hk, h3]
theorem rvR_at {C X : OV} (hX : ok10 X) : (rvR C X).1 0 = X.1 0 ∧ ∀ k, k < szN X → (rvR C X).2 1 k = (4 - X.2 1 (szN X - k - 1)) &&& 7 ∧ (rvR C X).2 2 k = X.2 2 (szN X - k - 1) ∧ (rvR C X).2 3 k = miV (X.2 3 (szN X - k - 1)) := by
  obtain ⟨o1, o2⟩ := rvL_ok C X (szN X) hX.2
  refine ⟨?_, fun k hk => ?_⟩
  · unfold rvR
    rw [miL_1, o1.1, o2]
    exact hX.1.symm
  · obtain ⟨m1, m2, m3⟩ := miL_at (rvL C X (szN X)) (szN (rvL C X (szN X))) k
    obtain ⟨r1, r2, r3⟩ := rvL_at C X (szN X) hX.2 k hk
    unfold rvR
    rw [m1, m2, m3, o2, if_pos hk, if_pos hk, r1, r2, r3]
    exact ⟨rfl, rfl, rfl⟩
theorem mirr_and {a : Nat} (h : a < 8) : rem8 (12 - nI a) = (4 - nI a) &&& 7 := by
  rcases (show a = 0 ∨ a = 1 ∨ a = 2 ∨ a = 3 ∨ a = 4 ∨ a = 5 ∨ a = 6 ∨ a = 7 by omega) with rfl | rfl | rfl | rfl | rfl | rfl | rfl | rfl <;> decide
theorem nI_none {a : Nat} (h : a < 8) : nI a ≠ -1000000009 := by
  intro z
  have := congrArg Int32.toInt z
  rw [nI_toInt (by omega), show (-1000000009 : Int32).toInt = -1000000009 from by decide] at this
  omega
set_option maxRecDepth 100000 in
set_option maxHeartbeats 4000000 in
theorem c_X5_reverse0 {Γ : GT} {M N : Mem} {R Y : OV} (hR : RI N R) (hY0 : Y.1 0 = (N.1 1 0).1 0) (hY : ∀ k, k < szN (N.1 1 0) → Y.2 1 k = (4 - (N.1 1 0).2 1 (szN (N.1 1 0) - k - 1)) &&& 7 ∧ Y.2 2 k = (N.1 1 0).2 2 (szN (N.1 1 0) - k - 1) ∧ Y.2 3 k = miV ((N.1 1 0).2 3 (szN (N.1 1 0) - k - 1))) : CtR Γ yX5_reverse cX5_reverse 7 (some .int) 7 [.ref (ad Γ 5 0 0)] M R (some (.int (dfS (N.1 1 0) Y (szN (N.1 1 0))))) (fun R' => RI (chM N (tmX (N.1 1 0) Y) (N.1 0 0)) R') := by
  refine ctr_of (by decide) (Nat.le_of_ble_eq_true rfl) (fun K hg hr => ?_)
  show WM Γ K _ [(0, _)] 0 []
  have hz : ok10 (N.1 1 0) := hR.1.2.1 0 (by decide)
  have hz1 := hz.1
  have hz2 := hz.2
  have hX0 : R.2 0 0 = (N.1 1 0).1 0 := hR.2.1.1.2.1.1
  refine wm_aload_n (q := 1) (i := 0) hg dX5_reverse_0 rfl rfl rfl ?_
  refine wm_callR0 (q := 4) hg dX5_reverse_1 rfl lk_X5_103 (by first | decide | omega) (c_X5_record (N := N) hR.1.1 hR.2.2.1 hR.2.1) (by first | assumption | decide | omega | (simp only [nO]; omega)) ⟨rfl, by decide⟩ rfl rfl (Nat.le_of_ble_eq_true rfl) (fun R1 ⟨hs1, hw1, hH1⟩ => ?_)
  have hW1 : RW (R1.2 0) (N.1 1 0) (N.1 0 0) := by rw [hw1]; exact hR.2.1
  have hR10 : R1.2 0 0 = nI (szN (N.1 1 0)) := by rw [hw1, hX0, hz1]
  obtain ⟨l1, l2, l3, l4⟩ := rec_last hR.1.1
  have hP := hH1.2 _ (Nat.sub_one_lt_of_lt l1)
  rw [l3, l4] at hP
  have hc1 := hH1.1
  generalize unN (recM N) = c at l1 l2 hP hc1
  have hrd : ∀ k, k < szN (N.1 1 0) → R1.2 1 (130 * (c - 1) + (1 + k)) = (N.1 1 0).2 1 k ∧ R1.2 1 (130 * (c - 1) + (11 + k)) = (N.1 1 0).2 2 k ∧ R1.2 1 (130 * (c - 1) + (21 + k)) = (N.1 1 0).2 3 k := hP.1.2.1.2.1
  refine wm_aload_n (q := 5) (i := 0) hg dX5_reverse_4 rfl rfl rfl ?_
  refine wm_callV1 (q := 8) hg dX5_reverse_5 rfl lk_X5_95 (by first | decide | omega) (c_X5_energy (X := N.1 1 0) hz hW1.1.2.1) (by first | assumption | decide | omega | (simp only [nO]; omega)) ⟨rfl, by decide⟩ rfl rfl (Nat.le_of_ble_eq_true rfl) ?_
  refine wm_istore_n (q := 9) (i := 1) (L' := [(0, _), (1, _)]) hg dX5_reverse_8 rfl rfl rfl rfl ?_
  refine wm_aload_n (q := 10) (i := 0) hg dX5_reverse_9 rfl rfl rfl ?_
  refine wm_get (q := 13) hg dX5_reverse_10 rfl fl_X5_7 (by first | assumption | decide | omega | (simp only [nO]; omega)) rfl ?_
  refine wm_iconst (q := 14) 0 hg dX5_reverse_13 rfl (by decide) ?_
  refine wm_rload (q := 15) 0 hg dX5_reverse_14 rfl rfl (rfl : (0 : Int32) = nI 0) (by simp only [alen]; omega) ?_
  refine wm_istore_n (q := 16) (i := 2) (L' := [(0, _), (1, _), (2, _)]) hg dX5_reverse_15 rfl rfl rfl rfl ?_
  refine wm_iconst (q := 17) 0 hg dX5_reverse_16 rfl (by decide) ?_
  refine wm_istore_n (q := 18) (i := 3) (L' := [(0, _), (1, _), (2, _), (3, _)]) hg dX5_reverse_17 rfl rfl rfl rfl ?_
  refine wm_iconst (q := 19) 0 hg dX5_reverse_18 rfl (by decide) ?_
  refine wm_istore (q := 21) (i := 4) (L' := [(0, _), (1, _), (2, _), (3, _), (4, _)]) hg dX5_reverse_19 rfl rfl rfl ?_
  suffices hloop : ∀ (n i : Nat), i + n = (szN (N.1 1 0)) → WM Γ K (sR M R1) [(0, .ref (ad Γ 5 0 0)), (1, .int (energy (N.1 1 0))), (2, .int (R1.2 0 0)), (3, .int (dfS (N.1 1 0) Y i)), (4, .int (nI i))] 21 [] from hloop (szN (N.1 1 0)) 0 (by omega)
  intro n
  induction n with
  | zero =>
    intro i hi 
    refine wm_iload (q := 23) (i := 4) hg dX5_reverse_21 rfl rfl ?_
    refine wm_iload_n (q := 24) (i := 2) hg dX5_reverse_23 rfl rfl rfl ?_
    refine wm_icmp_ge (q := 91) (q2 := 27) hg dX5_reverse_24 (by decide) rfl (fun hb => ?_) (fun hb => ?_)
    · have he : i = szN (N.1 1 0) := by omega
      subst he
      have hY9 := hY
      refine wm_iconst (q := 92) 0 hg dX5_reverse_91 rfl (by decide) ?_
      refine wm_istore (q := 94) (i := 4) (L' := [(0, _), (1, _), (2, _), (3, _), (4, _)]) hg dX5_reverse_92 rfl rfl rfl ?_
      suffices hloop : ∀ (n i : Nat), i + n = (szN (N.1 1 0)) → ∀ w : Nat → Int32, (∀ k, k < i → w (1 + k) = Y.2 1 k ∧ w (11 + k) = Y.2 2 k ∧ w (21 + k) = Y.2 3 k) → w 0 = R1.2 0 0 → (∀ k, 31 ≤ k → w k = R1.2 0 k) → WM Γ K (sR M (oA R1 0 w)) [(0, .ref (ad Γ 5 0 0)), (1, .int (energy (N.1 1 0))), (2, .int (R1.2 0 0)), (3, .int (dfS (N.1 1 0) Y (szN (N.1 1 0)))), (4, .int (nI i))] 94 [] from wm_R (oA_self R1 0).symm (hloop (szN (N.1 1 0)) 0 (by omega) _ (fun k hk => absurd hk (Nat.not_lt_zero k)) rfl (fun _ _ => rfl))
      intro n
      induction n with
      | zero =>
        intro i hi w hwA hw0 hwK
        refine wm_iload (q := 96) (i := 4) hg dX5_reverse_94 rfl rfl ?_
        refine wm_iload_n (q := 97) (i := 2) hg dX5_reverse_96 rfl rfl rfl ?_
        refine wm_icmp_ge (q := 205) (q2 := 100) hg dX5_reverse_97 (by decide) rfl (fun hb => ?_) (fun hb => ?_)
        · have hen : i = szN (N.1 1 0) := by omega
          subst hen
          have hyz : szN Y = szN (N.1 1 0) := by unfold szN; rw [hY0]
          have hyk : ok10 Y := ⟨by rw [hY0, hyz]; exact hz1, by omega⟩
          have htz : szN (tmX (N.1 1 0) Y) = szN (N.1 1 0) := by unfold szN; rw [tmX_0, hY0]
          have ha1 : (tmX (N.1 1 0) Y).2 1 = Y.2 1 := by simp [tmX, updA]
          have ha2 : (tmX (N.1 1 0) Y).2 2 = Y.2 2 := by simp [tmX, updA]
          have ha3 : (tmX (N.1 1 0) Y).2 3 = Y.2 3 := by simp [tmX, updA]
          have hWe : RW ((oA R1 0 w).2 0) (tmX (N.1 1 0) Y) (N.1 0 0) := by
            rw [oA_w]
            refine RW_new hW1 ⟨ok10_tm hyk, by have := hW1.1.1.2.1; omega, fun k hk => ?_⟩ ?_ (fun k hk => ?_) hwK (fun j hj => upd_ne _ _ hj)
            · rw [htz] at hk
              obtain ⟨y1, y2, y3⟩ := hY k hk
              obtain ⟨-, g2, g3⟩ := hW1.1.1.2.2 (szN (N.1 1 0) - k - 1) (by omega)
              rw [ha1, ha2, ha3, y1, y2, y3]
              refine ⟨and7 _, g2, ?_⟩
              unfold miV
              split
              · exact Or.inl rfl
              · exact Or.inr (and7 _)
            · rw [hw0, hw1, hX0, tmX_0, hY0]
            · rw [ha1, ha2, ha3]; exact hwA k (by omega)
          refine wm_aload_n (q := 206) (i := 0) hg dX5_reverse_205 rfl rfl rfl ?_
          refine wm_iload_n (q := 207) (i := 1) hg dX5_reverse_206 rfl rfl rfl ?_
          refine wm_callR1 (q := 210) hg dX5_reverse_207 rfl lk_X5_107 (by first | decide | omega) (c_X5_end (X := tmX (N.1 1 0) Y) (B := N.1 0 0) (e := energy (N.1 1 0)) hWe) (by first | assumption | decide | omega | (simp only [nO]; omega)) ⟨rfl, by decide⟩ rfl rfl (Nat.le_of_ble_eq_true rfl) (fun R2 hR2 => ?_)
          refine wm_istore (q := 212) (i := 4) (L' := [(0, _), (1, _), (2, _), (3, _), (4, _)]) hg dX5_reverse_210 rfl rfl rfl ?_
          refine wm_iload_n (q := 213) (i := 3) hg dX5_reverse_212 rfl rfl rfl ?_
          exact wm_irret hg hr dX5_reverse_213 (rfl) (by obtain ⟨w2, rfl, q⟩ := hR2; exact RI_ch hR hH1 (hs1.tr ((Sm.A _ (by decide)).tr (Sm.A _ (by decide)))) (by rw [oA_w]; exact q))
        · exact absurd (lpLe hR10 (by omega) (by omega)) hb
      | succ n ih =>
        intro i hi w hwA hw0 hwK
        refine wm_iload (q := 96) (i := 4) hg dX5_reverse_94 rfl rfl ?_
        refine wm_iload_n (q := 97) (i := 2) hg dX5_reverse_96 rfl rfl rfl ?_
        refine wm_icmp_ge (q := 205) (q2 := 100) hg dX5_reverse_97 (by decide) rfl (fun hb => ?_) (fun hb => ?_)
        · exact absurd hb (lpLt hR10 (by omega) (by omega))
        · refine wm_sipush (q := 103) 130 hg dX5_reverse_100 rfl (by decide) ?_
          refine wm_aload_n (q := 104) (i := 0) hg dX5_reverse_103 rfl rfl rfl ?_
          refine wm_rget (q := 107) hg dX5_reverse_104 rfl fl_X5_56 rfl ?_
          refine wm_iconst (q := 108) 1 hg dX5_reverse_107 rfl (by decide) ?_
          refine wm_isub (q := 109) hg dX5_reverse_108 rfl ?_
          refine wm_imul (q := 110) hg dX5_reverse_109 rfl ?_
          refine wm_iload_n (q := 111) (i := 2) hg dX5_reverse_110 rfl rfl rfl ?_
          refine wm_iadd (q := 112) hg dX5_reverse_111 rfl ?_
          refine wm_iconst (q := 113) 1 hg dX5_reverse_112 rfl (by decide) ?_
          refine wm_isub (q := 114) hg dX5_reverse_113 rfl ?_
          refine wm_iload (q := 116) (i := 4) hg dX5_reverse_114 rfl rfl ?_
          refine wm_isub (q := 117) hg dX5_reverse_116 rfl ?_
          refine wm_istore (q := 119) (i := 5) (L' := [(0, _), (1, _), (2, _), (3, _), (4, _), (5, _)]) hg dX5_reverse_117 rfl rfl rfl ?_
          refine wm_aload_n (q := 120) (i := 0) hg dX5_reverse_119 rfl rfl rfl ?_
          refine wm_get (q := 123) hg dX5_reverse_120 rfl fl_X5_13 (by first | assumption | decide | omega | (simp only [nO]; omega)) rfl ?_
          refine wm_iload (q := 125) (i := 5) hg dX5_reverse_123 rfl rfl ?_
          refine wm_bipush (q := 127) 21 hg dX5_reverse_125 rfl (by decide) ?_
          refine wm_iadd (q := 128) hg dX5_reverse_127 rfl ?_
          refine wm_rload (q := 129) (((((130 * (c - 1)) + (szN (N.1 1 0))) - 1) - i) + 21) hg dX5_reverse_128 rfl rfl (nadd (a := ((((130 * (c - 1)) + (szN (N.1 1 0))) - 1) - i)) (b := 21) (nsub (a := (((130 * (c - 1)) + (szN (N.1 1 0))) - 1)) (b := i) (nsub (a := ((130 * (c - 1)) + (szN (N.1 1 0)))) (b := 1) (nadd (a := (130 * (c - 1))) (b := (szN (N.1 1 0))) (nmul (a := 130) (b := (c - 1)) (rfl : (130 : Int32) = nI 130) (nsub (a := c) (b := 1) hc1 (rfl : (1 : Int32) = nI 1) (by omega))) hR10) (rfl : (1 : Int32) = nI 1) (by omega)) rfl (by omega)) (rfl : (21 : Int32) = nI 21)) (by simp only [alen]; omega) ?_
          refine wm_istore (q := 131) (i := 6) (L' := [(0, _), (1, _), (2, _), (3, _), (4, _), (5, _), (6, _)]) hg dX5_reverse_129 rfl rfl rfl ?_
          refine wm_aload_n (q := 132) (i := 0) hg dX5_reverse_131 rfl rfl rfl ?_
          refine wm_get (q := 135) hg dX5_reverse_132 rfl fl_X5_7 (by first | assumption | decide | omega | (simp only [nO]; omega)) rfl ?_
          refine wm_iconst (q := 136) 1 hg dX5_reverse_135 rfl (by decide) ?_
          refine wm_iload (q := 138) (i := 4) hg dX5_reverse_136 rfl rfl ?_
          refine wm_iadd (q := 139) hg dX5_reverse_138 rfl ?_
          refine wm_aload_n (q := 140) (i := 0) hg dX5_reverse_139 rfl rfl rfl ?_
          refine wm_get (q := 143) hg dX5_reverse_140 rfl fl_X5_13 (by first | assumption | decide | omega | (simp only [nO]; omega)) rfl ?_
          refine wm_iload (q := 145) (i := 5) hg dX5_reverse_143 rfl rfl ?_
          refine wm_iconst (q := 146) 1 hg dX5_reverse_145 rfl (by decide) ?_
          refine wm_iadd (q := 147) hg dX5_reverse_146 rfl ?_
          refine wm_rload (q := 148) (((((130 * (c - 1)) + (szN (N.1 1 0))) - 1) - i) + 1) hg dX5_reverse_147 rfl rfl (nadd (a := ((((130 * (c - 1)) + (szN (N.1 1 0))) - 1) - i)) (b := 1) (nsub (a := (((130 * (c - 1)) + (szN (N.1 1 0))) - 1)) (b := i) (nsub (a := ((130 * (c - 1)) + (szN (N.1 1 0)))) (b := 1) (nadd (a := (130 * (c - 1))) (b := (szN (N.1 1 0))) (nmul (a := 130) (b := (c - 1)) (rfl : (130 : Int32) = nI 130) (nsub (a := c) (b := 1) hc1 (rfl : (1 : Int32) = nI 1) (by omega))) hR10) (rfl : (1 : Int32) = nI 1) (by omega)) rfl (by omega)) (rfl : (1 : Int32) = nI 1)) (by simp only [alen]; omega) ?_
          refine wm_callS1 (q := 151) hg dX5_reverse_148 rfl lk_X5_116 (by first | decide | omega) c_X5_mirrored rfl rfl (Nat.le_of_ble_eq_true rfl) ?_
          refine wm_rstore (q := 152) (1 + i) hg dX5_reverse_151 rfl rfl (nadd (a := 1) (b := i) (rfl : (1 : Int32) = nI 1) rfl) (by simp only [alen]; omega) ?_
          refine wm_aload_n (q := 153) (i := 0) hg dX5_reverse_152 rfl rfl rfl ?_
          refine wm_get (q := 156) hg dX5_reverse_153 rfl fl_X5_7 (by first | assumption | decide | omega | (simp only [nO]; omega)) rfl ?_
          refine wm_bipush (q := 158) 11 hg dX5_reverse_156 rfl (by decide) ?_
          refine wm_iload (q := 160) (i := 4) hg dX5_reverse_158 rfl rfl ?_
          refine wm_iadd (q := 161) hg dX5_reverse_160 rfl ?_
          refine wm_aload_n (q := 162) (i := 0) hg dX5_reverse_161 rfl rfl rfl ?_
          refine wm_get (q := 165) hg dX5_reverse_162 rfl fl_X5_13 (by first | assumption | decide | omega | (simp only [nO]; omega)) rfl ?_
          refine wm_iload (q := 167) (i := 5) hg dX5_reverse_165 rfl rfl ?_
          refine wm_bipush (q := 169) 11 hg dX5_reverse_167 rfl (by decide) ?_
          refine wm_iadd (q := 170) hg dX5_reverse_169 rfl ?_
          refine wm_rload (q := 171) (((((130 * (c - 1)) + (szN (N.1 1 0))) - 1) - i) + 11) hg dX5_reverse_170 rfl rfl (nadd (a := ((((130 * (c - 1)) + (szN (N.1 1 0))) - 1) - i)) (b := 11) (nsub (a := (((130 * (c - 1)) + (szN (N.1 1 0))) - 1)) (b := i) (nsub (a := ((130 * (c - 1)) + (szN (N.1 1 0)))) (b := 1) (nadd (a := (130 * (c - 1))) (b := (szN (N.1 1 0))) (nmul (a := 130) (b := (c - 1)) (rfl : (130 : Int32) = nI 130) (nsub (a := c) (b := 1) hc1 (rfl : (1 : Int32) = nI 1) (by omega))) hR10) (rfl : (1 : Int32) = nI 1) (by omega)) rfl (by omega)) (rfl : (11 : Int32) = nI 11)) (by simp only [alen]; omega) ?_
          refine wm_rstore (q := 172) (11 + i) hg dX5_reverse_171 rfl rfl (nadd (a := 11) (b := i) (rfl : (11 : Int32) = nI 11) rfl) (by simp only [alen]; omega) ?_
          refine wm_aload_n (q := 173) (i := 0) hg dX5_reverse_172 rfl rfl rfl ?_
          refine wm_get (q := 176) hg dX5_reverse_173 rfl fl_X5_7 (by first | assumption | decide | omega | (simp only [nO]; omega)) rfl ?_
          refine wm_bipush (q := 178) 21 hg dX5_reverse_176 rfl (by decide) ?_
          refine wm_iload (q := 180) (i := 4) hg dX5_reverse_178 rfl rfl ?_
          refine wm_iadd (q := 181) hg dX5_reverse_180 rfl ?_
          refine wm_iload (q := 183) (i := 6) hg dX5_reverse_181 rfl rfl ?_
          refine wm_ldc (q := 185) (-1000000009) hg dX5_reverse_183 rfl ld_X5_25 ?_
          refine wm_icmp_ne (q := 193) (q2 := 188) hg dX5_reverse_185 (by decide) rfl (fun hd => ?_) (fun hd => ?_)
          · refine wm_iload (q := 195) (i := 6) hg dX5_reverse_193 rfl rfl ?_
            refine wm_callS1 (q := 198) hg dX5_reverse_195 rfl lk_X5_116 (by first | decide | omega) c_X5_mirrored rfl rfl (Nat.le_of_ble_eq_true rfl) ?_
            refine wm_rstore (q := 199) (21 + i) hg dX5_reverse_198 rfl rfl (nadd (a := 21) (b := i) (rfl : (21 : Int32) = nI 21) rfl) (by simp only [alen]; omega) ?_
            refine wm_iinc (q := 202) (L' := [(0, _), (1, _), (2, _), (3, _), (4, _), (5, _), (6, _)]) (nI (i + 1)) hg dX5_reverse_199 rfl rfl (nadd rfl rfl) rfl rfl ?_
            refine wm_goto (q := 94) hg dX5_reverse_202 (by decide) ?_
            refine wm_L (L' := [(0, _), (1, _), (2, _), (3, _), (4, _)]) [0, 1, 2, 3, 4] rfl ?_
            refine wm_R (oA_st3 rfl) (ih (i + 1) (by omega) _ ?_ ?_ ?_)
            · intro k hk
              obtain ⟨t1, t2, t3⟩ := w3_at (w := w) (t := i) (k := k) (by omega) (by omega) _ _ _
              rw [t1, t2, t3]
              by_cases hki : k = i
              · subst hki
                obtain ⟨r1, r2, r3⟩ := hrd (szN (N.1 1 0) - k - 1) (by omega)
                obtain ⟨y1, y2, y3⟩ := hY k (by omega)
                obtain ⟨⟨a, ha, ea⟩, -, hg⟩ := hW1.1.1.2.2 (szN (N.1 1 0) - k - 1) (by omega)
                have i1 : 130 * (c - 1) + szN (N.1 1 0) - 1 - k + 1 = 130 * (c - 1) + (1 + (szN (N.1 1 0) - k - 1)) := by omega
                have i2 : 130 * (c - 1) + szN (N.1 1 0) - 1 - k + 11 = 130 * (c - 1) + (11 + (szN (N.1 1 0) - k - 1)) := by omega
                have i3 : 130 * (c - 1) + szN (N.1 1 0) - 1 - k + 21 = 130 * (c - 1) + (21 + (szN (N.1 1 0) - k - 1)) := by omega
                rw [if_pos rfl, if_pos rfl, if_pos rfl, y1, y2, y3]
                refine ⟨?_, ?_, ?_⟩
                · show rem8 (12 - R1.2 1 (130 * (c - 1) + szN (N.1 1 0) - 1 - k + 1)) = _; rw [i1, r1, ea, mirr_and ha]
                · show R1.2 1 (130 * (c - 1) + szN (N.1 1 0) - 1 - k + 11) = _; rw [i2, r2]
                · have hd2 := hd
                  have e3 : R1.2 1 (130 * (c - 1) + szN (N.1 1 0) - 1 - k + 21) = (N.1 1 0).2 3 (szN (N.1 1 0) - k - 1) := by rw [i3, r3]
                  have hne : ¬ (N.1 1 0).2 3 (szN (N.1 1 0) - k - 1) = -1000000009 := fun z => hd2 (e3.trans z)
                  show rem8 (12 - R1.2 1 (130 * (c - 1) + szN (N.1 1 0) - 1 - k + 21)) = _
                  rcases hg with hg | ⟨g, hg8, hg⟩
                  · exact absurd hg hne
                  · rw [e3, hg, mirr_and hg8]; unfold miV; rw [if_neg (nI_none hg8)]
              · rw [if_neg hki, if_neg hki, if_neg hki]; exact hwA k (by omega)
            · rw [upd_ne _ _ (by omega), upd_ne _ _ (by omega), upd_ne _ _ (by omega)]; exact hw0
            · intro k hk; rw [w3_hi (by omega) hk]; exact hwK k hk
          · refine wm_ldc (q := 190) (-1000000009) hg dX5_reverse_188 rfl ld_X5_25 ?_
            refine wm_goto (q := 198) hg dX5_reverse_190 (by decide) ?_
            refine wm_rstore (q := 199) (21 + i) hg dX5_reverse_198 rfl rfl (nadd (a := 21) (b := i) (rfl : (21 : Int32) = nI 21) rfl) (by simp only [alen]; omega) ?_
            refine wm_iinc (q := 202) (L' := [(0, _), (1, _), (2, _), (3, _), (4, _), (5, _), (6, _)]) (nI (i + 1)) hg dX5_reverse_199 rfl rfl (nadd rfl rfl) rfl rfl ?_
            refine wm_goto (q := 94) hg dX5_reverse_202 (by decide) ?_
            refine wm_L (L' := [(0, _), (1, _), (2, _), (3, _), (4, _)]) [0, 1, 2, 3, 4] rfl ?_
            refine wm_R (oA_st3 rfl) (ih (i + 1) (by omega) _ ?_ ?_ ?_)
            · intro k hk
              obtain ⟨t1, t2, t3⟩ := w3_at (w := w) (t := i) (k := k) (by omega) (by omega) _ _ _
              rw [t1, t2, t3]
              by_cases hki : k = i
              · subst hki
                obtain ⟨r1, r2, r3⟩ := hrd (szN (N.1 1 0) - k - 1) (by omega)
                obtain ⟨y1, y2, y3⟩ := hY k (by omega)
                obtain ⟨⟨a, ha, ea⟩, -, hg⟩ := hW1.1.1.2.2 (szN (N.1 1 0) - k - 1) (by omega)
                have i1 : 130 * (c - 1) + szN (N.1 1 0) - 1 - k + 1 = 130 * (c - 1) + (1 + (szN (N.1 1 0) - k - 1)) := by omega
                have i2 : 130 * (c - 1) + szN (N.1 1 0) - 1 - k + 11 = 130 * (c - 1) + (11 + (szN (N.1 1 0) - k - 1)) := by omega
                have i3 : 130 * (c - 1) + szN (N.1 1 0) - 1 - k + 21 = 130 * (c - 1) + (21 + (szN (N.1 1 0) - k - 1)) := by omega
                rw [if_pos rfl, if_pos rfl, if_pos rfl, y1, y2, y3]
                refine ⟨?_, ?_, ?_⟩
                · show rem8 (12 - R1.2 1 (130 * (c - 1) + szN (N.1 1 0) - 1 - k + 1)) = _; rw [i1, r1, ea, mirr_and ha]
                · show R1.2 1 (130 * (c - 1) + szN (N.1 1 0) - 1 - k + 11) = _; rw [i2, r2]
                · have hd2 := hd
                  have e3 : R1.2 1 (130 * (c - 1) + szN (N.1 1 0) - 1 - k + 21) = (N.1 1 0).2 3 (szN (N.1 1 0) - k - 1) := by rw [i3, r3]
                  have hz0 : (N.1 1 0).2 3 (szN (N.1 1 0) - k - 1) = -1000000009 := e3.symm.trans hd2
                  unfold miV; rw [if_pos hz0]
              · rw [if_neg hki, if_neg hki, if_neg hki]; exact hwA k (by omega)
            · rw [upd_ne _ _ (by omega), upd_ne _ _ (by omega), upd_ne _ _ (by omega)]; exact hw0
            · intro k hk; rw [w3_hi (by omega) hk]; exact hwK k hk
    · exact absurd (lpLe hR10 (by omega) (by omega)) hb
  | succ n ih =>
    intro i hi 
    refine wm_iload (q := 23) (i := 4) hg dX5_reverse_21 rfl rfl ?_
    refine wm_iload_n (q := 24) (i := 2) hg dX5_reverse_23 rfl rfl rfl ?_
    refine wm_icmp_ge (q := 91) (q2 := 27) hg dX5_reverse_24 (by decide) rfl (fun hb => ?_) (fun hb => ?_)
    · exact absurd hb (lpLt hR10 (by omega) (by omega))
    · refine wm_iload_n (q := 28) (i := 3) hg dX5_reverse_27 rfl rfl rfl ?_
      refine wm_aload_n (q := 29) (i := 0) hg dX5_reverse_28 rfl rfl rfl ?_
      refine wm_get (q := 32) hg dX5_reverse_29 rfl fl_X5_13 (by first | assumption | decide | omega | (simp only [nO]; omega)) rfl ?_
      refine wm_sipush (q := 35) 130 hg dX5_reverse_32 rfl (by decide) ?_
      refine wm_aload_n (q := 36) (i := 0) hg dX5_reverse_35 rfl rfl rfl ?_
      refine wm_rget (q := 39) hg dX5_reverse_36 rfl fl_X5_56 rfl ?_
      refine wm_iconst (q := 40) 1 hg dX5_reverse_39 rfl (by decide) ?_
      refine wm_isub (q := 41) hg dX5_reverse_40 rfl ?_
      refine wm_imul (q := 42) hg dX5_reverse_41 rfl ?_
      refine wm_iconst (q := 43) 1 hg dX5_reverse_42 rfl (by decide) ?_
      refine wm_iadd (q := 44) hg dX5_reverse_43 rfl ?_
      refine wm_iload_n (q := 45) (i := 2) hg dX5_reverse_44 rfl rfl rfl ?_
      refine wm_iadd (q := 46) hg dX5_reverse_45 rfl ?_
      refine wm_iconst (q := 47) 1 hg dX5_reverse_46 rfl (by decide) ?_
      refine wm_isub (q := 48) hg dX5_reverse_47 rfl ?_
      refine wm_iload (q := 50) (i := 4) hg dX5_reverse_48 rfl rfl ?_
      refine wm_isub (q := 51) hg dX5_reverse_50 rfl ?_
      refine wm_rload (q := 52) (((((130 * (c - 1)) + 1) + (szN (N.1 1 0))) - 1) - i) hg dX5_reverse_51 rfl rfl (nsub (a := ((((130 * (c - 1)) + 1) + (szN (N.1 1 0))) - 1)) (b := i) (nsub (a := (((130 * (c - 1)) + 1) + (szN (N.1 1 0)))) (b := 1) (nadd (a := ((130 * (c - 1)) + 1)) (b := (szN (N.1 1 0))) (nadd (a := (130 * (c - 1))) (b := 1) (nmul (a := 130) (b := (c - 1)) (rfl : (130 : Int32) = nI 130) (nsub (a := c) (b := 1) hc1 (rfl : (1 : Int32) = nI 1) (by omega))) (rfl : (1 : Int32) = nI 1)) hR10) (rfl : (1 : Int32) = nI 1) (by omega)) rfl (by omega)) (by simp only [alen]; omega) ?_
      refine wm_callS1 (q := 55) hg dX5_reverse_52 rfl lk_X5_116 (by first | decide | omega) c_X5_mirrored rfl rfl (Nat.le_of_ble_eq_true rfl) ?_
      refine wm_aload_n (q := 56) (i := 0) hg dX5_reverse_55 rfl rfl rfl ?_
      refine wm_get (q := 59) hg dX5_reverse_56 rfl fl_X5_13 (by first | assumption | decide | omega | (simp only [nO]; omega)) rfl ?_
      refine wm_sipush (q := 62) 130 hg dX5_reverse_59 rfl (by decide) ?_
      refine wm_aload_n (q := 63) (i := 0) hg dX5_reverse_62 rfl rfl rfl ?_
      refine wm_rget (q := 66) hg dX5_reverse_63 rfl fl_X5_56 rfl ?_
      refine wm_iconst (q := 67) 1 hg dX5_reverse_66 rfl (by decide) ?_
      refine wm_isub (q := 68) hg dX5_reverse_67 rfl ?_
      refine wm_imul (q := 69) hg dX5_reverse_68 rfl ?_
      refine wm_iconst (q := 70) 1 hg dX5_reverse_69 rfl (by decide) ?_
      refine wm_iadd (q := 71) hg dX5_reverse_70 rfl ?_
      refine wm_iload (q := 73) (i := 4) hg dX5_reverse_71 rfl rfl ?_
      refine wm_iadd (q := 74) hg dX5_reverse_73 rfl ?_
      refine wm_rload (q := 75) (((130 * (c - 1)) + 1) + i) hg dX5_reverse_74 rfl rfl (nadd (a := ((130 * (c - 1)) + 1)) (b := i) (nadd (a := (130 * (c - 1))) (b := 1) (nmul (a := 130) (b := (c - 1)) (rfl : (130 : Int32) = nI 130) (nsub (a := c) (b := 1) hc1 (rfl : (1 : Int32) = nI 1) (by omega))) (rfl : (1 : Int32) = nI 1)) rfl) (by simp only [alen]; omega) ?_
      refine wm_icmp_eq (q := 82) (q2 := 78) hg dX5_reverse_75 (by decide) rfl (fun hd => ?_) (fun hd => ?_)
      · refine wm_iconst (q := 83) 0 hg dX5_reverse_82 rfl (by decide) ?_
        refine wm_iadd (q := 84) hg dX5_reverse_83 rfl ?_
        refine wm_istore_n (q := 85) (i := 3) (L' := [(0, _), (1, _), (2, _), (3, _), (4, _)]) hg dX5_reverse_84 rfl rfl rfl rfl ?_
        refine wm_iinc (q := 88) (L' := [(0, _), (1, _), (2, _), (3, _), (4, _)]) (nI (i + 1)) hg dX5_reverse_85 rfl rfl (nadd rfl rfl) rfl rfl ?_
        refine wm_goto (q := 21) hg dX5_reverse_88 (by decide) ?_
        have hv : rem8 (12 - R1.2 1 (130 * (c - 1) + 1 + szN (N.1 1 0) - 1 - i)) = Y.2 1 i := by rw [show 130 * (c - 1) + 1 + szN (N.1 1 0) - 1 - i = 130 * (c - 1) + (1 + (szN (N.1 1 0) - i - 1)) by omega, (hrd _ (by omega)).1, (hY i (by omega)).1]; obtain ⟨⟨a, ha, ea⟩, -, -⟩ := hW1.1.1.2.2 (szN (N.1 1 0) - i - 1) (by omega); rw [ea, mirr_and ha]
        have hx : R1.2 1 (130 * (c - 1) + 1 + i) = (N.1 1 0).2 1 i := by rw [show 130 * (c - 1) + 1 + i = 130 * (c - 1) + (1 + i) by omega]; exact (hrd _ (by omega)).1
        rw [hv, hx] at hd
        refine wm_Leq ?_ (ih (i + 1) (by omega))
        first | (simp only [dfS, if_pos hd.symm]; done) | (simp only [dfS, if_neg (fun z => hd (Eq.symm z))]; done)
      · refine wm_iconst (q := 79) 1 hg dX5_reverse_78 rfl (by decide) ?_
        refine wm_goto (q := 83) hg dX5_reverse_79 (by decide) ?_
        refine wm_iadd (q := 84) hg dX5_reverse_83 rfl ?_
        refine wm_istore_n (q := 85) (i := 3) (L' := [(0, _), (1, _), (2, _), (3, _), (4, _)]) hg dX5_reverse_84 rfl rfl rfl rfl ?_
        refine wm_iinc (q := 88) (L' := [(0, _), (1, _), (2, _), (3, _), (4, _)]) (nI (i + 1)) hg dX5_reverse_85 rfl rfl (nadd rfl rfl) rfl rfl ?_
        refine wm_goto (q := 21) hg dX5_reverse_88 (by decide) ?_
        have hv : rem8 (12 - R1.2 1 (130 * (c - 1) + 1 + szN (N.1 1 0) - 1 - i)) = Y.2 1 i := by rw [show 130 * (c - 1) + 1 + szN (N.1 1 0) - 1 - i = 130 * (c - 1) + (1 + (szN (N.1 1 0) - i - 1)) by omega, (hrd _ (by omega)).1, (hY i (by omega)).1]; obtain ⟨⟨a, ha, ea⟩, -, -⟩ := hW1.1.1.2.2 (szN (N.1 1 0) - i - 1) (by omega); rw [ea, mirr_and ha]
        have hx : R1.2 1 (130 * (c - 1) + 1 + i) = (N.1 1 0).2 1 i := by rw [show 130 * (c - 1) + 1 + i = 130 * (c - 1) + (1 + i) by omega]; exact (hrd _ (by omega)).1
        rw [hv, hx] at hd
        refine wm_Leq ?_ (ih (i + 1) (by omega))
        first | (simp only [dfS, if_pos hd.symm]; done) | (simp only [dfS, if_neg (fun z => hd (Eq.symm z))]; done)
theorem c_X5_reverse {Γ : GT} {M N : Mem} {R : OV} (hR : RI N R) : CtR Γ yX5_reverse cX5_reverse 7 (some .int) 7 [.ref (ad Γ 5 0 0)] M R (some (.int (fRev N).1)) (fun R' => RI (fRev N).2 R') := by
  have hz : ok10 (N.1 1 0) := hR.1.2.1 0 (by decide)
  obtain ⟨y0, y1⟩ := rvR_at (C := N.1 1 11) hz
  have h := c_X5_reverse0 (Γ := Γ) (M := M) (N := sO N 1 11 (rvR (N.1 1 11) (N.1 1 0))) (R := R) (Y := rvR (N.1 1 11) (N.1 1 0)) (RI_11 hR (Nat.le_refl 11) ((ok10_arr hz y0).1)) (by rw [sO11_c]; exact y0) (by rw [sO11_c]; exact y1)
  rw [sO11_c, sO11_b] at h
  exact h
