/-! ===== the reference: search ===== -/
/-- the same chain but for the angles -/
def EqA (X H : OV) : Prop := H.1 = X.1 ∧ ∀ k, k < szN X → H.2 2 k = X.2 2 k ∧ H.2 3 k = X.2 3 k
theorem EqA.rf (X : OV) : EqA X X := ⟨rfl, fun _ _ => ⟨rfl, rfl⟩⟩
theorem EqA.sz {X H : OV} (h : EqA X H) : szN H = szN X := by unfold szN; rw [h.1]
theorem EqA.ok {X H : OV} (h : EqA X H) (hX : ok10 X) : ok10 H := by
  refine ⟨?_, by rw [h.sz]; exact hX.2⟩
  rw [h.1, h.sz]
  exact hX.1
theorem EqA_nx {X H : OV} (h : EqA X H) (k : Nat) : EqA X (nxC H k) := by
  refine ⟨(nxC_1 H k).trans h.1, fun j hj => ?_⟩
  unfold nxC
  rw [stR_2 _ (by decide), stR_2 _ (by decide)]
  exact h.2 j hj
/-- what the search leaves of the object -/
def SKp (R R1 : OV) : Prop := (∀ s, s ≠ 0 → s ≠ 14 → s ≠ 15 → R1.2 s = R.2 s) ∧ R1.1 = R.1
theorem SKp.rf (R : OV) : SKp R R := ⟨fun _ _ _ _ => rfl, rfl⟩
theorem SKp.A {R R1 : OV} {s : Nat} (f : Nat → Int32) (h : SKp R R1) (hs : s = 0 ∨ s = 14 ∨ s = 15) : SKp R (oA R1 s f) := ⟨fun t a b c => (updA_ne _ _ (by rcases hs with rfl | rfl | rfl <;> assumption)).trans (h.1 t a b c), h.2⟩
def SIn (R X R1 : OV) : Prop := SKp R R1 ∧ ∃ Y B, RWs (R1.2 0) Y B ∧ EqA X Y
theorem SIn.A {R X R1 : OV} {s : Nat} (f : Nat → Int32) (h : SIn R X R1) (hs : s = 14 ∨ s = 15) : SIn R X (oA R1 s f) := ⟨h.1.A f (Or.inr hs), by
  obtain ⟨Y, B, h1, h2⟩ := h.2
  exact ⟨Y, B, by rw [oA_x _ _ (by rcases hs with rfl | rfl <;> decide)]; exact h1, h2⟩⟩
def rowL (R1 : OV) (l : Nat) (H : OV) : Prop := ∀ k, k < szN H → R1.2 14 (10 * l + k) = H.2 1 k
/-- the levels below -/
def PB (l : Nat) (R1 R2 : OV) : Prop := ∀ j, j < l → R2.2 15 j = R1.2 15 j ∧ ∀ k, k < 10 → R2.2 14 (10 * j + k) = R1.2 14 (10 * j + k)
theorem PB.rf (l : Nat) (R : OV) : PB l R R := fun _ _ => ⟨rfl, fun _ _ => rfl⟩
theorem PB.tr {l : Nat} {R S T : OV} (h : PB l R S) (g : PB l S T) : PB l R T := fun j hj => ⟨(g j hj).1.trans (h j hj).1, fun k hk => ((g j hj).2 k hk).trans ((h j hj).2 k hk)⟩
theorem PB.mo {l m : Nat} {R S : OV} (h : PB m R S) (hl : l ≤ m) : PB l R S := fun j hj => h j (by omega)
theorem PB_15 (l : Nat) (R : OV) {t : Nat} (v : Int32) (ht : l ≤ t) : PB l R (oA R 15 (upd (R.2 15) t v)) := fun j hj => ⟨by rw [oA_w, upd_ne _ _ (by omega)], fun k _ => by rw [oA_x _ _ (by decide)]⟩
theorem PB_14 (l : Nat) (R : OV) {t n : Nat} (g : Nat → Int32) (ht : 10 * l ≤ t) : PB l R (oA R 14 (cpyF (R.2 14) t g n)) := fun j hj => ⟨by rw [oA_x _ _ (by decide)], fun k hk => by rw [oA_w, cpyF_lt _ _ _ (by omega)]⟩
theorem PB_0 (l : Nat) (R : OV) (f : Nat → Int32) : PB l R (oA R 0 f) := fun j _ => ⟨by rw [oA_x _ _ (by decide)], fun k _ => by rw [oA_x _ _ (by decide)]⟩
theorem RWs_restore {w g : Nat → Int32} {X Y H B : OV} (h : RWs w Y B) (hY : EqA X Y) (hH : EqA X H) (hr : rgX H) (hg : ∀ k, k < szN H → g k = H.2 1 k) : RWs (cpyF w 1 g 10) H B := by
  obtain ⟨p1, p2, p3⟩ := h
  have e1 : H.1 = Y.1 := hH.1.trans hY.1.symm
  have es : szN H = szN Y := by unfold szN; rw [e1]
  have eX : szN H = szN X := hH.sz
  have h10 := hr.1.2
  have o : ∀ m, m = 0 ∨ 11 ≤ m → cpyF w 1 g 10 m = w m := fun m hm => by unfold cpyF; rw [if_neg (by omega)]
  refine ⟨hr, ⟨?_, fun k hk => ⟨?_, ?_, ?_⟩, ?_, ?_, fun a => ?_⟩, p3.1, ?_, ?_, ?_, ?_, ?_, fun j hj => ⟨?_, ?_, ?_⟩⟩
  · rw [o 0 (Or.inl rfl), e1]; exact p2.1
  · rw [cpyF_in w 1 g (by omega)]; exact hg k hk
  · rw [o _ (Or.inr (by omega)), (p2.2.1 k (by omega)).2.1, (hY.2 k (by omega)).1, (hH.2 k (by omega)).1]
  · rw [o _ (Or.inr (by omega)), (p2.2.1 k (by omega)).2.2, (hY.2 k (by omega)).2, (hH.2 k (by omega)).2]
  · rw [o _ (Or.inr (by omega)), e1]; exact p2.2.2.1
  · rw [o _ (Or.inr (by omega)), e1]; exact p2.2.2.2.1
  · rw [o 33 (Or.inr (by omega)), o 34 (Or.inr (by omega))]
    have q := p2.2.2.2.2 a
    unfold pof at q ⊢
    rw [e1]
    exact q
  · rw [o _ (Or.inr (by omega))]; exact p3.2.1
  · rw [o _ (Or.inr (by omega))]; exact p3.2.2.1
  · rw [o _ (Or.inr (by omega))]; exact p3.2.2.2.1
  · rw [o _ (Or.inr (by omega))]; exact p3.2.2.2.2.1
  · rw [o _ (Or.inr (by omega))]; exact p3.2.2.2.2.2.1
  · rw [o _ (Or.inr (by omega))]; exact (p3.2.2.2.2.2.2 j hj).1
  · rw [o _ (Or.inr (by omega))]; exact (p3.2.2.2.2.2.2 j hj).2.1
  · rw [o _ (Or.inr (by omega))]; exact (p3.2.2.2.2.2.2 j hj).2.2
theorem RWs_turn {w : Nat → Int32} {X B : OV} (h : RWs w X B) {t : Nat} (ht : t < szN X) {d v : Int32} (hv : v = (X.2 1 t + d) &&& 7) : RWs (upd w (1 + t) v) (turnX X t d) B := by
  obtain ⟨p1, p2, p3⟩ := h
  have h10 := p1.1.2
  have o : ∀ m, 35 ≤ m → upd w (1 + t) v m = w m := fun m hm => upd_ne _ _ (by omega)
  refine ⟨rgX_turn p1 t d, rwC_turn p2 ht h10 (by rw [upd_same, hv]) (fun k _ hk => upd_ne _ _ hk), p3.1, ?_, ?_, ?_, ?_, ?_, fun j hj => ⟨?_, ?_, ?_⟩⟩
  · rw [o _ (by omega)]; exact p3.2.1
  · rw [o _ (by omega)]; exact p3.2.2.1
  · rw [o _ (by omega)]; exact p3.2.2.2.1
  · rw [o _ (by omega)]; exact p3.2.2.2.2.1
  · rw [o _ (by omega)]; exact p3.2.2.2.2.2.1
  · rw [o _ (by omega)]; exact (p3.2.2.2.2.2.2 j hj).1
  · rw [o _ (by omega)]; exact (p3.2.2.2.2.2.2 j hj).2.1
  · rw [o _ (by omega)]; exact (p3.2.2.2.2.2.2 j hj).2.2
theorem exL_h {rc : OV → Bool} {X : OV} {n k : Nat} (h : X.2 2 (k / 2) = 1) : exL rc X (n + 1) k = exL rc X n (k + 1) := by rw [exL, if_pos h]
theorem exL_y {rc : OV → Bool} {X : OV} {n k : Nat} (h : ¬ X.2 2 (k / 2) = 1) (h2 : rc (nxC X k) = true) : exL rc X (n + 1) k = some k := by rw [exL, if_neg h, if_pos h2]
theorem exL_n {rc : OV → Bool} {X : OV} {n k : Nat} (h : ¬ X.2 2 (k / 2) = 1) (h2 : ¬ rc (nxC X k) = true) : exL rc X (n + 1) k = exL rc X n (k + 1) := by rw [exL, if_neg h, if_neg h2]
theorem dir_z {k : Nat} (h : k < 2 ^ 31) : nI k - nI k / 2 * 2 = 0 ↔ k % 2 = 0 := by
  have e : nI k - nI k / 2 * 2 = nI (k % 2) := pk_rem h (by decide) (by decide)
  have h2 : k % 2 < 2 := Nat.mod_lt _ (by decide)
  rw [e]
  exact nI_eq (b := 0) (by omega) (by decide)
theorem plD_8 (k : Nat) : -8 ≤ (plD k).toInt ∧ (plD k).toInt ≤ 8 := by
  unfold plD
  split <;> decide
/-- the search from the head of its loop, at a level with r levels above it -/
def LvS (Γ : GT) (K : KT) (M : Mem) (R X : OV) (p r l : Nat) : Prop := ∀ (n d : Nat) (H R1 : OV), d + n = 2 * szN X → rgX H → EqA X H → SIn R X R1 → rowL R1 l H → R1.2 15 l = nI d →
  (∀ k R2, exL (exP r) H n d = some k → SIn R X R2 → PB l R1 R2 → R2.2 15 l = nI k → WM Γ K (sR M R2) [(0, .ref (ad Γ 5 0 0)), (1, .int (nI p))] 149 []) →
  (∀ R2, exL (exP r) H n d = none → SIn R X R2 → PB l R1 R2 → R2.2 15 l = nI (2 * szN X) → WM Γ K (sR M R2) [(0, .ref (ad Γ 5 0 0)), (1, .int (nI p)), (2, .int (nI l))] 14 []) →
  WM Γ K (sR M R1) [(0, .ref (ad Γ 5 0 0)), (1, .int (nI p)), (2, .int (nI l))] 14 []
set_option maxRecDepth 100000 in
set_option maxHeartbeats 4000000 in
theorem lvS_of {Γ : GT} {K : KT} {M : Mem} {R X : OV} {p r l : Nat} (hg : Gd Γ K cX5_search yX5_search.cls 5 6) (hX : ok10 X) (hp : l + r + 1 = p) (hp3 : p ≤ 3) (deep : ∀ r2, r = r2 + 1 → LvS Γ K M R X p r2 (l + 1)) : LvS Γ K M R X p r l := by
  have h10 := hX.2
  intro n
  induction n with
  | zero => exact fun d H R1 hd hr hA hI hrow hdig kF kN => kN R1 rfl hI (PB.rf _ _) (by rw [hdig, show d = 2 * szN X by omega])
  | succ n ih =>
    intro d H R1 hd hr hA hI hrow hdig kF kN
    obtain ⟨Y, B, hW, hY⟩ := hI.2
    have hs := hA.sz
    have hn : R1.2 0 0 = nI (szN X) := by rw [hW.2.1.1, hY.1]; exact hX.1
    have hd2 : d / 2 < szN X := by omega
    have hback : ∀ R3, SIn R X R3 → PB l R1 R3 → rowL R3 l H → R3.2 15 l = nI d → exL (exP r) H (n + 1) d = exL (exP r) H n (d + 1) → WM Γ K (sR M (oA R3 15 (upd (R3.2 15) l (R3.2 15 l + 1)))) [(0, .ref (ad Γ 5 0 0)), (1, .int (nI p)), (2, .int (nI l))] 14 [] := by
      intro R3 s1 s2 s3 s4 s5
      exact ih (d + 1) H _ (by omega) hr hA (s1.A _ (Or.inr rfl)) (fun k hk => by rw [oA_x _ _ (by decide)]; exact s3 k hk) (by rw [oA_w, upd_same, s4]; exact nI_1 d) (fun k R2 e t1 t2 t3 => kF k R2 (s5.trans e) t1 (s2.tr ((PB_15 l R3 _ (Nat.le_refl l)).tr t2)) t3) (fun R2 e t1 t2 t3 => kN R2 (s5.trans e) t1 (s2.tr ((PB_15 l R3 _ (Nat.le_refl l)).tr t2)) t3)
    refine wm_iload_n (q := 15) (i := 2) hg dX5_search_14 rfl rfl rfl ?_
    refine wm_if_lt (q := 189) (q2 := 18) hg dX5_search_15 (by decide) rfl (fun h0 => ?_) (fun h0 => ?_)
    · exact absurd h0 (nI_nlt (a := l) (b := 0) (Nat.zero_le l) (by omega))
    · skip
      refine wm_aload_n (q := 19) (i := 0) hg dX5_search_18 rfl rfl rfl ?_
      refine wm_get (q := 22) hg dX5_search_19 rfl fl_X5_39 (by first | assumption | decide | omega | (simp only [nO]; omega)) rfl ?_
      refine wm_iload_n (q := 23) (i := 2) hg dX5_search_22 rfl rfl rfl ?_
      refine wm_rload (q := 24) l hg dX5_search_23 rfl rfl rfl (by simp only [alen]; omega) ?_
      rw [hdig]
      refine wm_istore_n (q := 25) (i := 3) (L' := [(0, _), (1, _), (2, _), (3, _)]) hg dX5_search_24 rfl rfl rfl rfl ?_
      refine wm_iload_n (q := 26) (i := 3) hg dX5_search_25 rfl rfl rfl ?_
      refine wm_aload_n (q := 27) (i := 0) hg dX5_search_26 rfl rfl rfl ?_
      refine wm_callV1 (q := 30) hg dX5_search_27 rfl lk_X5_165 (by decide) (c_X5_choices hn) (by first | assumption | decide | omega | (simp only [nO]; omega)) ⟨rfl, by decide⟩ rfl rfl (Nat.le_of_ble_eq_true rfl) ?_
      refine wm_icmp_ne (q := 65) (q2 := 33) hg dX5_search_30 (by decide) rfl (fun h1 => ?_) (fun h1 => ?_)
      · skip
        refine wm_aload_n (q := 66) (i := 0) hg dX5_search_65 rfl rfl rfl ?_
        refine wm_get (q := 69) hg dX5_search_66 rfl fl_X5_7 (by first | assumption | decide | omega | (simp only [nO]; omega)) rfl ?_
        refine wm_bipush (q := 71) 11 hg dX5_search_69 rfl (by decide) ?_
        refine wm_iload_n (q := 72) (i := 3) hg dX5_search_71 rfl rfl rfl ?_
        refine wm_iconst (q := 73) 2 hg dX5_search_72 rfl (by decide) ?_
        refine wm_idiv (q := 74) hg dX5_search_73 rfl (by decide) ?_
        refine wm_iadd (q := 75) hg dX5_search_74 rfl ?_
        refine wm_rload (q := 76) (11 + d / 2) hg dX5_search_75 rfl rfl (nadd (a := 11) (b := d / 2) rfl (mag_n (by omega))) (by simp only [alen]; omega) ?_
        refine wm_iconst (q := 77) 1 hg dX5_search_76 rfl (by decide) ?_
        rw [(hW.2.1.2.1 (d / 2) (by rw [hY.sz]; exact hd2)).2.1, (hY.2 _ hd2).1, ← (hA.2 _ hd2).1]
        refine wm_icmp_ne (q := 93) (q2 := 80) hg dX5_search_77 (by decide) rfl (fun h2 => ?_) (fun h2 => ?_)
        · skip
          refine wm_aload_n (q := 94) (i := 0) hg dX5_search_93 rfl rfl rfl ?_
          refine wm_iload_n (q := 95) (i := 2) hg dX5_search_94 rfl rfl rfl ?_
          refine wm_callV0 (q := 98) hg dX5_search_95 rfl lk_X5_168 (by decide) (c_X5_restore rfl (by omega)) (by first | assumption | decide | omega | (simp only [nO]; omega)) ⟨rfl, by decide⟩ rfl rfl (Nat.le_of_ble_eq_true rfl) ?_
          refine wm_aload_n (q := 99) (i := 0) hg dX5_search_98 rfl rfl rfl ?_
          refine wm_get (q := 102) hg dX5_search_99 rfl fl_X5_7 (by first | assumption | decide | omega | (simp only [nO]; omega)) rfl ?_
          refine wm_iconst (q := 103) 1 hg dX5_search_102 rfl (by decide) ?_
          refine wm_iload_n (q := 104) (i := 3) hg dX5_search_103 rfl rfl rfl ?_
          refine wm_iconst (q := 105) 2 hg dX5_search_104 rfl (by decide) ?_
          refine wm_idiv (q := 106) hg dX5_search_105 rfl (by decide) ?_
          refine wm_iadd (q := 107) hg dX5_search_106 rfl ?_
          refine wm_aload_n (q := 108) (i := 0) hg dX5_search_107 rfl rfl rfl ?_
          suffices hmid : WM Γ K (sR M (oA R1 0 (cpyF (R1.2 0) 1 (skF (R1.2 14) l) 10))) [(0, .ref (ad Γ 5 0 0)), (1, .int (nI p)), (2, .int (nI l)), (3, .int (nI d))] 125 [.int (plD d), .int ((oA R1 0 (cpyF (R1.2 0) 1 (skF (R1.2 14) l) 10)).2 0 (1 + d / 2)), .int (1 + nI d / 2), .ref (ad Γ 5 0 1)] by
            refine wm_iload_n (q := 109) (i := 3) hg dX5_search_108 rfl rfl rfl ?_
            refine wm_iconst (q := 110) 2 hg dX5_search_109 rfl (by decide) ?_
            refine wm_idiv (q := 111) hg dX5_search_110 rfl (by decide) ?_
            refine wm_callV1 (q := 114) hg dX5_search_111 rfl lk_X5_68 (by decide) (c_X5_angle (mag_n (by omega)) (by omega)) (by first | assumption | decide | omega | (simp only [nO]; omega)) ⟨rfl, by decide⟩ rfl rfl (Nat.le_of_ble_eq_true rfl) ?_
            refine wm_iload_n (q := 115) (i := 3) hg dX5_search_114 rfl rfl rfl ?_
            refine wm_iconst (q := 116) 2 hg dX5_search_115 rfl (by decide) ?_
            refine wm_irem (q := 117) hg dX5_search_116 rfl (by decide) ?_
            refine wm_if_ne (q := 124) (q2 := 120) hg dX5_search_117 (by decide) rfl (fun h3 => ?_) (fun h3 => ?_)
            · refine wm_iconst (q := 125) (-1) hg dX5_search_124 rfl (by decide) ?_
              exact wm_st (by unfold plD; rw [if_neg (fun z => h3 ((dir_z (by omega)).mpr z))]) hmid
            · refine wm_iconst (q := 121) 1 hg dX5_search_120 rfl (by decide) ?_
              refine wm_goto (q := 125) hg dX5_search_121 (by decide) ?_
              exact wm_st (by unfold plD; rw [if_pos ((dir_z (by omega)).mp h3)]) hmid
          have hW1 : RWs ((oA R1 0 (cpyF (R1.2 0) 1 (skF (R1.2 14) l) 10)).2 0) H B := by rw [oA_w]; exact RWs_restore hW hY hA hr (fun k hk => hrow k hk)
          generalize hR2e : oA R1 0 (cpyF (R1.2 0) 1 (skF (R1.2 14) l) 10) = R2 at hW1 ⊢
          refine wm_callS1 (q := 128) hg dX5_search_125 rfl lk_X5_85 (by decide) c_X5_turned rfl rfl (Nat.le_of_ble_eq_true rfl) ?_
          refine wm_rstore (q := 129) (1 + d / 2) hg dX5_search_128 rfl rfl (nadd (a := 1) (b := d / 2) rfl (mag_n (by omega))) (by simp only [alen]; omega) ?_
          have hWe : RWs ((oA R2 0 (upd (R2.2 0) (1 + d / 2) (rem8 (R2.2 0 (1 + d / 2) + plD d + 8)))).2 0) (turnX H (d / 2) (plD d)) B := by
            rw [oA_w]
            refine RWs_turn hW1 (by omega) ?_
            rw [(hW1.2.1.2.1 _ (by omega)).1]
            obtain ⟨⟨a, ha, ea⟩, -, -⟩ := hr.2.2 (d / 2) (by omega)
            rw [ea]
            exact turned_and ha (plD_8 d)
          refine wm_aload_n (q := 130) (i := 0) hg dX5_search_129 rfl rfl rfl ?_
          refine wm_callR1 (q := 133) hg dX5_search_130 rfl lk_X5_99 (by decide) (c_X5_settle hWe) (by first | assumption | decide | omega | (simp only [nO]; omega)) ⟨rfl, by decide⟩ rfl rfl (Nat.le_of_ble_eq_true rfl) (fun R3 hR3 => ?_)
          refine wm_istore (q := 135) (i := 4) (L' := [(0, _), (1, _), (2, _), (3, _), (4, _)]) hg dX5_search_133 rfl rfl rfl ?_
          obtain ⟨w2, rfl, q1, -, -⟩ := hR3
          rw [(stQ_R _ _).2] at q1
          have q1 : RWs w2 (nxC H d) (stQ (turnX H (d / 2) (plD d)) B).2.2 := q1
          subst hR2e
          refine wm_R (R' := oA R1 0 w2) (by rw [oA_oA, oA_oA]) ?_
          have hA2 := EqA_nx hA d
          have hI2 : SIn R X (oA R1 0 w2) := ⟨hI.1.A _ (Or.inl rfl), nxC H d, _, by rw [oA_w]; exact q1, hA2⟩
          have hrow2 : rowL (oA R1 0 w2) l H := fun k hk => by rw [oA_x _ _ (by decide)]; exact hrow k hk
          have hdig2 : (oA R1 0 w2).2 15 l = nI d := by rw [oA_x _ _ (by decide)]; exact hdig
          have hpp : nI p - 1 = nI (p - 1) := nsub (a := p) (b := 1) rfl rfl (by omega)
          cases r with
          | zero =>
            refine wm_iload_n (q := 136) (i := 2) hg dX5_search_135 rfl rfl rfl ?_
            refine wm_iload_n (q := 137) (i := 1) hg dX5_search_136 rfl rfl rfl ?_
            refine wm_iconst (q := 138) 1 hg dX5_search_137 rfl (by decide) ?_
            refine wm_isub (q := 139) hg dX5_search_138 rfl ?_
            refine wm_icmp_ne (q := 151) (q2 := 142) hg dX5_search_139 (by decide) rfl (fun h4 => ?_) (fun h4 => ?_)
            · exact absurd (by rw [hpp, show p - 1 = l by omega]) h4
            · skip
              refine wm_aload_n (q := 143) (i := 0) hg dX5_search_142 rfl rfl rfl ?_
              refine wm_callV1 (q := 146) hg dX5_search_143 rfl lk_X5_126 (by decide) (c_X5_unsolved (X := nxC H d) (hA2.ok hX) (by rw [oA_w]; exact q1.2.1)) (by first | assumption | decide | omega | (simp only [nO]; omega)) ⟨rfl, by decide⟩ rfl rfl (Nat.le_of_ble_eq_true rfl) ?_
              refine wm_if_ne (q := 151) (q2 := 149) hg dX5_search_146 (by decide) rfl (fun h5 => ?_) (fun h5 => ?_)
              · refine wm_iload_n (q := 152) (i := 2) hg dX5_search_151 rfl rfl rfl ?_
                refine wm_iload_n (q := 153) (i := 1) hg dX5_search_152 rfl rfl rfl ?_
                refine wm_iconst (q := 154) 1 hg dX5_search_153 rfl (by decide) ?_
                refine wm_isub (q := 155) hg dX5_search_154 rfl ?_
                refine wm_icmp_ne (q := 171) (q2 := 158) hg dX5_search_155 (by decide) rfl (fun h6 => ?_) (fun h6 => ?_)
                · exact absurd (by rw [hpp, show p - 1 = l by omega]) h6
                · refine wm_aload_n (q := 159) (i := 0) hg dX5_search_158 rfl rfl rfl ?_
                  refine wm_get (q := 162) hg dX5_search_159 rfl fl_X5_39 (by first | assumption | decide | omega | (simp only [nO]; omega)) rfl ?_
                  refine wm_iload_n (q := 163) (i := 2) hg dX5_search_162 rfl rfl rfl ?_
                  refine wm_dup2 (q := 164) hg dX5_search_163 rfl rfl rfl ?_
                  refine wm_rload (q := 165) l hg dX5_search_164 rfl rfl rfl (by simp only [alen]; omega) ?_
                  refine wm_iconst (q := 166) 1 hg dX5_search_165 rfl (by decide) ?_
                  refine wm_iadd (q := 167) hg dX5_search_166 rfl ?_
                  refine wm_rstore (q := 168) l hg dX5_search_167 rfl rfl rfl (by simp only [alen]; omega) ?_
                  refine wm_goto (q := 186) hg dX5_search_168 (by decide) ?_
                  refine wm_goto (q := 14) hg dX5_search_186 (by decide) ?_
                  refine wm_L (L' := [(0, _), (1, _), (2, _)]) [0, 1, 2] rfl ?_
                  exact hback (oA R1 0 w2) hI2 (PB_0 l R1 w2) hrow2 hdig2 (exL_n h2 (fun z => h5 (of_decide_eq_true z)))
              · refine wm_L (L' := [(0, _), (1, _)]) [0, 1] rfl ?_
                exact kF d (oA R1 0 w2) (exL_y h2 (decide_eq_true h5)) hI2 (PB_0 l R1 w2) hdig2
          | succ r2 =>
            refine wm_iload_n (q := 136) (i := 2) hg dX5_search_135 rfl rfl rfl ?_
            refine wm_iload_n (q := 137) (i := 1) hg dX5_search_136 rfl rfl rfl ?_
            refine wm_iconst (q := 138) 1 hg dX5_search_137 rfl (by decide) ?_
            refine wm_isub (q := 139) hg dX5_search_138 rfl ?_
            refine wm_icmp_ne (q := 151) (q2 := 142) hg dX5_search_139 (by decide) rfl (fun h4 => ?_) (fun h4 => ?_)
            · skip
              refine wm_iload_n (q := 152) (i := 2) hg dX5_search_151 rfl rfl rfl ?_
              refine wm_iload_n (q := 153) (i := 1) hg dX5_search_152 rfl rfl rfl ?_
              refine wm_iconst (q := 154) 1 hg dX5_search_153 rfl (by decide) ?_
              refine wm_isub (q := 155) hg dX5_search_154 rfl ?_
              refine wm_icmp_ne (q := 171) (q2 := 158) hg dX5_search_155 (by decide) rfl (fun h6 => ?_) (fun h6 => ?_)
              · skip
                refine wm_iinc (q := 174) (L' := [(0, _), (1, _), (2, _), (3, _), (4, _)]) (nI (l + 1)) hg dX5_search_171 rfl rfl (nadd rfl rfl) rfl rfl ?_
                refine wm_aload_n (q := 175) (i := 0) hg dX5_search_174 rfl rfl rfl ?_
                refine wm_get (q := 178) hg dX5_search_175 rfl fl_X5_39 (by first | assumption | decide | omega | (simp only [nO]; omega)) rfl ?_
                refine wm_iload_n (q := 179) (i := 2) hg dX5_search_178 rfl rfl rfl ?_
                refine wm_iconst (q := 180) 0 hg dX5_search_179 rfl (by decide) ?_
                refine wm_rstore (q := 181) (l + 1) hg dX5_search_180 rfl rfl rfl (by simp only [alen]; omega) ?_
                refine wm_aload_n (q := 182) (i := 0) hg dX5_search_181 rfl rfl rfl ?_
                refine wm_iload_n (q := 183) (i := 2) hg dX5_search_182 rfl rfl rfl ?_
                refine wm_callV0 (q := 186) hg dX5_search_183 rfl lk_X5_162 (by decide) (c_X5_store rfl (by omega)) (by first | assumption | decide | omega | (simp only [nO]; omega)) ⟨rfl, by decide⟩ rfl rfl (Nat.le_of_ble_eq_true rfl) ?_
                refine wm_goto (q := 14) hg dX5_search_186 (by decide) ?_
                refine wm_L (L' := [(0, _), (1, _), (2, _)]) [0, 1, 2] rfl ?_
                have hPB : PB (l + 1) (oA R1 0 w2) (oA (oA (oA R1 0 w2) 15 (upd ((oA R1 0 w2).2 15) (l + 1) 0)) 14 (cpyF ((oA (oA R1 0 w2) 15 (upd ((oA R1 0 w2).2 15) (l + 1) 0)).2 14) (10 * (l + 1)) (anF ((oA (oA R1 0 w2) 15 (upd ((oA R1 0 w2).2 15) (l + 1) 0)).2 0)) 10)) := (PB_15 (l + 1) _ 0 (Nat.le_refl _)).tr (PB_14 (l + 1) _ _ (Nat.le_refl _))
                refine deep r2 rfl (2 * szN X) 0 (nxC H d) (oA (oA (oA R1 0 w2) 15 (upd ((oA R1 0 w2).2 15) (l + 1) 0)) 14 (cpyF ((oA (oA R1 0 w2) 15 (upd ((oA R1 0 w2).2 15) (l + 1) 0)).2 14) (10 * (l + 1)) (anF ((oA (oA R1 0 w2) 15 (upd ((oA R1 0 w2).2 15) (l + 1) 0)).2 0)) 10)) (Nat.zero_add _) q1.1 hA2 ((hI2.A _ (Or.inr rfl)).A _ (Or.inl rfl)) (fun k hk => ?_) ?_ (fun k R5 e t1 t2 t3 => ?_) (fun R5 e t1 t2 t3 => ?_)
                · have hk10 := q1.1.1.2
                  rw [oA_w, cpyF_in _ _ _ (by omega)]
                  show anF _ k = _
                  unfold anF
                  rw [oA_x _ _ (by decide), oA_w]
                  exact (q1.2.1.2.1 k hk).1
                · rw [oA_x _ _ (by decide), oA_w, upd_same]; rfl
                · exact kF d R5 (exL_y h2 (by unfold exP; rw [hA2.sz, e]; rfl)) t1 ((PB_0 l R1 w2).tr ((hPB.tr t2).mo (by omega))) (((hPB.tr t2) l (by omega)).1.trans hdig2)
                · have hn5 : R5.2 0 0 = nI (szN X) := by obtain ⟨Y5, B5, g1, g2⟩ := t1.2; rw [g1.2.1.1, g2.1]; exact hX.1
                  refine wm_iload_n (q := 15) (i := 2) hg dX5_search_14 rfl rfl rfl ?_
                  refine wm_if_lt (q := 189) (q2 := 18) hg dX5_search_15 (by decide) rfl (fun g0 => ?_) (fun g0 => ?_)
                  · exact absurd g0 (nI_nlt (a := l + 1) (b := 0) (Nat.zero_le _) (by omega))
                  · refine wm_aload_n (q := 19) (i := 0) hg dX5_search_18 rfl rfl rfl ?_
                    refine wm_get (q := 22) hg dX5_search_19 rfl fl_X5_39 (by first | assumption | decide | omega | (simp only [nO]; omega)) rfl ?_
                    refine wm_iload_n (q := 23) (i := 2) hg dX5_search_22 rfl rfl rfl ?_
                    refine wm_rload (q := 24) (l + 1) hg dX5_search_23 rfl rfl rfl (by simp only [alen]; omega) ?_
                    rw [t3]
                    refine wm_istore_n (q := 25) (i := 3) (L' := [(0, _), (1, _), (2, _), (3, _)]) hg dX5_search_24 rfl rfl rfl rfl ?_
                    refine wm_iload_n (q := 26) (i := 3) hg dX5_search_25 rfl rfl rfl ?_
                    refine wm_aload_n (q := 27) (i := 0) hg dX5_search_26 rfl rfl rfl ?_
                    refine wm_callV1 (q := 30) hg dX5_search_27 rfl lk_X5_165 (by decide) (c_X5_choices hn5) (by first | assumption | decide | omega | (simp only [nO]; omega)) ⟨rfl, by decide⟩ rfl rfl (Nat.le_of_ble_eq_true rfl) ?_
                    refine wm_icmp_ne (q := 65) (q2 := 33) hg dX5_search_30 (by decide) rfl (fun g1 => ?_) (fun g1 => ?_)
                    · exact absurd rfl g1
                    · refine wm_iinc (q := 36) (L' := [(0, _), (1, _), (2, _), (3, _)]) (nI l) hg dX5_search_33 rfl rfl (ndec (a := l + 1) rfl (by omega)) rfl rfl ?_
                      refine wm_aload_n (q := 37) (i := 0) hg dX5_search_36 rfl rfl rfl ?_
                      refine wm_get (q := 40) hg dX5_search_37 rfl fl_X5_39 (by first | assumption | decide | omega | (simp only [nO]; omega)) rfl ?_
                      refine wm_iload_n (q := 41) (i := 2) hg dX5_search_40 rfl rfl rfl ?_
                      refine wm_if_ge (q := 48) (q2 := 44) hg dX5_search_41 (by decide) rfl (fun g2 => ?_) (fun g2 => ?_)
                      · refine wm_iload_n (q := 49) (i := 2) hg dX5_search_48 rfl rfl rfl ?_
                        refine wm_dup2 (q := 50) hg dX5_search_49 rfl rfl rfl ?_
                        refine wm_rload (q := 51) l hg dX5_search_50 rfl rfl rfl (by simp only [alen]; omega) ?_
                        refine wm_iload_n (q := 52) (i := 2) hg dX5_search_51 rfl rfl rfl ?_
                        refine wm_if_ge (q := 59) (q2 := 55) hg dX5_search_52 (by decide) rfl (fun g3 => ?_) (fun g3 => ?_)
                        · refine wm_iconst (q := 60) 1 hg dX5_search_59 rfl (by decide) ?_
                          refine wm_iadd (q := 61) hg dX5_search_60 rfl ?_
                          refine wm_rstore (q := 62) l hg dX5_search_61 rfl rfl rfl (by simp only [alen]; omega) ?_
                          refine wm_goto (q := 186) hg dX5_search_62 (by decide) ?_
                          refine wm_goto (q := 14) hg dX5_search_186 (by decide) ?_
                          refine wm_L (L' := [(0, _), (1, _), (2, _)]) [0, 1, 2] rfl ?_
                          exact hback R5 t1 ((PB_0 l R1 w2).tr ((hPB.tr t2).mo (by omega))) (fun k hk => by rw [((hPB.tr t2) l (by omega)).2 k (by omega)]; exact hrow2 k hk) (((hPB.tr t2) l (by omega)).1.trans hdig2) (exL_n h2 (by unfold exP; rw [hA2.sz, e]; decide))
                        · exact absurd (nI_le (a := 0) (b := l) (Nat.zero_le _) (by omega)) g3
                      · exact absurd (nI_le (a := 0) (b := l) (Nat.zero_le _) (by omega)) g2
              · exact absurd ((nI_eq (by omega) (by omega)).mp (h6.trans hpp)) (by omega)
            · exact absurd ((nI_eq (by omega) (by omega)).mp (h4.trans hpp)) (by omega)
        · refine wm_aload_n (q := 81) (i := 0) hg dX5_search_80 rfl rfl rfl ?_
          refine wm_get (q := 84) hg dX5_search_81 rfl fl_X5_39 (by first | assumption | decide | omega | (simp only [nO]; omega)) rfl ?_
          refine wm_iload_n (q := 85) (i := 2) hg dX5_search_84 rfl rfl rfl ?_
          refine wm_dup2 (q := 86) hg dX5_search_85 rfl rfl rfl ?_
          refine wm_rload (q := 87) l hg dX5_search_86 rfl rfl rfl (by simp only [alen]; omega) ?_
          refine wm_iconst (q := 88) 1 hg dX5_search_87 rfl (by decide) ?_
          refine wm_iadd (q := 89) hg dX5_search_88 rfl ?_
          refine wm_rstore (q := 90) l hg dX5_search_89 rfl rfl rfl (by simp only [alen]; omega) ?_
          refine wm_goto (q := 186) hg dX5_search_90 (by decide) ?_
          refine wm_goto (q := 14) hg dX5_search_186 (by decide) ?_
          refine wm_L (L' := [(0, _), (1, _), (2, _)]) [0, 1, 2] rfl ?_
          exact hback R1 hI (PB.rf l R1) hrow hdig (exL_h h2)
      · exact absurd ((nI_eq (by omega) (by omega)).mp h1) (by omega)
theorem lvS_all {Γ : GT} {K : KT} {M : Mem} {R X : OV} {p : Nat} (hg : Gd Γ K cX5_search yX5_search.cls 5 6) (hX : ok10 X) (hp3 : p ≤ 3) : ∀ r l, l + r + 1 = p → LvS Γ K M R X p r l
  | 0, l, h => lvS_of hg hX h hp3 (fun r2 z => absurd z (by omega))
  | r + 1, l, h => lvS_of hg hX h hp3 (fun r2 z => by
    have e : r2 = r := by omega
    subst e
    exact lvS_all hg hX hp3 r2 (l + 1) (by omega))
set_option maxRecDepth 100000 in
set_option maxHeartbeats 4000000 in
theorem c_X5_search {Γ : GT} {M : Mem} {R X B : OV} {r : Nat} {x : Int32} (hW : RWs (R.2 0) X B) (hx : x = nI (r + 1)) (hr3 : r < 3) : CtR Γ yX5_search cX5_search 5 (some .boolean) 6 [.ref (ad Γ 5 0 0), .int x] M R (some (.int (if exP (r + 1) X = true then 1 else 0))) (fun R' => SKp R R' ∧ ∀ k, exL (exP r) X (2 * szN X) 0 = some k → R'.2 15 0 = nI k) := by
  refine ctr_of (by decide) (Nat.le_of_ble_eq_true rfl) (fun K hg hr => ?_)
  show WM Γ K _ [(0, _), (1, _)] 0 []
  subst hx
  have hX : ok10 X := hW.1.1
  have h10 := hX.2
  refine wm_iconst (q := 1) 0 hg dX5_search_0 rfl (by decide) ?_
  refine wm_istore_n (q := 2) (i := 2) (L' := [(0, _), (1, _), (2, _)]) hg dX5_search_1 rfl rfl rfl rfl ?_
  refine wm_aload_n (q := 3) (i := 0) hg dX5_search_2 rfl rfl rfl ?_
  refine wm_get (q := 6) hg dX5_search_3 rfl fl_X5_39 (by first | assumption | decide | omega | (simp only [nO]; omega)) rfl ?_
  refine wm_iconst (q := 7) 0 hg dX5_search_6 rfl (by decide) ?_
  refine wm_iconst (q := 8) 0 hg dX5_search_7 rfl (by decide) ?_
  refine wm_rstore (q := 9) 0 hg dX5_search_8 rfl rfl (rfl : (0 : Int32) = nI 0) (by simp only [alen]; omega) ?_
  refine wm_aload_n (q := 10) (i := 0) hg dX5_search_9 rfl rfl rfl ?_
  refine wm_iconst (q := 11) 0 hg dX5_search_10 rfl (by decide) ?_
  refine wm_callV0 (q := 14) hg dX5_search_11 rfl lk_X5_162 (by decide) (c_X5_store (l := 0) rfl (by omega)) (by first | assumption | decide | omega | (simp only [nO]; omega)) ⟨rfl, by decide⟩ rfl rfl (Nat.le_of_ble_eq_true rfl) ?_
  refine lvS_all (p := r + 1) hg hX (by omega) r 0 (by omega) (2 * szN X) 0 X (oA (oA R 15 (upd (R.2 15) 0 0)) 14 (cpyF ((oA R 15 (upd (R.2 15) 0 0)).2 14) (10 * 0) (anF ((oA R 15 (upd (R.2 15) 0 0)).2 0)) 10)) (Nat.zero_add _) hW.1 (EqA.rf X) ⟨SKp.A _ (SKp.A _ (SKp.rf R) (Or.inr (Or.inr rfl))) (Or.inr (Or.inl rfl)), X, B, by rw [oA_x _ _ (by decide), oA_x _ _ (by decide)]; exact hW, EqA.rf X⟩ (fun k hk => ?_) ?_ (fun k R5 e t1 t2 t3 => ?_) (fun R5 e t1 t2 t3 => ?_)
  · rw [oA_w, cpyF_in _ _ _ (by omega)]
    unfold anF
    rw [oA_x _ _ (by decide)]
    exact (hW.2.1.2.1 k hk).1
  · rw [oA_x _ _ (by decide), oA_w, upd_same]; rfl
  · have hp : exP (r + 1) X = true := by unfold exP; rw [e]; rfl
    refine wm_iconst (q := 150) 1 hg dX5_search_149 rfl (by decide) ?_
    exact wm_zrret hg hr dX5_search_150 (by rw [if_pos hp]) (⟨t1.1, fun j hj => by rw [e] at hj; cases hj; exact t3⟩) (Or.inr rfl)
  · have hp : ¬ exP (r + 1) X = true := by unfold exP; rw [e]; decide
    have hn5 : R5.2 0 0 = nI (szN X) := by obtain ⟨Y5, B5, g1, g2⟩ := t1.2; rw [g1.2.1.1, g2.1]; exact hX.1
    refine wm_iload_n (q := 15) (i := 2) hg dX5_search_14 rfl rfl rfl ?_
    refine wm_if_lt (q := 189) (q2 := 18) hg dX5_search_15 (by decide) rfl (fun g0 => ?_) (fun g0 => ?_)
    · exact absurd g0 (by decide)
    · refine wm_aload_n (q := 19) (i := 0) hg dX5_search_18 rfl rfl rfl ?_
      refine wm_get (q := 22) hg dX5_search_19 rfl fl_X5_39 (by first | assumption | decide | omega | (simp only [nO]; omega)) rfl ?_
      refine wm_iload_n (q := 23) (i := 2) hg dX5_search_22 rfl rfl rfl ?_
      refine wm_rload (q := 24) 0 hg dX5_search_23 rfl rfl rfl (by simp only [alen]; omega) ?_
      rw [t3]
      refine wm_istore_n (q := 25) (i := 3) (L' := [(0, _), (1, _), (2, _), (3, _)]) hg dX5_search_24 rfl rfl rfl rfl ?_
      refine wm_iload_n (q := 26) (i := 3) hg dX5_search_25 rfl rfl rfl ?_
      refine wm_aload_n (q := 27) (i := 0) hg dX5_search_26 rfl rfl rfl ?_
      refine wm_callV1 (q := 30) hg dX5_search_27 rfl lk_X5_165 (by decide) (c_X5_choices hn5) (by first | assumption | decide | omega | (simp only [nO]; omega)) ⟨rfl, by decide⟩ rfl rfl (Nat.le_of_ble_eq_true rfl) ?_
      refine wm_icmp_ne (q := 65) (q2 := 33) hg dX5_search_30 (by decide) rfl (fun g1 => ?_) (fun g1 => ?_)
      · exact absurd rfl g1
      · refine wm_iinc (q := 36) (L' := [(0, _), (1, _), (2, _), (3, _)]) (-1) hg dX5_search_33 rfl rfl (by decide) rfl rfl ?_
        refine wm_aload_n (q := 37) (i := 0) hg dX5_search_36 rfl rfl rfl ?_
        refine wm_get (q := 40) hg dX5_search_37 rfl fl_X5_39 (by first | assumption | decide | omega | (simp only [nO]; omega)) rfl ?_
        refine wm_iload_n (q := 41) (i := 2) hg dX5_search_40 rfl rfl rfl ?_
        refine wm_if_ge (q := 48) (q2 := 44) hg dX5_search_41 (by decide) rfl (fun g2 => ?_) (fun g2 => ?_)
        · exact absurd g2 (by decide)
        · refine wm_iconst (q := 45) 0 hg dX5_search_44 rfl (by decide) ?_
          refine wm_goto (q := 49) hg dX5_search_45 (by decide) ?_
          refine wm_dup2 (q := 50) hg dX5_search_49 rfl rfl rfl ?_
          refine wm_rload (q := 51) 0 hg dX5_search_50 rfl rfl (rfl : (0 : Int32) = nI 0) (by simp only [alen]; omega) ?_
          refine wm_iload_n (q := 52) (i := 2) hg dX5_search_51 rfl rfl rfl ?_
          refine wm_if_ge (q := 59) (q2 := 55) hg dX5_search_52 (by decide) rfl (fun g3 => ?_) (fun g3 => ?_)
          · exact absurd g3 (by decide)
          · refine wm_iconst (q := 56) 0 hg dX5_search_55 rfl (by decide) ?_
            refine wm_goto (q := 60) hg dX5_search_56 (by decide) ?_
            refine wm_iadd (q := 61) hg dX5_search_60 rfl ?_
            refine wm_rstore (q := 62) 0 hg dX5_search_61 rfl rfl (rfl : (0 : Int32) = nI 0) (by simp only [alen]; omega) ?_
            refine wm_goto (q := 186) hg dX5_search_62 (by decide) ?_
            refine wm_goto (q := 14) hg dX5_search_186 (by decide) ?_
            refine wm_iload_n (q := 15) (i := 2) hg dX5_search_14 rfl rfl rfl ?_
            refine wm_if_lt (q := 189) (q2 := 18) hg dX5_search_15 (by decide) rfl (fun g4 => ?_) (fun g4 => ?_)
            · refine wm_iconst (q := 190) 0 hg dX5_search_189 rfl (by decide) ?_
              exact wm_zrret hg hr dX5_search_190 (by rw [if_neg hp]) (⟨t1.1.A _ (Or.inr (Or.inr rfl)), fun j hj => by rw [e] at hj; cases hj⟩) (Or.inl rfl)
            · exact absurd (by decide) g4
