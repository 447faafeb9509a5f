/-! ===== the reference: shed ===== -/
def shd (X : OV) (i : Nat) : Bool := decide (X.2 2 i = 0) && decide (0 < pNb X i)
def sbN (X : OV) : Nat → Nat
  | 0 => 0
  | i + 1 => if shd X i then sbN X i + 2 ^ i else sbN X i
theorem sb_bit : ∀ i, i < 10 → ∀ a, a < 2 ^ i → ∀ k, k < 10 → ((a + 2 ^ i) / 2 ^ k) % 2 = if k = i then 1 else (a / 2 ^ k) % 2 := by decide +kernel
theorem sb_or : ∀ i, i < 10 → ∀ a, a < 2 ^ i → nI a ||| ((1 : Int32) <<< (nI i &&& 31)) = nI (a + 2 ^ i) := by decide +kernel
theorem sb_shr : ∀ a, a < 1024 → ∀ k, k < 10 → (nI a >>> (nI k &&& 31)) &&& 1 = nI ((a / 2 ^ k) % 2) := by decide +kernel
theorem sbN_lt (X : OV) : ∀ i, sbN X i < 2 ^ i
  | 0 => Nat.one_pos
  | i + 1 => by
    have h := sbN_lt X i
    unfold sbN
    split <;> omega
theorem sbN_bit (X : OV) : ∀ i, i ≤ 10 → ∀ k, k < 10 → (sbN X i / 2 ^ k) % 2 = if k < i ∧ shd X k = true then 1 else 0
  | 0, _, k, _ => by
    rw [if_neg (by omega)]
    show (0 / 2 ^ k) % 2 = 0
    rw [Nat.zero_div]
  | i + 1, h, k, hk => by
    have h0 := sbN_bit X i (by omega) k hk
    unfold sbN
    split
    · next hs =>
      rw [sb_bit i (by omega) _ (sbN_lt X i) k hk, h0]
      by_cases hki : k = i
      · subst hki; rw [if_pos rfl, if_pos ⟨by omega, hs⟩]
      · rw [if_neg hki]
        have hc : (k < i + 1 ∧ shd X k = true) = (k < i ∧ shd X k = true) := propext ⟨fun z => ⟨by omega, z.2⟩, fun z => ⟨by omega, z.2⟩⟩
        simp only [hc]
    · next hs =>
      rw [h0]
      by_cases hki : k = i
      · subst hki; rw [if_neg (by omega), if_neg (fun z => hs z.2)]
      · have hc : (k < i + 1 ∧ shd X k = true) = (k < i ∧ shd X k = true) := propext ⟨fun z => ⟨by omega, z.2⟩, fun z => ⟨by omega, z.2⟩⟩
        simp only [hc]
/-- a chain whose magnets are those of X at the places of a list -/
def lsI (Y X : OV) (l : List Nat) : Prop := szN Y = l.length ∧ ∀ k v, l[k]? = some v → Y.2 1 k = X.2 1 v ∧ Y.2 2 k = X.2 2 v ∧ Y.2 3 k = X.2 3 v
theorem lsI_id (X : OV) : lsI X X (List.range (szN X)) := by
  refine ⟨List.length_range.symm, fun k v h => ?_⟩
  obtain ⟨hk, e⟩ := List.getElem?_eq_some_iff.mp h
  rw [List.getElem_range] at e
  subst e
  exact ⟨rfl, rfl, rfl⟩
theorem lsI_ap {Y X : OV} {l : List Nat} (h : lsI Y X l) (hY : ok10 Y) (h10 : szN Y < 10) (f : Nat) : lsI (apX Y X f) X (l ++ [f]) := by
  obtain ⟨h1, h2⟩ := h
  refine ⟨by rw [(ok10_ap hY h10).2, h1, List.length_append]; rfl, fun k v hv => ?_⟩
  obtain ⟨a1, a2, a3⟩ := apX_at Y X f k
  rw [a1, a2, a3]
  by_cases hk : k = szN Y
  · simp only [if_pos hk]
    rw [hk, h1, List.getElem?_append_right (Nat.le_refl _), Nat.sub_self] at hv
    cases hv
    exact ⟨rfl, rfl, rfl⟩
  · simp only [if_neg hk]
    obtain ⟨hl, -⟩ := List.getElem?_eq_some_iff.mp hv
    rw [List.length_append] at hl
    have hl2 : k < l.length := by have : [f].length = 1 := rfl; omega
    rw [List.getElem?_append_left hl2] at hv
    exact h2 k v hv
theorem toL_at (Y : OV) (p : Nat) : ∀ j k, (toL Y p j).2 1 k = Y.2 1 (if p ≤ k ∧ k < p + j then k + 1 else k) ∧ (toL Y p j).2 2 k = Y.2 2 (if p ≤ k ∧ k < p + j then k + 1 else k) ∧ (toL Y p j).2 3 k = Y.2 3 (if p ≤ k ∧ k < p + j then k + 1 else k)
  | 0, k => by
    rw [if_neg (by omega)]
    exact ⟨rfl, rfl, rfl⟩
  | j + 1, k => by
    obtain ⟨f1, f2, f3⟩ := toL_at Y p j (p + j + 1)
    rw [if_neg (by omega)] at f1 f2 f3
    obtain ⟨h1, h2, h3⟩ := toL_at Y p j k
    obtain ⟨s1, s2, s3⟩ := st3_at (toL Y p j) (p + j) k ((toL Y p j).2 1 (p + j + 1)) ((toL Y p j).2 2 (p + j + 1)) ((toL Y p j).2 3 (p + j + 1))
    show st3 (toL Y p j) (p + j) ((toL Y p j).2 1 (p + j + 1)) ((toL Y p j).2 2 (p + j + 1)) ((toL Y p j).2 3 (p + j + 1)) 1 k = _ ∧ st3 (toL Y p j) (p + j) ((toL Y p j).2 1 (p + j + 1)) ((toL Y p j).2 2 (p + j + 1)) ((toL Y p j).2 3 (p + j + 1)) 2 k = _ ∧ st3 (toL Y p j) (p + j) ((toL Y p j).2 1 (p + j + 1)) ((toL Y p j).2 2 (p + j + 1)) ((toL Y p j).2 3 (p + j + 1)) 3 k = _
    rw [s1, s2, s3]
    by_cases hk : k = p + j
    · subst hk
      simp only [if_pos]
      rw [if_pos ⟨by omega, by omega⟩, f1, f2, f3]
      exact ⟨rfl, rfl, rfl⟩
    · simp only [if_neg hk]
      have hc : (p ≤ k ∧ k < p + (j + 1)) = (p ≤ k ∧ k < p + j) := propext ⟨fun z => ⟨z.1, by omega⟩, fun z => ⟨z.1, by omega⟩⟩
      simp only [hc]
      exact ⟨h1, h2, h3⟩
theorem lsI_to {Y X : OV} {l : List Nat} (h : lsI Y X l) (hY : ok10 Y) {p : Nat} (hp : p < szN Y) : lsI (toX Y p) X (l.eraseIdx p) := by
  obtain ⟨h1, h2⟩ := h
  have hz := hY.2
  have e : (toX Y p).1 0 = nI (szN Y - 1) := (toX_0 Y p).trans (nsub hY.1 rfl (by omega))
  refine ⟨by rw [szN_of e (by omega), List.length_eraseIdx, if_pos (by omega), h1], fun k v hv => ?_⟩
  obtain ⟨a1, a2, a3⟩ := toL_at Y p (szN Y - 1 - p) k
  unfold toX
  rw [a1, a2, a3]
  have hl := (List.getElem?_eq_some_iff.mp hv).1
  rw [List.length_eraseIdx, if_pos (by omega)] at hl
  rw [List.getElem?_eraseIdx] at hv
  by_cases hk : k < p
  · rw [if_pos hk] at hv
    rw [if_neg (by omega)]
    exact h2 k v hv
  · rw [if_neg hk] at hv
    rw [if_pos ⟨by omega, by omega⟩]
    exact h2 (k + 1) v hv
/-- the places that stay -/
def kpL (X : OV) (i : Nat) : List Nat := (List.range i).filter (fun j => !shd X j)
def dnL (X : OV) (n j : Nat) : List Nat := List.range j ++ ((List.range n).drop j).filter (fun j => !shd X j)
theorem kpL_s (X : OV) (i : Nat) : kpL X (i + 1) = if shd X i = true then kpL X i else kpL X i ++ [i] := by
  unfold kpL
  rw [List.range_succ, List.filter_append]
  cases h : shd X i <;> simp [h]
theorem dnL_n (X : OV) {n j : Nat} (h : n ≤ j) (hj : j ≤ n) : dnL X n j = List.range n := by
  have e : j = n := by omega
  subst e
  unfold dnL
  rw [List.drop_eq_nil_of_le (by rw [List.length_range]; exact Nat.le_refl _)]
  simp
theorem dnL_0 (X : OV) (n : Nat) : dnL X n 0 = kpL X n := rfl
theorem dnL_s (X : OV) {n j : Nat} (h : j < n) : dnL X n j = if shd X j = true then (dnL X n (j + 1)).eraseIdx j else dnL X n (j + 1) := by
  unfold dnL
  have hd : (List.range n).drop j = j :: (List.range n).drop (j + 1) := by
    rw [List.drop_eq_getElem_cons (by rw [List.length_range]; exact h), List.getElem_range]
  rw [hd, List.range_succ]
  cases hs : shd X j
  · simp [hs]
  · rw [if_pos rfl, List.append_assoc, List.eraseIdx_append_of_length_le (by rw [List.length_range]; exact Nat.le_refl _), List.length_range, Nat.sub_self]
    simp [hs]
theorem shR_ls {C X : OV} (hX : rgX X) : ∀ i, i ≤ szN X → lsI (shR C X i) X (kpL X i)
  | 0, _ => ⟨szN_0 C, fun k v h => by cases h⟩
  | i + 1, h => by
    have h10 := hX.1.2
    have h0 := shR_ls (C := C) hX i (by omega)
    obtain ⟨o1, o2⟩ := shR_ok C X i (by omega)
    have ha := lsI_ap h0 o1 (by omega) i
    rw [kpL_s]
    obtain ⟨-, hh, -⟩ := hX.2.2 i (by omega)
    unfold shR
    rcases hh with hh | hh
    · rw [if_neg (by rw [hh]; decide)]
      split
      · next hp => rw [if_pos (by simp [shd, hh, hp])]; exact h0
      · next hp => rw [if_neg (by simp [shd, hp])]; exact ha
    · rw [if_pos hh, if_neg (by simp [shd, hh])]
      exact ha
theorem lsI_eq {Y Z X : OV} {l : List Nat} (hY : lsI Y X l) (hZ : lsI Z X l) : szN Y = szN Z ∧ ∀ k, k < szN Y → Y.2 1 k = Z.2 1 k ∧ Y.2 2 k = Z.2 2 k ∧ Y.2 3 k = Z.2 3 k := by
  refine ⟨hY.1.trans hZ.1.symm, fun k hk => ?_⟩
  obtain ⟨a1, a2, a3⟩ := hY.2 k _ (List.getElem?_eq_getElem (by rw [← hY.1]; exact hk))
  obtain ⟨b1, b2, b3⟩ := hZ.2 k _ (List.getElem?_eq_getElem (by rw [← hY.1]; exact hk))
  exact ⟨a1.trans b1.symm, a2.trans b2.symm, a3.trans b3.symm⟩
theorem kpL_len (X : OV) : ∀ i, (kpL X i).length + ((List.range i).filter (fun j => shd X j)).length = i
  | 0 => rfl
  | i + 1 => by
    have h := kpL_len X i
    rw [kpL_s, List.range_succ, List.filter_append, List.length_append]
    cases hs : shd X i
    · simp [hs]; omega
    · simp [hs]; omega
def cnN (X : OV) (i : Nat) : Nat := ((List.range i).filter (fun j => shd X j)).length
theorem cnN_s (X : OV) (i : Nat) : cnN X (i + 1) = cnN X i + if shd X i = true then 1 else 0 := by
  unfold cnN
  rw [List.range_succ, List.filter_append, List.length_append]
  cases hs : shd X i <;> simp [hs]
set_option maxRecDepth 100000 in
set_option maxHeartbeats 4000000 in
theorem c_X5_shedSet {Γ : GT} {M : Mem} {R X : OV} (hrg : rgX X) (hX : rwC (R.2 0) X) : Ct Γ yX5_shedSet cX5_shedSet 4 (some .int) 3 [.ref (ad Γ 5 0 0)] (sR M R) (some (.int (nI (sbN X (szN X))))) (sR M R) := by
  refine ct_of (by decide) (Nat.le_of_ble_eq_true rfl) (fun K hg hr => ?_)
  show WM Γ K _ [(0, _)] 0 []
  have hz := hrg.1
  have hz2 := hz.2
  have hw0 : R.2 0 0 = nI (szN X) := hX.1.trans hz.1
  refine wm_iconst (q := 1) 0 hg dX5_shedSet_0 rfl (by decide) ?_
  refine wm_istore_n (q := 2) (i := 1) (L' := [(0, _), (1, _)]) hg dX5_shedSet_1 rfl rfl rfl rfl ?_
  refine wm_iconst (q := 3) 0 hg dX5_shedSet_2 rfl (by decide) ?_
  refine wm_istore_n (q := 4) (i := 2) (L' := [(0, _), (1, _), (2, _)]) hg dX5_shedSet_3 rfl rfl rfl rfl ?_
  suffices hloop : ∀ (n i : Nat), i + n = (szN X) → WM Γ K (sR M R) [(0, .ref (ad Γ 5 0 0)), (1, .int (nI (sbN X i))), (2, .int (nI i))] 4 [] from hloop (szN X) 0 (by omega)
  intro n
  induction n with
  | zero =>
    intro i hi 
    refine wm_iload_n (q := 5) (i := 2) hg dX5_shedSet_4 rfl rfl rfl ?_
    refine wm_aload_n (q := 6) (i := 0) hg dX5_shedSet_5 rfl rfl rfl ?_
    refine wm_get (q := 9) hg dX5_shedSet_6 rfl fl_X5_7 (by first | assumption | decide | omega | (simp only [nO]; omega)) rfl ?_
    refine wm_iconst (q := 10) 0 hg dX5_shedSet_9 rfl (by decide) ?_
    refine wm_rload (q := 11) 0 hg dX5_shedSet_10 rfl rfl (rfl : (0 : Int32) = nI 0) (by simp only [alen]; omega) ?_
    refine wm_icmp_ge (q := 74) (q2 := 14) hg dX5_shedSet_11 (by decide) rfl (fun hb => ?_) (fun hb => ?_)
    · refine wm_iload_n (q := 75) (i := 1) hg dX5_shedSet_74 rfl rfl rfl ?_
      exact wm_iret hg hr dX5_shedSet_75 (by rw [show i = szN X from hi]) (rfl)
    · exact absurd (lpLe hw0 (by omega) (by omega)) hb
  | succ n ih =>
    intro i hi 
    refine wm_iload_n (q := 5) (i := 2) hg dX5_shedSet_4 rfl rfl rfl ?_
    refine wm_aload_n (q := 6) (i := 0) hg dX5_shedSet_5 rfl rfl rfl ?_
    refine wm_get (q := 9) hg dX5_shedSet_6 rfl fl_X5_7 (by first | assumption | decide | omega | (simp only [nO]; omega)) rfl ?_
    refine wm_iconst (q := 10) 0 hg dX5_shedSet_9 rfl (by decide) ?_
    refine wm_rload (q := 11) 0 hg dX5_shedSet_10 rfl rfl (rfl : (0 : Int32) = nI 0) (by simp only [alen]; omega) ?_
    refine wm_icmp_ge (q := 74) (q2 := 14) hg dX5_shedSet_11 (by decide) rfl (fun hb => ?_) (fun hb => ?_)
    · exact absurd hb (lpLt hw0 (by omega) (by omega))
    · refine wm_aload_n (q := 15) (i := 0) hg dX5_shedSet_14 rfl rfl rfl ?_
      refine wm_iload_n (q := 16) (i := 2) hg dX5_shedSet_15 rfl rfl rfl ?_
      refine wm_aload_n (q := 17) (i := 0) hg dX5_shedSet_16 rfl rfl rfl ?_
      refine wm_iload_n (q := 18) (i := 2) hg dX5_shedSet_17 rfl rfl rfl ?_
      refine wm_callV1 (q := 21) hg dX5_shedSet_18 rfl lk_X5_68 (by first | decide | omega) (c_X5_angle rfl (by omega)) (by first | assumption | decide | omega | (simp only [nO]; omega)) ⟨rfl, by decide⟩ rfl rfl (Nat.le_of_ble_eq_true rfl) ?_
      refine wm_iload_n (q := 22) (i := 2) hg dX5_shedSet_21 rfl rfl rfl ?_
      refine wm_iconst (q := 23) 1 hg dX5_shedSet_22 rfl (by decide) ?_
      refine wm_isub (q := 24) hg dX5_shedSet_23 rfl ?_
      refine wm_callV1 (q := 27) hg dX5_shedSet_24 rfl lk_X5_75 (by first | decide | omega) (c_X5_pair_near hz hX rfl (by omega) (fun p hp e => Or.inl (near_m (k := 1) (by omega) hp e (by decide)))) (by first | assumption | decide | omega | (simp only [nO]; omega)) ⟨rfl, by decide⟩ rfl rfl (Nat.le_of_ble_eq_true rfl) ?_
      refine wm_aload_n (q := 28) (i := 0) hg dX5_shedSet_27 rfl rfl rfl ?_
      refine wm_iload_n (q := 29) (i := 2) hg dX5_shedSet_28 rfl rfl rfl ?_
      refine wm_aload_n (q := 30) (i := 0) hg dX5_shedSet_29 rfl rfl rfl ?_
      refine wm_iload_n (q := 31) (i := 2) hg dX5_shedSet_30 rfl rfl rfl ?_
      refine wm_callV1 (q := 34) hg dX5_shedSet_31 rfl lk_X5_68 (by first | decide | omega) (c_X5_angle rfl (by omega)) (by first | assumption | decide | omega | (simp only [nO]; omega)) ⟨rfl, by decide⟩ rfl rfl (Nat.le_of_ble_eq_true rfl) ?_
      refine wm_iload_n (q := 35) (i := 2) hg dX5_shedSet_34 rfl rfl rfl ?_
      refine wm_iconst (q := 36) 1 hg dX5_shedSet_35 rfl (by decide) ?_
      refine wm_iadd (q := 37) hg dX5_shedSet_36 rfl ?_
      refine wm_callV1 (q := 40) hg dX5_shedSet_37 rfl lk_X5_75 (by first | decide | omega) (c_X5_pair_near hz hX rfl (by omega) (fun p hp e => Or.inr (near_p (k := 1) (by omega) hp e (by decide)))) (by first | assumption | decide | omega | (simp only [nO]; omega)) ⟨rfl, by decide⟩ rfl rfl (Nat.le_of_ble_eq_true rfl) ?_
      refine wm_iadd (q := 41) hg dX5_shedSet_40 rfl ?_
      refine wm_istore_n (q := 42) (i := 3) (L' := [(0, _), (1, _), (2, _), (3, _)]) hg dX5_shedSet_41 rfl rfl rfl rfl ?_
      refine wm_iload_n (q := 43) (i := 1) hg dX5_shedSet_42 rfl rfl rfl ?_
      refine wm_aload_n (q := 44) (i := 0) hg dX5_shedSet_43 rfl rfl rfl ?_
      refine wm_get (q := 47) hg dX5_shedSet_44 rfl fl_X5_7 (by first | assumption | decide | omega | (simp only [nO]; omega)) rfl ?_
      refine wm_bipush (q := 49) 11 hg dX5_shedSet_47 rfl (by decide) ?_
      refine wm_iload_n (q := 50) (i := 2) hg dX5_shedSet_49 rfl rfl rfl ?_
      refine wm_iadd (q := 51) hg dX5_shedSet_50 rfl ?_
      refine wm_rload (q := 52) (11 + i) hg dX5_shedSet_51 rfl rfl (nadd (a := 11) (b := i) (rfl : (11 : Int32) = nI 11) rfl) (by simp only [alen]; omega) ?_
      refine wm_if_ne (q := 65) (q2 := 55) hg dX5_shedSet_52 (by decide) rfl (fun g1 => ?_) (fun g1 => ?_)
      · refine wm_iconst (q := 66) 0 hg dX5_shedSet_65 rfl (by decide) ?_
        refine wm_ior (q := 67) hg dX5_shedSet_66 rfl ?_
        refine wm_istore_n (q := 68) (i := 1) (L' := [(0, _), (1, _), (2, _), (3, _)]) hg dX5_shedSet_67 rfl rfl rfl rfl ?_
        refine wm_iinc (q := 71) (L' := [(0, _), (1, _), (2, _), (3, _)]) (nI (i + 1)) hg dX5_shedSet_68 rfl rfl (nadd rfl rfl) rfl rfl ?_
        refine wm_goto (q := 4) hg dX5_shedSet_71 (by decide) ?_
        refine wm_L (L' := [(0, _), (1, _), (2, _)]) [0, 1, 2] rfl ?_
        have hh := hX.2.1 i (by omega)
        have hpb : X.1 4 * pOn X (R.2 0 (1 + i)) (nI i - 1) + X.1 4 * pOn X (R.2 0 (1 + i)) (nI i + 1) = pNb X i := by rw [hh.1, ← Int32.mul_add]; rfl
        refine wm_Leq ?_ (ih (i + 1) (by omega))
        have hlt := sbN_lt X i
        rw [hh.2.1] at g1
        have hs : shd X i = false := by simp [shd, g1]
        simp only [sbN, hs, Int32.or_zero]; rfl
      · refine wm_iload_n (q := 56) (i := 3) hg dX5_shedSet_55 rfl rfl rfl ?_
        refine wm_if_le (q := 65) (q2 := 59) hg dX5_shedSet_56 (by decide) rfl (fun g2 => ?_) (fun g2 => ?_)
        · refine wm_iconst (q := 66) 0 hg dX5_shedSet_65 rfl (by decide) ?_
          refine wm_ior (q := 67) hg dX5_shedSet_66 rfl ?_
          refine wm_istore_n (q := 68) (i := 1) (L' := [(0, _), (1, _), (2, _), (3, _)]) hg dX5_shedSet_67 rfl rfl rfl rfl ?_
          refine wm_iinc (q := 71) (L' := [(0, _), (1, _), (2, _), (3, _)]) (nI (i + 1)) hg dX5_shedSet_68 rfl rfl (nadd rfl rfl) rfl rfl ?_
          refine wm_goto (q := 4) hg dX5_shedSet_71 (by decide) ?_
          refine wm_L (L' := [(0, _), (1, _), (2, _)]) [0, 1, 2] rfl ?_
          have hh := hX.2.1 i (by omega)
          have hpb : X.1 4 * pOn X (R.2 0 (1 + i)) (nI i - 1) + X.1 4 * pOn X (R.2 0 (1 + i)) (nI i + 1) = pNb X i := by rw [hh.1, ← Int32.mul_add]; rfl
          refine wm_Leq ?_ (ih (i + 1) (by omega))
          have hlt := sbN_lt X i
          rw [hh.2.1] at g1
          have g3 : ¬ 0 < pNb X i := by have g3 := g2; rw [← hpb]; exact Int32.not_lt.mpr g3
          have hs : shd X i = false := by simp [shd, g3]
          simp only [sbN, hs, Int32.or_zero]; rfl
        · refine wm_iconst (q := 60) 1 hg dX5_shedSet_59 rfl (by decide) ?_
          refine wm_iload_n (q := 61) (i := 2) hg dX5_shedSet_60 rfl rfl rfl ?_
          refine wm_ishl (q := 62) hg dX5_shedSet_61 rfl ?_
          refine wm_goto (q := 66) hg dX5_shedSet_62 (by decide) ?_
          refine wm_ior (q := 67) hg dX5_shedSet_66 rfl ?_
          refine wm_istore_n (q := 68) (i := 1) (L' := [(0, _), (1, _), (2, _), (3, _)]) hg dX5_shedSet_67 rfl rfl rfl rfl ?_
          refine wm_iinc (q := 71) (L' := [(0, _), (1, _), (2, _), (3, _)]) (nI (i + 1)) hg dX5_shedSet_68 rfl rfl (nadd rfl rfl) rfl rfl ?_
          refine wm_goto (q := 4) hg dX5_shedSet_71 (by decide) ?_
          refine wm_L (L' := [(0, _), (1, _), (2, _)]) [0, 1, 2] rfl ?_
          have hh := hX.2.1 i (by omega)
          have hpb : X.1 4 * pOn X (R.2 0 (1 + i)) (nI i - 1) + X.1 4 * pOn X (R.2 0 (1 + i)) (nI i + 1) = pNb X i := by rw [hh.1, ← Int32.mul_add]; rfl
          refine wm_Leq ?_ (ih (i + 1) (by omega))
          have hlt := sbN_lt X i
          rw [hh.2.1] at g1
          have g4 : X.2 2 i = 0 := g1
          have g3 : 0 < pNb X i := by have g3 := g2; rw [← hpb]; exact Int32.not_le.mp g3
          have hs : shd X i = true := by simp [shd, g3, g4]
          simp only [sbN, hs, if_true, sb_or i (by omega) _ hlt]
theorem d9 {i : Nat} (h : i < 10) : nI (10 - i) - 1 = nI (9 - i) := by
  have e := nsub (a := 10 - i) (b := 1) (x := nI (10 - i)) (y := 1) rfl rfl (by omega)
  rw [e, show 10 - i - 1 = 9 - i by omega]
theorem d9b {i : Nat} (h : i < 10) : nI (10 - i) - 1 + Int32.ofInt (-1) = nI (10 - (i + 1)) - 1 := by
  rw [d9 h, show 10 - (i + 1) = 9 - i by omega, Int32.sub_eq_add_neg]
  rfl
theorem sb_t {X : OV} (hz : szN X ≤ 10) {k : Nat} (hk : k < 10) : (nI (sbN X (szN X)) >>> (nI k &&& 31)) &&& 1 = nI (if k < szN X ∧ shd X k = true then 1 else 0) := by
  have h1 := sbN_lt X (szN X)
  have h2 : 2 ^ szN X ≤ 2 ^ 10 := Nat.pow_le_pow_right (by decide) hz
  rw [sb_shr _ (by omega) k hk, sbN_bit X _ hz k hk]
set_option maxRecDepth 100000 in
set_option maxHeartbeats 4000000 in
theorem c_X5_shed0 {Γ : GT} {M N : Mem} {R Z : OV} (hR : RI N R) (hZ0 : ok10 Z) (hZ : lsI Z (N.1 1 0) (kpL (N.1 1 0) (szN (N.1 1 0)))) : CtR Γ yX5_shed cX5_shed 5 (some .int) 7 [.ref (ad Γ 5 0 0)] M R (some (.int (if Z.1 0 = 0 then -1000000002 else (N.1 1 0).1 0 - Z.1 0))) (fun R' => RI (if Z.1 0 = 0 then N else chM N (tmX (N.1 1 0) Z) (N.1 0 0)) R') := by
  refine ctr_of (by decide) (Nat.le_of_ble_eq_true rfl) (fun K hg hr => ?_)
  show WM Γ K _ [(0, _)] 0 []
  have hz : ok10 (N.1 1 0) := hR.1.2.1 0 (by decide)
  have hz1 := hz.1
  have hz2 := hz.2
  have hX0 : R.2 0 0 = (N.1 1 0).1 0 := hR.2.1.1.2.1.1
  have hw0 : R.2 0 0 = nI (szN (N.1 1 0)) := hX0.trans hz1
  have hkl := kpL_len (N.1 1 0) (szN (N.1 1 0))
  have hZl := hZ.1
  have hcn : ((List.range (szN (N.1 1 0))).filter (fun j => shd (N.1 1 0) j)).length = cnN (N.1 1 0) (szN (N.1 1 0)) := rfl
  rw [← hZl, hcn] at hkl
  refine wm_aload_n (q := 1) (i := 0) hg dX5_shed_0 rfl rfl rfl ?_
  refine wm_callV1 (q := 4) hg dX5_shed_1 rfl lk_X5_113 (by first | decide | omega) (c_X5_shedSet hR.2.1.1.1 hR.2.1.1.2.1) (by first | assumption | decide | omega | (simp only [nO]; omega)) ⟨rfl, by decide⟩ rfl rfl (Nat.le_of_ble_eq_true rfl) ?_
  refine wm_istore_n (q := 5) (i := 1) (L' := [(0, _), (1, _)]) hg dX5_shed_4 rfl rfl rfl rfl ?_
  refine wm_iconst (q := 6) 0 hg dX5_shed_5 rfl (by decide) ?_
  refine wm_istore_n (q := 7) (i := 2) (L' := [(0, _), (1, _), (2, _)]) hg dX5_shed_6 rfl rfl rfl rfl ?_
  refine wm_iconst (q := 8) 0 hg dX5_shed_7 rfl (by decide) ?_
  refine wm_istore_n (q := 9) (i := 3) (L' := [(0, _), (1, _), (2, _), (3, _)]) hg dX5_shed_8 rfl rfl rfl rfl ?_
  suffices hloop : ∀ (n i : Nat), i + n = (szN (N.1 1 0)) → WM Γ K (sR M R) [(0, .ref (ad Γ 5 0 0)), (1, .int (nI (sbN (N.1 1 0) (szN (N.1 1 0))))), (2, .int (nI (cnN (N.1 1 0) i))), (3, .int (nI i))] 9 [] from hloop (szN (N.1 1 0)) 0 (by omega)
  intro n
  induction n with
  | zero =>
    intro i hi 
    refine wm_iload_n (q := 10) (i := 3) hg dX5_shed_9 rfl rfl rfl ?_
    refine wm_aload_n (q := 11) (i := 0) hg dX5_shed_10 rfl rfl rfl ?_
    refine wm_get (q := 14) hg dX5_shed_11 rfl fl_X5_7 (by first | assumption | decide | omega | (simp only [nO]; omega)) rfl ?_
    refine wm_iconst (q := 15) 0 hg dX5_shed_14 rfl (by decide) ?_
    refine wm_rload (q := 16) 0 hg dX5_shed_15 rfl rfl (rfl : (0 : Int32) = nI 0) (by simp only [alen]; omega) ?_
    refine wm_icmp_ge (q := 33) (q2 := 19) hg dX5_shed_16 (by decide) rfl (fun hb => ?_) (fun hb => ?_)
    · have he : i = szN (N.1 1 0) := by omega
      subst he
      refine wm_iload_n (q := 34) (i := 2) hg dX5_shed_33 rfl rfl rfl ?_
      refine wm_aload_n (q := 35) (i := 0) hg dX5_shed_34 rfl rfl rfl ?_
      refine wm_get (q := 38) hg dX5_shed_35 rfl fl_X5_7 (by first | assumption | decide | omega | (simp only [nO]; omega)) rfl ?_
      refine wm_iconst (q := 39) 0 hg dX5_shed_38 rfl (by decide) ?_
      refine wm_rload (q := 40) 0 hg dX5_shed_39 rfl rfl (rfl : (0 : Int32) = nI 0) (by simp only [alen]; omega) ?_
      refine wm_icmp_ne (q := 46) (q2 := 43) hg dX5_shed_40 (by decide) rfl (fun h2 => ?_) (fun h2 => ?_)
      · have hne : ¬ Z.1 0 = 0 := by
          intro z
          have z0 : szN Z = 0 := by unfold szN; rw [z]; rfl
          exact h2 (by rw [hw0, show cnN (N.1 1 0) (szN (N.1 1 0)) = szN (N.1 1 0) by omega])
        have hZp : 1 ≤ szN Z := Nat.pos_of_ne_zero (fun z => hne (by rw [hZ0.1, z]; rfl))
        refine wm_aload_n (q := 47) (i := 0) hg dX5_shed_46 rfl rfl rfl ?_
        refine wm_callR0 (q := 50) hg dX5_shed_47 rfl lk_X5_103 (by first | decide | omega) (c_X5_record (N := N) hR.1.1 hR.2.2.1 hR.2.1) (by first | assumption | decide | omega | (simp only [nO]; omega)) ⟨rfl, by decide⟩ rfl rfl (Nat.le_of_ble_eq_true rfl) (fun R1 ⟨hs1, hw1, hH1⟩ => ?_)
        have hW1 : RW (R1.2 0) (N.1 1 0) (N.1 0 0) := by rw [hw1]; exact hR.2.1
        refine wm_aload_n (q := 51) (i := 0) hg dX5_shed_50 rfl rfl rfl ?_
        refine wm_callV1 (q := 54) hg dX5_shed_51 rfl lk_X5_95 (by first | decide | omega) (c_X5_energy (X := N.1 1 0) hz hW1.1.2.1) (by first | assumption | decide | omega | (simp only [nO]; omega)) ⟨rfl, by decide⟩ rfl rfl (Nat.le_of_ble_eq_true rfl) ?_
        refine wm_istore_n (q := 55) (i := 3) (L' := [(0, _), (1, _), (2, _), (3, _)]) hg dX5_shed_54 rfl rfl rfl rfl ?_
        refine wm_bipush (q := 57) 9 hg dX5_shed_55 rfl (by decide) ?_
        refine wm_istore (q := 59) (i := 4) (L' := [(0, _), (1, _), (2, _), (3, _), (4, _)]) hg dX5_shed_57 rfl rfl rfl ?_
        suffices hloop : ∀ (n i : Nat), i + n = 10 → ∀ (w : Nat → Int32) (Y : OV), w 0 = Y.1 0 → rwA (szN Y) w Y → (∀ k, 31 ≤ k → w k = R1.2 0 k) → ok10 Y → lsI Y (N.1 1 0) (dnL (N.1 1 0) (szN (N.1 1 0)) (min (10 - i) (szN (N.1 1 0)))) → WM Γ K (sR M (oA R1 0 w)) [(0, .ref (ad Γ 5 0 0)), (1, .int (nI (sbN (N.1 1 0) (szN (N.1 1 0))))), (2, .int (nI (cnN (N.1 1 0) (szN (N.1 1 0))))), (3, .int (energy (N.1 1 0))), (4, .int (nI (10 - i) - 1))] 59 [] from wm_R (oA_self R1 0).symm (hloop 10 0 (by omega) _ (N.1 1 0) (by rw [hw1, hX0]) hW1.1.2.1.2.1 (fun _ _ => rfl) hz (by rw [show min (10 - 0) (szN (N.1 1 0)) = (szN (N.1 1 0)) by omega, dnL_n _ (Nat.le_refl _) (Nat.le_refl _)]; exact lsI_id _))
        intro n
        induction n with
        | zero =>
          intro i hi w Y hw0b hwA hwK hYk hls
          refine wm_iload (q := 61) (i := 4) hg dX5_shed_59 rfl rfl ?_
          refine wm_if_lt (q := 86) (q2 := 64) hg dX5_shed_61 (by decide) rfl (fun hb => ?_) (fun hb => ?_)
          · have hi10 : i = 10 := by omega
            subst hi10
            rw [show min (10 - 10) (szN (N.1 1 0)) = 0 from Nat.zero_min _, dnL_0] at hls
            obtain ⟨q1, q2⟩ := lsI_eq hZ hls
            have hzt : szN (tmX (N.1 1 0) Z) = szN Z := by unfold szN; rw [tmX_0]
            have ha1 : (tmX (N.1 1 0) Z).2 1 = Z.2 1 := by simp [tmX, updA]
            have ha2 : (tmX (N.1 1 0) Z).2 2 = Z.2 2 := by simp [tmX, updA]
            have ha3 : (tmX (N.1 1 0) Z).2 3 = Z.2 3 := by simp [tmX, updA]
            have hWe : RW ((oA R1 0 w).2 0) (tmX (N.1 1 0) Z) (N.1 0 0) := by
              rw [oA_w]
              refine RW_new hW1 ⟨ok10_tm hZ0, by omega, fun k hk => ?_⟩ ?_ (fun k hk => ?_) hwK (fun j hj => upd_ne _ _ hj)
              · rw [hzt] at hk
                have hk2 := List.getElem?_eq_getElem (l := kpL (N.1 1 0) (szN (N.1 1 0))) (i := k) (by omega)
                obtain ⟨b1, b2, b3⟩ := hZ.2 k _ hk2
                have hm : (kpL (N.1 1 0) (szN (N.1 1 0)))[k] ∈ kpL (N.1 1 0) (szN (N.1 1 0)) := List.getElem_mem _
                have hm2 : (kpL (N.1 1 0) (szN (N.1 1 0)))[k] < (szN (N.1 1 0)) := List.mem_range.mp (List.mem_filter.mp hm).1
                rw [ha1, ha2, ha3, b1, b2, b3]
                exact hW1.1.1.2.2 _ hm2
              · rw [hw0b, tmX_0, hYk.1, ← q1, ← hZ0.1]
              · rw [hzt] at hk
                obtain ⟨b1, b2, b3⟩ := q2 k hk
                rw [ha1, ha2, ha3, b1, b2, b3]; exact hwA k (by omega)
            refine wm_aload_n (q := 87) (i := 0) hg dX5_shed_86 rfl rfl rfl ?_
            refine wm_iload_n (q := 88) (i := 3) hg dX5_shed_87 rfl rfl rfl ?_
            refine wm_callR1 (q := 91) hg dX5_shed_88 rfl lk_X5_107 (by first | decide | omega) (c_X5_end (X := tmX (N.1 1 0) Z) (B := N.1 0 0) (e := energy (N.1 1 0)) hWe) (by first | assumption | decide | omega | (simp only [nO]; omega)) ⟨rfl, by decide⟩ rfl rfl (Nat.le_of_ble_eq_true rfl) (fun R2 hR2 => ?_)
            refine wm_istore (q := 93) (i := 4) (L' := [(0, _), (1, _), (2, _), (3, _), (4, _)]) hg dX5_shed_91 rfl rfl rfl ?_
            refine wm_iload_n (q := 94) (i := 2) hg dX5_shed_93 rfl rfl rfl ?_
            exact wm_irret hg hr dX5_shed_94 (by rw [if_neg hne, hz1, hZ0.1]; exact (nsub (a := (szN (N.1 1 0))) (b := szN Z) rfl rfl (by omega)).symm ▸ (by rw [show cnN (N.1 1 0) (szN (N.1 1 0)) = (szN (N.1 1 0)) - szN Z by omega])) (by obtain ⟨w2, rfl, q⟩ := hR2; rw [if_neg hne]; exact RI_ch hR hH1 (hs1.tr ((Sm.A _ (by decide)).tr (Sm.A _ (by decide)))) (by rw [oA_w]; exact q))
          · exact absurd (show nI (10 - i) - 1 < 0 by rw [show 10 - i = 0 by omega]; decide) hb
        | succ n ih =>
          intro i hi w Y hw0b hwA hwK hYk hls
          refine wm_iload (q := 61) (i := 4) hg dX5_shed_59 rfl rfl ?_
          refine wm_if_lt (q := 86) (q2 := 64) hg dX5_shed_61 (by decide) rfl (fun hb => ?_) (fun hb => ?_)
          · exact absurd hb (by rw [d9 (by omega)]; exact nI_pos (by omega))
          · refine wm_iload_n (q := 65) (i := 1) hg dX5_shed_64 rfl rfl rfl ?_
            refine wm_iload (q := 67) (i := 4) hg dX5_shed_65 rfl rfl ?_
            refine wm_ishr (q := 68) hg dX5_shed_67 rfl ?_
            refine wm_iconst (q := 69) 1 hg dX5_shed_68 rfl (by decide) ?_
            refine wm_iand (q := 70) hg dX5_shed_69 rfl ?_
            refine wm_iconst (q := 71) 1 hg dX5_shed_70 rfl (by decide) ?_
            refine wm_icmp_ne (q := 80) (q2 := 74) hg dX5_shed_71 (by decide) rfl (fun hbit => ?_) (fun hbit => ?_)
            · refine wm_iinc (q := 83) (L' := [(0, _), (1, _), (2, _), (3, _), (4, _)]) _ hg dX5_shed_80 rfl rfl rfl rfl rfl ?_
              refine wm_goto (q := 59) hg dX5_shed_83 (by decide) ?_
              rw [d9 (show i < 10 by omega), sb_t hz2 (show 9 - i < 10 by omega)] at hbit
              have hns : ¬ (9 - i < (szN (N.1 1 0)) ∧ shd (N.1 1 0) (9 - i) = true) := fun z => hbit (by rw [if_pos z]; rfl)
              refine wm_Leq (by rw [d9b (by omega)]) (ih (i + 1) (by omega) w Y hw0b hwA hwK hYk ?_)
              have e : dnL (N.1 1 0) (szN (N.1 1 0)) (min (10 - (i + 1)) (szN (N.1 1 0))) = dnL (N.1 1 0) (szN (N.1 1 0)) (min (10 - i) (szN (N.1 1 0))) := by
                by_cases hin : 9 - i < (szN (N.1 1 0))
                · rw [show min (10 - (i + 1)) (szN (N.1 1 0)) = 9 - i by omega, show min (10 - i) (szN (N.1 1 0)) = 9 - i + 1 by omega, dnL_s _ hin, if_neg (fun z => hns ⟨hin, z⟩)]
                · rw [show min (10 - (i + 1)) (szN (N.1 1 0)) = (szN (N.1 1 0)) by omega, show min (10 - i) (szN (N.1 1 0)) = (szN (N.1 1 0)) by omega]
              rw [e]; exact hls
            · have hss : 9 - i < (szN (N.1 1 0)) ∧ shd (N.1 1 0) (9 - i) = true := by
                have hbit2 := hbit
                rw [d9 (show i < 10 by omega), sb_t hz2 (show 9 - i < 10 by omega)] at hbit2
                refine Decidable.byContradiction (fun z => ?_)
                rw [if_neg z] at hbit2
                exact absurd hbit2 (by decide)
              have hls2 : lsI Y (N.1 1 0) (dnL (N.1 1 0) (szN (N.1 1 0)) (9 - i + 1)) := by have h := hls; rw [show min (10 - i) (szN (N.1 1 0)) = 9 - i + 1 by omega] at h; exact h
              have hpY : 9 - i < szN Y := by rw [hls2.1]; unfold dnL; rw [List.length_append, List.length_range]; omega
              have hYk2 := hYk.2
              refine wm_aload_n (q := 75) (i := 0) hg dX5_shed_74 rfl rfl rfl ?_
              refine wm_iload (q := 77) (i := 4) hg dX5_shed_75 rfl rfl ?_
              refine wm_callR0 (q := 80) hg dX5_shed_77 rfl lk_X5_110 (by first | decide | omega) (c_X5_take (X := Y) hYk (d9 (show i < 10 by omega)) hpY (by rw [oA_w]; exact hw0b) (by rw [oA_w]; exact hwA)) (by first | assumption | decide | omega | (simp only [nO]; omega)) ⟨rfl, by decide⟩ rfl rfl (Nat.le_of_ble_eq_true rfl) (fun R3 hR3 => ?_)
              refine wm_iinc (q := 83) (L' := [(0, _), (1, _), (2, _), (3, _), (4, _)]) _ hg dX5_shed_80 rfl rfl rfl rfl rfl ?_
              refine wm_goto (q := 59) hg dX5_shed_83 (by decide) ?_
              rw [d9 (show i < 10 by omega), sb_t hz2 (show 9 - i < 10 by omega)] at hbit
              obtain ⟨wt, rfl, ht1, ht2, ht3⟩ := hR3
              refine wm_Leq (by rw [d9b (by omega)]) (wm_R (oA_oA _ _ _ _) (ih (i + 1) (by omega) wt (toX Y (9 - i)) ht1 ?_ ?_ (ok10_to hYk hpY) ?_))
              · intro k hk
                have hzt : szN (toX Y (9 - i)) = szN Y - 1 := szN_of ((toX_0 Y (9 - i)).trans (nsub hYk.1 rfl (by omega))) (by omega)
                exact ht2 k (by omega)
              · intro k hk; rw [ht3 k hk, oA_w]; exact hwK k hk
              · rw [show min (10 - (i + 1)) (szN (N.1 1 0)) = 9 - i by omega, dnL_s _ hss.1, if_pos hss.2]
                exact lsI_to hls2 hYk hpY
      · have hcz : cnN (N.1 1 0) (szN (N.1 1 0)) = szN (N.1 1 0) := by
          rw [hw0] at h2
          exact (nI_eq (by omega) (by omega)).mp h2
        have hze : Z.1 0 = 0 := by rw [hZ0.1, show szN Z = 0 by omega]; rfl
        refine wm_ldc (q := 45) (-1000000002) hg dX5_shed_43 rfl ld_X5_59 ?_
        exact wm_irret hg hr dX5_shed_45 (by rw [if_pos hze]) (by rw [if_pos hze]; exact hR)
    · exact absurd (lpLe hw0 (by omega) (by omega)) hb
  | succ n ih =>
    intro i hi 
    refine wm_iload_n (q := 10) (i := 3) hg dX5_shed_9 rfl rfl rfl ?_
    refine wm_aload_n (q := 11) (i := 0) hg dX5_shed_10 rfl rfl rfl ?_
    refine wm_get (q := 14) hg dX5_shed_11 rfl fl_X5_7 (by first | assumption | decide | omega | (simp only [nO]; omega)) rfl ?_
    refine wm_iconst (q := 15) 0 hg dX5_shed_14 rfl (by decide) ?_
    refine wm_rload (q := 16) 0 hg dX5_shed_15 rfl rfl (rfl : (0 : Int32) = nI 0) (by simp only [alen]; omega) ?_
    refine wm_icmp_ge (q := 33) (q2 := 19) hg dX5_shed_16 (by decide) rfl (fun hb => ?_) (fun hb => ?_)
    · exact absurd hb (lpLt hw0 (by omega) (by omega))
    · refine wm_iload_n (q := 20) (i := 2) hg dX5_shed_19 rfl rfl rfl ?_
      refine wm_iload_n (q := 21) (i := 1) hg dX5_shed_20 rfl rfl rfl ?_
      refine wm_iload_n (q := 22) (i := 3) hg dX5_shed_21 rfl rfl rfl ?_
      refine wm_ishr (q := 23) hg dX5_shed_22 rfl ?_
      refine wm_iconst (q := 24) 1 hg dX5_shed_23 rfl (by decide) ?_
      refine wm_iand (q := 25) hg dX5_shed_24 rfl ?_
      refine wm_iadd (q := 26) hg dX5_shed_25 rfl ?_
      refine wm_istore_n (q := 27) (i := 2) (L' := [(0, _), (1, _), (2, _), (3, _)]) hg dX5_shed_26 rfl rfl rfl rfl ?_
      refine wm_iinc (q := 30) (L' := [(0, _), (1, _), (2, _), (3, _)]) (nI (i + 1)) hg dX5_shed_27 rfl rfl (nadd rfl rfl) rfl rfl ?_
      refine wm_goto (q := 9) hg dX5_shed_30 (by decide) ?_
      refine wm_Leq ?_ (ih (i + 1) (by omega))
      rw [sb_t hz2 (show i < 10 by omega), cnN_s, nI_add]
      simp only [show i < szN (N.1 1 0) by omega, true_and]
theorem c_X5_shed {Γ : GT} {M N : Mem} {R : OV} (hR : RI N R) : CtR Γ yX5_shed cX5_shed 5 (some .int) 7 [.ref (ad Γ 5 0 0)] M R (some (.int (fShed N).1)) (fun R' => RI (fShed N).2 R') := by
  have hrg := hR.2.1.1.1
  have h10 := hrg.1.2
  have hk := (shR_ok (N.1 1 11) (N.1 1 0) (szN (N.1 1 0)) h10).1
  have h := c_X5_shed0 (Γ := Γ) (M := M) (N := sO N 1 11 (shR (N.1 1 11) (N.1 1 0) (szN (N.1 1 0)))) (R := R) (Z := shR (N.1 1 11) (N.1 1 0) (szN (N.1 1 0))) (RI_11 hR (Nat.le_refl 11) hk) hk (by rw [sO11_c]; exact shR_ls hrg _ (Nat.le_refl _))
  rw [sO11_c, sO11_b] at h
  unfold fShed
  split
  · next hz =>
    rw [if_pos hz, if_pos hz] at h
    exact h
  · next hz =>
    rw [if_neg hz, if_neg hz] at h
    exact h
