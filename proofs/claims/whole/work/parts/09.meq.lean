/-! ===== memories that hold the same cells ===== -/
def oeq (ci : Nat) (X Y : OV) : Prop := (∀ j, isI ci j = true → X.1 j = Y.1 j) ∧ (∀ s, isA ci s = true → ∀ k, k < alen ci s → X.2 s k = Y.2 s k) ∧ (ci = 4 → ∀ k, k < 2 → X.2 4 k = Y.2 4 k)
def meq (M M' : Mem) : Prop := (∀ k, k < 8 → M.2 k = M'.2 k) ∧ ∀ ci i, oeq ci (M.1 ci i) (M'.1 ci i)
theorem oeq.rf (ci : Nat) (X : OV) : oeq ci X X := ⟨fun _ _ => rfl, fun _ _ _ _ => rfl, fun _ _ _ => rfl⟩
theorem meq.rf (M : Mem) : meq M M := ⟨fun _ _ => rfl, fun ci i => oeq.rf ci _⟩
theorem meq_sO {M M' : Mem} {ci i : Nat} {X Y : OV} (h : meq M M') (hX : oeq ci X Y) : meq (sO M ci i X) (sO M' ci i Y) := by
  refine ⟨h.1, fun c' i' => ?_⟩
  by_cases hz : c' = ci ∧ i' = i
  · obtain ⟨rfl, rfl⟩ := hz
    rw [sO_same, sO_same]
    exact hX
  · have e1 : (sO M ci i X).1 c' i' = M.1 c' i' := by simp only [sO, if_neg hz]
    have e2 : (sO M' ci i Y).1 c' i' = M'.1 c' i' := by simp only [sO, if_neg hz]
    rw [e1, e2]
    exact h.2 c' i'
theorem arrV_congr {c : ClassId} {n : Nat} {f g : Nat → Value} (h : ∀ j, j < n → f j = g j) : arrV c n f = arrV c n g := by
  unfold arrV
  congr 1
  refine congrArg Array.ofFn ?_
  funext j
  exact h j.1 j.2
theorem flds_eq (Γ : GT) {M M' : Mem} {ci i : Nat} (h6 : ci < 6) (h : oeq ci (M.1 ci i) (M'.1 ci i)) : flds Γ M ci i = flds Γ M' ci i := by
  have h1 := h.1
  rcases (show ci = 0 ∨ ci = 1 ∨ ci = 2 ∨ ci = 3 ∨ ci = 4 ∨ ci = 5 by omega) with rfl | rfl | rfl | rfl | rfl | rfl
  · simp only [flds]; rw [h1 0 rfl, h1 1 rfl, h1 2 rfl, h1 3 rfl, h1 4 rfl]
  · simp only [flds]; rw [h1 0 rfl, h1 4 rfl, h1 5 rfl, h1 6 rfl, h1 7 rfl]
  · rfl
  · simp only [flds]; rw [h1 1 rfl, h1 2 rfl, h1 3 rfl]
  · simp only [flds]; rw [h1 2 rfl]
  · simp only [flds]; rw [h1 2 rfl, h1 6 rfl, h1 7 rfl, h1 8 rfl, h1 10 rfl, h1 11 rfl, h1 12 rfl, h1 13 rfl, h1 18 rfl, h1 19 rfl, h1 20 rfl]
theorem keys_ci {ci i j : Nat} (h : (ci, i, j) ∈ keys) : ci < 6 ∧ okJ ci j = true := by
  unfold keys at h
  obtain ⟨a, ha, h1⟩ := List.mem_flatMap.mp h
  obtain ⟨b, hb, h2⟩ := List.mem_flatMap.mp h1
  obtain ⟨c, hc, h3⟩ := List.mem_map.mp h2
  cases h3
  exact ⟨List.mem_range.mp ha, (List.mem_filter.mp hc).2⟩
theorem meq_va {Γ : GT} {M M' : Mem} {cl : List vw_C} {D : va_G} {H : Heap} (h : meq M M') (hP : va_P D cl (mem Γ M) H) : va_P D cl (mem Γ M') H := by
  intro q x hq
  obtain ⟨⟨ci, i, j⟩, hk, rfl⟩ := mem_inv hq
  have h0 := hP q (ad Γ ci i j, cell Γ M ci i j) (by unfold mem; rw [List.getElem?_map, hk]; rfl)
  obtain ⟨hci, hok⟩ := keys_ci (List.mem_of_getElem? hk)
  show va_at D cl (ad Γ ci i j, cell Γ M' ci i j) H
  cases j with
  | zero =>
    rcases Nat.lt_or_ge ci 6 with _ | _
    · have e : cell Γ M' ci i 0 = cell Γ M ci i 0 := by
        show (Sum.inr (ci, flds Γ M' ci i) : va_E) = Sum.inr (ci, flds Γ M ci i)
        rw [flds_eq Γ hci (h.2 ci i)]
      rw [e]
      exact h0
    · omega
  | succ s =>
    have hs : isA ci s = true ∨ isR ci s = true := by
      have h9 : (isA ci s || isR ci s) = true := hok
      rwa [Bool.or_eq_true] at h9
    rcases hs with hs | hs
    · have e0 : cell Γ M ci i (s + 1) = .inl (Γ.2.2.1.1, alen ci s, .inl ((M.1 ci i).2 s)) := acell_isA Γ M hs
      have e1 : cell Γ M' ci i (s + 1) = .inl (Γ.2.2.1.1, alen ci s, .inl ((M'.1 ci i).2 s)) := acell_isA Γ M' hs
      rw [e0] at h0
      rw [e1]
      refine (show H[ad Γ ci i (s + 1)]? = some (vp_cell _ _) from h0).trans ?_
      rw [vp_cell_i, vp_cell_i]
      rw [arrV_congr (fun k hk => by rw [(h.2 ci i).2.1 s hs k hk])]
    · unfold isR at hs
      simp only [Bool.and_eq_true, Bool.or_eq_true, Nat.beq_eq] at hs
      obtain ⟨rfl, ((rfl | rfl) | rfl) | rfl⟩ := hs
      · refine (show H[ad Γ 4 i 2]? = some (vp_cell _ _) from h0).trans ?_
        show _ = some (vp_cell _ _)
        rw [vp_cell_q, vp_cell_q]
        rw [arrV_congr (fun k hk => by rw [h.1 k hk])]
      · exact h0
      · refine (show H[ad Γ 4 i 5]? = some (vp_cell _ _) from h0).trans ?_
        show _ = some (vp_cell _ _)
        rw [vp_cell_i, vp_cell_i]
        rw [arrV_congr (fun k hk => by rw [(h.2 4 i).2.2 rfl k hk])]
      · exact h0
theorem wm_meq {Γ : GT} {K : KT} {M M' : Mem} {L : List (Nat × Value)} {pc : Nat} {st : List Value} (h : meq M M') (kk : WM Γ K M' L pc st) : WM Γ K M L pc st := wm_cells (fun _ hP => meq_va h hP) kk
