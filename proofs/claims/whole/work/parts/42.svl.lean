/-! ===== the class's solve by the exact search ===== -/
theorem fpM_ex : ∀ (p lv : Nat) (M : Mem) (X : OV), lv + p < 3 → ok10 X → okAll M → LVs M X → EqC (M.1 1 (11 + lv)) X → (∀ q, 1 ≤ q → q < p + 1 → exP q X = false) → fpQ X lv (exL (exP p) X (2 * szN X) 0) (fpM (p + 1) lv M)
  | 0, lv, M, X, hl, hX, ho, hv, he, hno => by
    show fpQ X lv _ (fpL (fpM 0 (lv + 1)) lv 1 (2 * szN (M.1 1 (11 + lv))) 0 M)
    rw [he.sz]
    exact fpL_ex (by omega) hX hno (fun r hr => absurd hr (by omega)) _ 0 M ho hv he (by omega)
  | p + 1, lv, M, X, hl, hX, ho, hv, he, hno => by
    show fpQ X lv _ (fpL (fpM (p + 1) (lv + 1)) lv (p + 1 + 1) (2 * szN (M.1 1 (11 + lv))) 0 M)
    rw [he.sz]
    refine fpL_ex (by omega) hX hno (fun r hr M' Z z1 z2 z3 z4 z5 => ?_) _ 0 M ho hv he (by omega)
    have e : r = p := by omega
    subst e
    exact ⟨fpM_ex r (lv + 1) M' Z (by omega) z1 z2 z3 z4 z5, (fpM_kp (r + 1) (lv + 1) M').mo (by omega)⟩
noncomputable def exS (what : Int32) (X : OV) : Nat → Nat → Int32
  | 0, _ => -1000000009
  | n + 1, j => match exL (exP (j - 1)) X (2 * szN X) 0 with
    | none => exS what X n (j + 1)
    | some k => if what = 0 then nI j else if what = 1 then nI k / 2 else dirI (nI k)
theorem svL_ex {what : Int32} {X : OV} (hX : ok10 X) : ∀ n j M, 1 ≤ j → j + n ≤ 4 → okAll M → LVs M X → EqC (M.1 1 11) X → (∀ q, 1 ≤ q → q < j → exP q X = false) → (svL what n j M).1 = exS what X n j ∧ okAll (svL what n j M).2 ∧ Kp 11 M (svL what n j M).2 := by
  intro n
  induction n with
  | zero => exact fun j M _ _ ho _ _ _ => ⟨rfl, ho, Kp.rf _ _⟩
  | succ n ih =>
    intro j M h1 h2 ho hv he hno
    obtain ⟨p, hp⟩ : ∃ p, j = p + 1 := ⟨j - 1, by omega⟩
    subst hp
    obtain ⟨g1, g2, g3, g4⟩ := fpM_ex p 0 M X (by omega) hX ho hv he hno
    have hk : Kp 11 M (fpM (p + 1) 0 M).2 := (fpM_kp (p + 1) 0 M).mo (by omega)
    have hs10 := hX.2
    have hj : ∀ k, exL (exP p) X (2 * szN X) 0 = some k → k < 100 := fun k z => by have := exL_some _ _ _ z; omega
    unfold svL exS
    rw [Nat.add_sub_cancel]
    by_cases hn : (fpM (p + 1) 0 M).1 = -1000000009
    · rw [if_pos hn]
      have hnone := (rsV_none hj).mp (g1.symm.trans hn)
      rw [hnone]
      have hno2 : ∀ q, 1 ≤ q → q < p + 1 + 1 → exP q X = false := by
        intro q q1 q2
        by_cases hq : q = p + 1
        · subst hq
          unfold exP
          rw [hnone]
          rfl
        · exact hno q q1 (by omega)
      obtain ⟨i1, i2, i3⟩ := ih (p + 1 + 1) (fpM (p + 1) 0 M).2 (by omega) (by omega) g3 g2 g4 hno2
      exact ⟨i1, i2, hk.tr i3⟩
    · rw [if_neg hn]
      cases hs : exL (exP p) X (2 * szN X) 0 with
      | none => rw [hs] at g1; exact absurd g1 hn
      | some k =>
        rw [hs] at g1
        refine ⟨?_, g3, hk⟩
        show (if what = 0 then nI (p + 1) else if what = 1 then (fpM (p + 1) 0 M).1 / 2 else dirI (fpM (p + 1) 0 M).1) = _
        rw [g1]
        rfl
