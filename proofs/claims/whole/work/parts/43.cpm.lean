/-! ===== the copies at solve's beginning ===== -/
theorem cpM_at (M : Mem) : ∀ i g, 11 ≤ g → g < 11 + i → (cpM M i).1 1 g = M.1 1 0
  | 0, g, h1, h2 => absurd h2 (by omega)
  | i + 1, g, h1, h2 => by
    show (sO (cpM M i) 1 (11 + i) (M.1 1 0)).1 1 g = _
    by_cases hg : g = 11 + i
    · subst hg
      exact sO_same _ _ _ _
    · rw [sO_idx _ _ _ _ hg]
      exact cpM_at M i g h1 (by omega)
theorem cpM_lv (M : Mem) : LVs (cpM M 4) (M.1 1 0) := fun g h1 h2 => by
  rw [cpM_at M 4 g h1 (by omega)]
  exact ⟨rfl, rfl, rfl⟩
theorem cpM_eqc (M : Mem) : EqC ((cpM M 4).1 1 11) (M.1 1 0) := by
  rw [cpM_at M 4 11 (by omega) (by omega)]
  exact EqC.rf _
/-- the class's solve: the exact search's answer; the memory but for the copies kept -/
theorem fSolve_ex {N : Mem} {R : OV} (hR : RI N R) {most what : Int32} {m : Nat} (hm : most = nI m) (h3 : m ≤ 3) (hw : ¬ wthn what 0 2 = 0) (hmm : ¬ wthn most 0 3 = 0) (hg : ¬ gmS (N.1 1 0) (szN (N.1 1 0)) = 0) : (fSolve N most what).1 = exS what (N.1 1 0) m 1 ∧ ∀ R', RI N R' → RI (fSolve N most what).2 R' := by
  have hz : ok10 (N.1 1 0) := hR.1.2.1 0 (by decide)
  have ho : okAll (cpM N 4) := cpM_ok hR.1.2.1 4
  obtain ⟨a, b, c⟩ := svL_ex (what := what) hz m 1 (cpM N 4) (Nat.le_refl 1) (by omega) ho (cpM_lv N) (cpM_eqc N) (fun q h1 h2 => absurd h2 (by omega))
  have e : fSolve N most what = svL what m 1 (cpM N 4) := by
    unfold fSolve
    rw [if_neg hmm, if_neg hw, if_neg hg, hm, nI_clamp (by omega)]
  rw [e]
  exact ⟨a, fun R' h => RI_kp h ((cpM_kp N 4).tr c) b⟩
