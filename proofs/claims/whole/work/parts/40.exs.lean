/-! ===== exactly so many pushes: the search without shortcuts, and the class's ===== -/
def plD (k : Nat) : Int32 := if k % 2 = 0 then 1 else -1
noncomputable def nxC (X : OV) (k : Nat) : OV := (stR (turnX X (k / 2) (plD k))).2
noncomputable def exL (rc : OV → Bool) (X : OV) : Nat → Nat → Option Nat
  | 0, _ => none
  | n + 1, k => if X.2 2 (k / 2) = 1 then exL rc X n (k + 1) else if rc (nxC X k) = true then some k else exL rc X n (k + 1)
noncomputable def exP : Nat → OV → Bool
  | 0, X => decide (gmS X (szN X) = 0)
  | p + 1, X => (exL (exP p) X (2 * szN X) 0).isSome
theorem nxC_1 (X : OV) (k : Nat) : (nxC X k).1 = X.1 := stR_1 _
theorem nxC_eqc {X Y : OV} (h : EqC X Y) (hX : ok10 X) (k : Nat) : EqC (nxC X k) (nxC Y k) := (stR_eqc (turnX_eqc h (k / 2) (plD k)) (ok10_1 rfl hX)).2
theorem exL_eqc {rc : OV → Bool} (hr : ∀ X Y, EqC X Y → ok10 X → rc X = rc Y) {X Y : OV} (h : EqC X Y) (hX : ok10 X) : ∀ n k, k + n ≤ 2 * szN X → exL rc X n k = exL rc Y n k
  | 0, _, _ => rfl
  | n + 1, k, hk => by
    have h2 := (h.2 (k / 2) (by omega)).2.1
    unfold exL
    rw [h2, hr _ _ (nxC_eqc h hX k) (ok10_1 (nxC_1 X k) hX), exL_eqc hr h hX n (k + 1) (by omega)]
theorem exP_eqc : ∀ (p : Nat) (X Y : OV), EqC X Y → ok10 X → exP p X = exP p Y
  | 0, X, Y, h, _ => by
    unfold exP
    rw [gm_eqc h]
  | p + 1, X, Y, h, hX => by
    unfold exP
    rw [exL_eqc (exP_eqc p) h hX _ _ (by omega), h.sz]
theorem exL_some {rc : OV → Bool} {X : OV} : ∀ n k j, exL rc X n k = some j → k ≤ j ∧ j < k + n ∧ ¬ X.2 2 (j / 2) = 1 ∧ rc (nxC X j) = true
  | 0, _, _, h => by cases h
  | n + 1, k, j, h => by
    unfold exL at h
    split at h
    · obtain ⟨a, b, c⟩ := exL_some n (k + 1) j h
      exact ⟨by omega, by omega, c⟩
    · next h1 =>
      split at h
      · next h2 =>
        cases h
        exact ⟨Nat.le_refl _, by omega, h1, h2⟩
      · obtain ⟨a, b, c⟩ := exL_some n (k + 1) j h
        exact ⟨by omega, by omega, c⟩
theorem exL_none {rc : OV → Bool} {X : OV} : ∀ n k, exL rc X n k = none → ∀ j, k ≤ j → j < k + n → ¬ X.2 2 (j / 2) = 1 → ¬ rc (nxC X j) = true
  | 0, _, _, j, h1, h2, _ => absurd h2 (by omega)
  | n + 1, k, h, j, h1, h2, h3 => by
    unfold exL at h
    split at h
    · next h4 =>
      by_cases hj : j = k
      · subst hj; exact absurd h4 h3
      · exact exL_none n (k + 1) h j (by omega) (by omega) h3
    · split at h
      · cases h
      · next h5 =>
        by_cases hj : j = k
        · subst hj; exact h5
        · exact exL_none n (k + 1) h j (by omega) (by omega) h3
theorem exP_no {p : Nat} {X : OV} (h : exP (p + 1) X = false) {j : Nat} (hj : j < 2 * szN X) (h3 : ¬ X.2 2 (j / 2) = 1) : exP p (nxC X j) = false := by
  unfold exP at h
  cases he : exL (exP p) X (2 * szN X) 0 with
  | none =>
    have := exL_none _ _ he j (by omega) (by omega) h3
    simpa using this
  | some v => rw [he] at h; cases h
theorem stX_2 : ∀ (f : Nat) (X : OV) (s : Nat), s ≠ 1 → (stX f X).2.2 s = X.2 s
  | 0, _, _, _ => rfl
  | f + 1, X, s, hs => by
    unfold stX
    split
    · rfl
    · show (stX f (tn1 X)).2.2 s = X.2 s
      rw [stX_2 f (tn1 X) s hs]
      exact updA_ne X.2 _ hs
theorem stR_2 (X : OV) {s : Nat} (hs : s ≠ 1) : (stR X).2.2 s = X.2 s := by
  rw [stR_eq]
  exact stX_2 200 X s hs
/-- the levels hold the chain's other numbers -/
def LVs (M : Mem) (X : OV) : Prop := ∀ g, 11 ≤ g → g < 15 → (M.1 1 g).1 = X.1 ∧ (M.1 1 g).2 2 = X.2 2 ∧ (M.1 1 g).2 3 = X.2 3
theorem nxX_r (H Nn : OV) (k : Nat) : (nxX H Nn k).1 = Nn.1 ∧ (nxX H Nn k).2 2 = Nn.2 2 ∧ (nxX H Nn k).2 3 = Nn.2 3 := by
  refine ⟨nxX_1 H Nn k, ?_, ?_⟩
  · unfold nxX
    rw [stR_2 _ (by decide)]
    rfl
  · unfold nxX
    rw [stR_2 _ (by decide)]
    rfl
theorem nxM_lv {M : Mem} {X : OV} (h : LVs M X) {lv : Nat} (hl : lv < 3) (k : Nat) : LVs (nxM M lv k) X := by
  intro g h1 h2
  unfold nxM
  by_cases hg : g = 12 + lv
  · subst hg
    rw [sO_same]
    obtain ⟨a, b, c⟩ := nxX_r (M.1 1 (11 + lv)) (M.1 1 (12 + lv)) k
    obtain ⟨a', b', c'⟩ := h (12 + lv) (by omega) (by omega)
    exact ⟨a.trans a', b.trans b', c.trans c'⟩
  · rw [sO_idx _ _ _ _ hg]
    exact h g h1 h2
theorem nxM_eqc {M : Mem} {X : OV} (h : LVs M X) (ho : okAll M) {lv : Nat} (hl : lv < 3) (hX : EqC (M.1 1 (11 + lv)) X) (k : Nat) : EqC ((nxM M lv k).1 1 (12 + lv)) (nxC X k) := by
  unfold nxM
  rw [sO_same]
  obtain ⟨a, b, c⟩ := h (12 + lv) (by omega) (by omega)
  obtain ⟨a', b', c'⟩ := h (11 + lv) (by omega) (by omega)
  have e : EqC (oA (M.1 1 (12 + lv)) 1 ((M.1 1 (11 + lv)).2 1)) (M.1 1 (11 + lv)) := by
    refine ⟨a.trans a'.symm, fun k _ => ⟨by rw [oA_w], ?_, ?_⟩⟩
    · rw [oA_x _ _ (by decide), b, b']
    · rw [oA_x _ _ (by decide), c, c']
  have ho1 : ok10 (oA (M.1 1 (12 + lv)) 1 ((M.1 1 (11 + lv)).2 1)) := ok10_1 rfl (ho (12 + lv) (by omega))
  exact (stR_eqc (turnX_eqc (e.tr hX) (k / 2) (plD k)) (ok10_1 rfl ho1)).2
