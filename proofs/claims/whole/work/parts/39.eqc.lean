/-! ===== chains that are alike as far as they count ===== -/
def EqC (X Y : OV) : Prop := X.1 = Y.1 ∧ ∀ k, k < szN X → X.2 1 k = Y.2 1 k ∧ X.2 2 k = Y.2 2 k ∧ X.2 3 k = Y.2 3 k
theorem EqC.rf (X : OV) : EqC X X := ⟨rfl, fun _ _ => ⟨rfl, rfl, rfl⟩⟩
theorem EqC.sz {X Y : OV} (h : EqC X Y) : szN X = szN Y := by unfold szN; rw [h.1]
theorem EqC.sy {X Y : OV} (h : EqC X Y) : EqC Y X := ⟨h.1.symm, fun k hk => by
  obtain ⟨a, b, c⟩ := h.2 k (by rw [h.sz]; exact hk)
  exact ⟨a.symm, b.symm, c.symm⟩⟩
theorem EqC.tr {X Y Z : OV} (h : EqC X Y) (g : EqC Y Z) : EqC X Z := ⟨h.1.trans g.1, fun k hk => by
  obtain ⟨a, b, c⟩ := h.2 k hk
  obtain ⟨a', b', c'⟩ := g.2 k (by rw [← h.sz]; exact hk)
  exact ⟨a.trans a', b.trans b', c.trans c'⟩⟩
theorem EqC.ok {X Y : OV} (h : EqC X Y) (hX : ok10 X) : ok10 Y := by
  refine ⟨?_, by rw [← h.sz]; exact hX.2⟩
  rw [← h.1, ← h.sz]
  exact hX.1
theorem pOn_eqc {X Y : OV} (h : EqC X Y) (hX : ok10 X) (a p : Int32) : pOn X a p = pOn Y a p := by
  unfold pOn
  rw [h.1]
  split
  · rfl
  · next h1 =>
    split
    · rfl
    · next h2 =>
      have h10 := hX.2
      have hlt : p.toNatClampNeg < szN X := clampLt hX.1 (by omega) h1 (by rw [h.1]; exact h2)
      rw [(h.2 _ hlt).1]
theorem part_eqc {X Y : OV} (h : EqC X Y) (hX : ok10 X) (i a : Int32) : part X i a = part Y i a := by
  unfold part pof
  rw [pOn_eqc h hX, pOn_eqc h hX, pOn_eqc h hX, pOn_eqc h hX, h.1]
theorem soA_eqc {X Y : OV} (h : EqC X Y) (hX : ok10 X) : ∀ i, i ≤ szN X → soA X i = soA Y i
  | 0, _ => by
    show ((-1 : Int32), (0 : Int32), X.1 5) = (-1, 0, Y.1 5)
    rw [h.1]
  | i + 1, hi => by
    obtain ⟨h1, h2, -⟩ := h.2 i (by omega)
    have hu : soU X i = soU Y i := by
      unfold soU
      rw [part_eqc h hX, part_eqc h hX, h1]
    have hd : soD X i = soD Y i := by
      unfold soD
      rw [part_eqc h hX, part_eqc h hX, h1]
    show soS X i (soA X i) = soS Y i (soA Y i)
    rw [soA_eqc h hX i (by omega)]
    unfold soS
    rw [h2, hu, hd]
theorem soB_eqc {X Y : OV} (h : EqC X Y) (hX : ok10 X) : soB X = soB Y := by
  unfold soB
  rw [soA_eqc h hX _ (Nat.le_refl _), h.sz]
theorem turnX_eqc {X Y : OV} (h : EqC X Y) (t : Nat) (d : Int32) : EqC (turnX X t d) (turnX Y t d) := by
  refine ⟨h.1, fun k hk => ?_⟩
  have hk2 : k < szN X := hk
  obtain ⟨h1, h2, h3⟩ := h.2 k hk2
  refine ⟨?_, ?_, ?_⟩
  · show updA X.2 1 (upd (X.2 1) t ((X.2 1 t + d) &&& 7)) 1 k = updA Y.2 1 (upd (Y.2 1) t ((Y.2 1 t + d) &&& 7)) 1 k
    rw [updA_same, updA_same]
    by_cases hkt : k = t
    · subst hkt
      rw [upd_same, upd_same, h1]
    · rw [upd_ne _ _ hkt, upd_ne _ _ hkt, h1]
  · show updA X.2 1 (upd (X.2 1) t ((X.2 1 t + d) &&& 7)) 2 k = updA Y.2 1 (upd (Y.2 1) t ((Y.2 1 t + d) &&& 7)) 2 k
    rw [updA_ne X.2 _ (show (2 : Nat) ≠ 1 by decide), updA_ne Y.2 _ (show (2 : Nat) ≠ 1 by decide), h2]
  · show updA X.2 1 (upd (X.2 1) t ((X.2 1 t + d) &&& 7)) 3 k = updA Y.2 1 (upd (Y.2 1) t ((Y.2 1 t + d) &&& 7)) 3 k
    rw [updA_ne X.2 _ (show (3 : Nat) ≠ 1 by decide), updA_ne Y.2 _ (show (3 : Nat) ≠ 1 by decide), h3]
theorem stX_eqc : ∀ (f : Nat) (X Y : OV), EqC X Y → ok10 X → (stX f X).1 = (stX f Y).1 ∧ EqC (stX f X).2 (stX f Y).2
  | 0, X, Y, h, _ => ⟨rfl, h⟩
  | f + 1, X, Y, h, hX => by
    have hb := soB_eqc h hX
    unfold stX
    rw [hb]
    split
    · exact ⟨rfl, h⟩
    · have ht : EqC (tn1 X) (tn1 Y) := by
        unfold tn1
        rw [hb]
        exact turnX_eqc h _ _
      obtain ⟨a, b⟩ := stX_eqc f (tn1 X) (tn1 Y) ht (ok10_1 rfl hX)
      exact ⟨congrArg (· + 1) a, b⟩
theorem stR_eqc {X Y : OV} (h : EqC X Y) (hX : ok10 X) : (stR X).1 = (stR Y).1 ∧ EqC (stR X).2 (stR Y).2 := by
  rw [stR_eq, stR_eq]
  exact stX_eqc 200 X Y h hX
theorem gmS_eqc {X Y : OV} (h : EqC X Y) : ∀ i, i ≤ szN X → gmS X i = gmS Y i
  | 0, _ => rfl
  | i + 1, hi => by
    obtain ⟨h1, -, h3⟩ := h.2 i (by omega)
    show gmS X i + _ = gmS Y i + _
    rw [gmS_eqc h i (by omega), h1, h3]
theorem gm_eqc {X Y : OV} (h : EqC X Y) : gmS X (szN X) = gmS Y (szN Y) := by
  rw [gmS_eqc h _ (Nat.le_refl _), h.sz]
/-- no angle differs -/
theorem dfS_0 {X Y : OV} : ∀ i, i < 2 ^ 30 → (dfS X Y i = 0 ↔ ∀ k, k < i → X.2 1 k = Y.2 1 k) := by
  have key : ∀ i, i < 2 ^ 30 → ∃ n : Nat, n ≤ i ∧ dfS X Y i = nI n ∧ (n = 0 ↔ ∀ k, k < i → X.2 1 k = Y.2 1 k) := by
    intro i
    induction i with
    | zero => exact fun _ => ⟨0, Nat.le_refl 0, rfl, fun _ k hk => absurd hk (Nat.not_lt_zero k), fun _ => rfl⟩
    | succ i ih =>
      intro hi
      obtain ⟨n, n1, n2, n3⟩ := ih (by omega)
      by_cases hq : X.2 1 i = Y.2 1 i
      · refine ⟨n, by omega, ?_, ?_⟩
        · show dfS X Y i + (if X.2 1 i = Y.2 1 i then 0 else 1) = _
          rw [if_pos hq, Int32.add_zero, n2]
        · rw [n3]
          refine ⟨fun z k hk => ?_, fun z k hk => z k (by omega)⟩
          by_cases hki : k = i
          · rw [hki]; exact hq
          · exact z k (by omega)
      · refine ⟨n + 1, by omega, ?_, ?_⟩
        · show dfS X Y i + (if X.2 1 i = Y.2 1 i then 0 else 1) = _
          rw [if_neg hq, n2]
          exact nI_1 _
        · exact ⟨fun z => absurd z (by omega), fun z => absurd (z i (by omega)) hq⟩
  intro i hi
  obtain ⟨n, n1, n2, n3⟩ := key i hi
  rw [n2, ← n3]
  exact ⟨fun z => (nI_eq (a := n) (b := 0) (by omega) (by decide)).mp z, fun z => by rw [z]; rfl⟩
