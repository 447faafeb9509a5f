/-! ===== the class's search is the exact one where fewer pushes don't do ===== -/
def rsV : Option Nat → Int32
  | none => -1000000009
  | some k => nI k
theorem rsV_none {o : Option Nat} (h : ∀ j, o = some j → j < 100) : rsV o = -1000000009 ↔ o = none := by
  cases o with
  | none => exact ⟨fun _ => rfl, fun _ => rfl⟩
  | some j =>
    refine ⟨fun z => ?_, fun z => by cases z⟩
    have hj := h j rfl
    have e := congrArg Int32.toInt (show nI j = -1000000009 from z)
    rw [nI_toInt (by omega), show (-1000000009 : Int32).toInt = -1000000009 from by decide] at e
    omega
theorem dfS_n {X Y : OV} : ∀ i, i < 2 ^ 30 → ∃ n : Nat, n ≤ i ∧ dfS X Y i = nI n := by
  intro i
  induction i with
  | zero => exact fun _ => ⟨0, Nat.le_refl 0, rfl⟩
  | succ i ih =>
    intro hi
    obtain ⟨n, n1, n2⟩ := ih (by omega)
    by_cases hq : X.2 1 i = Y.2 1 i
    · refine ⟨n, by omega, ?_⟩
      show dfS X Y i + (if X.2 1 i = Y.2 1 i then 0 else 1) = _
      rw [if_pos hq, Int32.add_zero, n2]
    · refine ⟨n + 1, by omega, ?_⟩
      show dfS X Y i + (if X.2 1 i = Y.2 1 i then 0 else 1) = _
      rw [if_neg hq, n2]
      exact nI_1 _
theorem dfS_pos {X Y : OV} {i : Nat} (hi : i < 2 ^ 30) (h : ¬ 0 < dfS X Y i) : ∀ k, k < i → X.2 1 k = Y.2 1 k := by
  obtain ⟨n, n1, n2⟩ := dfS_n (X := X) (Y := Y) i hi
  refine (dfS_0 i hi).mp ?_
  rw [n2] at h ⊢
  rcases Nat.eq_zero_or_pos n with z | z
  · rw [z]; rfl
  · exact absurd (nI_lt (a := 0) z (by omega)) h
theorem LVs_nx {M : Mem} {X : OV} (k : Nat) : LVs M X → LVs M (nxC X k) := by
  intro h g h1 h2
  obtain ⟨a, b, c⟩ := h g h1 h2
  refine ⟨a.trans (nxC_1 X k).symm, b.trans ?_, c.trans ?_⟩
  · unfold nxC; rw [stR_2 _ (by decide)]; rfl
  · unfold nxC; rw [stR_2 _ (by decide)]; rfl
theorem LVs_xn {M : Mem} {X : OV} (k : Nat) : LVs M (nxC X k) → LVs M X := by
  intro h g h1 h2
  obtain ⟨a, b, c⟩ := h g h1 h2
  refine ⟨a.trans (nxC_1 X k), b.trans ?_, c.trans ?_⟩
  · unfold nxC; rw [stR_2 _ (by decide)]; rfl
  · unfold nxC; rw [stR_2 _ (by decide)]; rfl
def fpQ (X : OV) (lv : Nat) (o : Option Nat) (r : Int32 × Mem) : Prop := r.1 = rsV o ∧ LVs r.2 X ∧ okAll r.2 ∧ EqC (r.2.1 1 (11 + lv)) X
theorem fpL_ex {rc : Mem → Int32 × Mem} {lv p : Nat} {X : OV} (hl : lv < 3) (hX : ok10 X) (hno : ∀ q, 1 ≤ q → q < p + 1 → exP q X = false)
    (hrc : ∀ r, p = r + 1 → ∀ M Z, ok10 Z → okAll M → LVs M Z → EqC (M.1 1 (11 + (lv + 1))) Z → (∀ q, 1 ≤ q → q < r + 1 → exP q Z = false) → fpQ Z (lv + 1) (exL (exP r) Z (2 * szN Z) 0) (rc M) ∧ Kp (12 + lv) M (rc M).2) :
    ∀ n k M, okAll M → LVs M X → EqC (M.1 1 (11 + lv)) X → k + n = 2 * szN X → fpQ X lv (exL (exP p) X n k) (fpL rc lv (p + 1) n k M)
  | 0, _, M, ho, hv, he, _ => ⟨rfl, hv, ho, he⟩
  | n + 1, k, M, ho, hv, he, hk => by
    have h2 : (M.1 1 (11 + lv)).2 2 (k / 2) = X.2 2 (k / 2) := by rw [(hv (11 + lv) (by omega) (by omega)).2.1]
    have ho2 := nxM_ok ho hl k
    have hv2 := nxM_lv hv hl k
    have hq := nxM_eqc hv ho hl he k
    have he1 : (nxM M lv k).1 1 (11 + lv) = M.1 1 (11 + lv) := sO_idx _ _ _ _ (by omega)
    have he2 : EqC ((nxM M lv k).1 1 (11 + lv)) X := by rw [he1]; exact he
    have hon : ok10 (nxC X k) := ok10_1 (nxC_1 X k) hX
    have hoA : ok10 ((nxM M lv k).1 1 (12 + lv)) := ho2 _ (by omega)
    unfold fpL exL
    rw [h2]
    by_cases hh : X.2 2 (k / 2) = 1
    · rw [if_pos hh, if_pos hh]
      exact fpL_ex hl hX hno hrc n (k + 1) M ho hv he (by omega)
    · rw [if_neg hh, if_neg hh]
      have ihn := fpL_ex hl hX hno hrc n (k + 1) (nxM M lv k) ho2 hv2 he2 (by omega)
      by_cases hp : p = 0
      · subst hp
        rw [if_pos rfl]
        have hg := gm_eqc hq
        by_cases hz : gmS ((nxM M lv k).1 1 (12 + lv)) (szN ((nxM M lv k).1 1 (12 + lv))) = 0
        · rw [if_pos hz, if_pos (show exP 0 (nxC X k) = true from decide_eq_true (hg ▸ hz))]
          exact ⟨rfl, hv2, ho2, he2⟩
        · rw [if_neg hz, if_neg (show ¬ exP 0 (nxC X k) = true from fun z => hz (hg.trans (of_decide_eq_true z)))]
          exact ihn
      · obtain ⟨r, hr⟩ : ∃ r, p = r + 1 := ⟨p - 1, by omega⟩
        subst hr
        rw [if_neg (show ¬ (r + 1 + 1 = 1) by omega)]
        have hkz : k < 2 * szN X := by omega
        by_cases hd : 0 < dfS ((nxM M lv k).1 1 (12 + lv)) ((nxM M lv k).1 1 (11 + lv)) (szN ((nxM M lv k).1 1 (12 + lv)))
        · rw [if_pos hd]
          obtain ⟨⟨g1, g2, g3, g4⟩, g5⟩ := hrc r rfl (nxM M lv k) (nxC X k) hon ho2 (LVs_nx k hv2) (by rw [show 11 + (lv + 1) = 12 + lv by omega]; exact hq) (fun q q1 q2 => exP_no (hno (q + 1) (by omega) (by omega)) hkz hh)
          have hkp : EqC ((rc (nxM M lv k)).2.1 1 (11 + lv)) X := by rw [g5.2 1 (11 + lv) (Or.inr (by omega))]; exact he2
          have hs10 : szN (nxC X k) ≤ 10 := hon.2
          have hj : ∀ j, exL (exP r) (nxC X k) (2 * szN (nxC X k)) 0 = some j → j < 100 := fun j z => by have := exL_some _ _ _ z; omega
          by_cases hn : (rc (nxM M lv k)).1 = -1000000009
          · rw [if_pos hn]
            have hnone := (rsV_none hj).mp (g1.symm.trans hn)
            rw [if_neg (show ¬ exP (r + 1) (nxC X k) = true from by unfold exP; rw [hnone]; decide)]
            exact fpL_ex hl hX hno hrc n (k + 1) (rc (nxM M lv k)).2 g3 (LVs_xn k g2) hkp (by omega)
          · rw [if_neg hn]
            have hsome : exP (r + 1) (nxC X k) = true := by
              unfold exP
              cases he : exL (exP r) (nxC X k) (2 * szN (nxC X k)) 0 with
              | none => rw [he] at g1; exact absurd g1 hn
              | some j => rfl
            rw [if_pos hsome]
            exact ⟨rfl, LVs_xn k g2, g3, hkp⟩
        · rw [if_neg hd]
          have hA := dfS_pos (by have := hoA.2; omega) hd
          obtain ⟨a, b, c⟩ := hv2 (12 + lv) (by omega) (by omega)
          obtain ⟨a', b', c'⟩ := hv2 (11 + lv) (by omega) (by omega)
          have hAB : EqC ((nxM M lv k).1 1 (12 + lv)) ((nxM M lv k).1 1 (11 + lv)) := ⟨a.trans a'.symm, fun j hj => ⟨hA j hj, by rw [b, b'], by rw [c, c']⟩⟩
          have hsame : exP (r + 1) (nxC X k) = exP (r + 1) X := exP_eqc _ _ _ (hq.sy.tr (hAB.tr he2)) hon
          rw [if_neg (show ¬ exP (r + 1) (nxC X k) = true from by rw [hsame, hno (r + 1) (by omega) (by omega)]; decide)]
          exact ihn
