/-! ===== class and reference: the relation ===== -/
def rowF (f : Nat → Int32) (j : Nat) : Nat → Int32 := fun k => f (130 * j + k)
theorem RW_congr {w w' : Nat → Int32} {X B : OV} (h : RW w X B) (e : ∀ k, k < 130 → w' k = w k) : RW w' X B := by
  obtain ⟨⟨hg, hc, hb⟩, hG⟩ := h
  have h10 := hg.1.2
  have h30 := hb.1.2
  refine ⟨⟨hg, ⟨?_, fun k hk => ⟨?_, ?_, ?_⟩, ?_, ?_, fun a => ?_⟩, ⟨hb.1, ?_, ?_, ?_, ?_, ?_, fun j hj => ⟨?_, ?_, ?_⟩⟩⟩, ?_, ?_⟩
  · rw [e _ (by omega)]; exact hc.1
  · rw [e _ (by omega)]; exact (hc.2.1 k hk).1
  · rw [e _ (by omega)]; exact (hc.2.1 k hk).2.1
  · rw [e _ (by omega)]; exact (hc.2.1 k hk).2.2
  · rw [e _ (by omega)]; exact hc.2.2.1
  · rw [e _ (by omega)]; exact hc.2.2.2.1
  · rw [e _ (by omega), e _ (by omega)]; exact hc.2.2.2.2 a
  · rw [e _ (by omega)]; exact hb.2.1
  · rw [e _ (by omega)]; exact hb.2.2.1
  · rw [e _ (by omega)]; exact hb.2.2.2.1
  · rw [e _ (by omega)]; exact hb.2.2.2.2.1
  · rw [e _ (by omega)]; exact hb.2.2.2.2.2.1
  · rw [e _ (by omega)]; exact (hb.2.2.2.2.2.2 j hj).1
  · rw [e _ (by omega)]; exact (hb.2.2.2.2.2.2 j hj).2.1
  · rw [e _ (by omega)]; exact (hb.2.2.2.2.2.2 j hj).2.2
  · rw [e _ (by omega)]; exact hG.1
  · rw [e _ (by omega)]; exact hG.2
def relH (N : Mem) (c : Int32) (p : Nat → Int32) : Prop := c = nI (unN N) ∧ ∀ j, j < unN N → RW (rowF p j) (N.1 1 (N.2 j)) (N.1 0 (N.2 j))
def relI (N : Mem) (q r : Nat → Int32) : Prop := ∀ i, i < 2 → q i = (N.1 4 0).2 4 i ∧ ((N.1 4 0).2 4 i ≠ 0 → RW (rowF r i) (N.1 1 (9 + i)) (N.1 0 (9 + i)))
def relT (T R : OV) : Prop := R.1 6 = T.1 1 ∧ (∀ k, k < txN T → R.2 5 k = T.2 0 k) ∧ R.1 7 = T.1 2 ∧ R.1 8 = T.1 3
def RI (N : Mem) (R : OV) : Prop := InvC N ∧ RW (R.2 0) (N.1 1 0) (N.1 0 0) ∧ relH N (R.1 2) (R.2 1) ∧ relI N (R.2 4) (R.2 3) ∧ relT (N.1 3 0) R
/-! ===== recording ===== -/
theorem un_reY {M : Mem} (h : HU M) (h8 : unN M < 8) : unN (reY M) = unN M + 1 ∧ HU (reY M) := by
  have e : ((reY M).1 4 0).1 2 = nI (unN M + 1) := by
    unfold reY
    rw [sI, sO_same]
    simp only [oI, upd_same]
    rw [h.1]; exact nI_1 _
  have e2 : unN (reY M) = unN M + 1 := by
    show (((reY M).1 4 0).1 2).toNatClampNeg = _
    rw [e, nI_clamp (by omega)]
  exact ⟨e2, by rw [e, e2], by omega, h.2.2⟩
theorem reY_atc (M : Mem) : (reY M).1 1 (M.2 (unN M)) = M.1 1 0 := by
  unfold reY
  rw [sI, sO_kind _ _ _ _ (by decide), sO_kind _ _ _ _ (by decide), sO_same]
theorem reY_atb (M : Mem) : (reY M).1 0 (M.2 (unN M)) = M.1 0 0 := by
  unfold reY
  rw [sI, sO_kind _ _ _ _ (by decide), sO_same]
theorem un_ge {M : Mem} (h : HU M) (h8 : ¬ (M.1 4 0).1 2 < 8) : unN M = 8 := by
  have := h.2.1
  rcases Nat.lt_or_ge (unN M) 8 with q | q
  · exact absurd (by rw [h.1]; exact nI_lt q (by decide)) h8
  · omega
theorem drM_h {M : Mem} {k : Nat} (hk : k < 7) : (drM M).2 k = M.2 (k + 1) := by
  show (if k = 7 then M.2 0 else hiL M.2 8 k) = _
  rw [if_neg (by omega)]
  unfold hiL
  rw [if_pos (by omega)]
theorem HU_rec {M : Mem} (h : HU M) : HU (recM M) := by
  unfold recM
  split
  · next h8 => exact (un_reY h (un_lt h h8)).2
  · exact (un_reY (HU_dr h) (by rw [unN_dr]; decide)).2
theorem recM_ca {M : Mem} (g : Nat) : ((recM M).1 1 g = M.1 1 g ∨ (recM M).1 1 g = M.1 1 0) ∧ ((recM M).1 0 g = M.1 0 g ∨ (recM M).1 0 g = M.1 0 0) := by
  have key : ∀ M : Mem, ((reY M).1 1 g = M.1 1 g ∨ (reY M).1 1 g = M.1 1 0) ∧ ((reY M).1 0 g = M.1 0 g ∨ (reY M).1 0 g = M.1 0 0) := by
    intro M
    refine ⟨?_, ?_⟩
    · by_cases h : M.2 (unN M) = g
      · right; rw [← h]; exact reY_atc M
      · left; exact reY_c h
    · by_cases h : M.2 (unN M) = g
      · right; rw [← h]; exact reY_atb M
      · left; exact reY_b h
  unfold recM
  split
  · exact key M
  · have := key (drM M)
    rw [drM_kind g (by decide), drM_kind g (by decide), drM_kind 0 (by decide), drM_kind 0 (by decide)] at this
    exact this
theorem recM_kept (M : Mem) : ((recM M).1 4 0).2 = (M.1 4 0).2 := by
  have key : ∀ M : Mem, ((reY M).1 4 0).2 = (M.1 4 0).2 := by
    intro M
    unfold reY
    rw [sI, sO_same]
    show ((sO (sO M 1 _ _) 0 _ _).1 4 0).2 = _
    rw [sO_kind _ _ _ _ (by decide), sO_kind _ _ _ _ (by decide)]
  unfold recM
  split
  · exact key M
  · rw [key (drM M)]
    unfold drM
    rw [sI, sO_same]
theorem InvC_P {M : Mem} (h : InvC M) {X B : OV} (hX : ok10 X) (hB : okB B) : InvC (setP M X B) := by
  obtain ⟨h1, h2, h3, h4⟩ := h
  have e4 : (setP M X B).1 4 0 = M.1 4 0 := setP_k M X B 0 (by decide) (by decide)
  have e5 : unN (setP M X B) = unN M := by unfold unN; rw [e4]
  refine ⟨⟨by rw [e4, e5]; exact h1.1, by rw [e5]; exact h1.2.1, h1.2.2⟩, fun g hg => ?_, fun g hg => ?_, ?_⟩
  · by_cases h0 : g = 0
    · subst h0; rw [setP_c]; exact hX
    · rw [setP_cg M X B h0]; exact h2 g hg
  · by_cases h0 : g = 0
    · subst h0; rw [setP_b]; exact hB
    · rw [setP_bg M X B h0]; exact h3 g hg
  · rw [setP_k M X B 0 (by decide) (by decide)]; exact h4
theorem InvC_rec {M : Mem} (h : InvC M) : InvC (recM M) := by
  refine ⟨HU_rec h.1, fun g hg => ?_, fun g hg => ?_, by rw [recM_kind 0 (by decide) (by decide) (by decide)]; exact h.2.2.2⟩
  · rcases (recM_ca (M := M) g).1 with e | e
    · rw [e]; exact h.2.1 g hg
    · rw [e]; exact h.2.1 0 (by decide)
  · rcases (recM_ca (M := M) g).2 with e | e
    · rw [e]; exact h.2.2.1 g hg
    · rw [e]; exact h.2.2.1 0 (by decide)
theorem relH_lt {N : Mem} {c : Int32} {p p' w : Nat → Int32} (hU : HU N) (h : relH N c p) (hW : RW w (N.1 1 0) (N.1 0 0)) (h8 : (N.1 4 0).1 2 < 8) (h1 : ∀ k, k < 130 * unN N → p' k = p k) (h2 : ∀ k, k < 130 → p' (130 * unN N + k) = w k) : relH (recM N) (nI (unN N + 1)) p' := by
  have hl := un_lt hU h8
  have e : recM N = reY N := by unfold recM; rw [if_pos h8]
  rw [e]
  obtain ⟨u1, u2⟩ := un_reY hU hl
  refine ⟨by rw [u1], fun j hj => ?_⟩
  rw [u1] at hj
  show RW _ ((reY N).1 1 (N.2 j)) ((reY N).1 0 (N.2 j))
  by_cases hje : j = unN N
  · subst hje
    rw [reY_atc, reY_atb]
    exact RW_congr hW (fun k hk => h2 k hk)
  · have hne : N.2 (unN N) ≠ N.2 j := fun z => hje (hU.2.2.2 _ _ (by omega) (by omega) z.symm)
    rw [reY_c hne, reY_b hne]
    exact RW_congr (h.2 j (by omega)) (fun k hk => h1 _ (by omega))
theorem relH_ge {N : Mem} {c : Int32} {p p' w : Nat → Int32} (hU : HU N) (h : relH N c p) (hW : RW w (N.1 1 0) (N.1 0 0)) (h8 : ¬ (N.1 4 0).1 2 < 8) (h1 : ∀ k, k < 910 → p' k = p (k + 130)) (h2 : ∀ k, k < 130 → p' (910 + k) = w k) : relH (recM N) 8 p' := by
  have hl := un_ge hU h8
  have e : recM N = reY (drM N) := by unfold recM; rw [if_neg h8]
  rw [e]
  have hD := HU_dr hU
  have hd := unN_dr N
  obtain ⟨u1, u2⟩ := un_reY hD (by omega)
  refine ⟨by rw [u1, hd]; rfl, fun j hj => ?_⟩
  rw [u1] at hj
  show RW _ ((reY (drM N)).1 1 ((drM N).2 j)) ((reY (drM N)).1 0 ((drM N).2 j))
  by_cases hje : j = unN (drM N)
  · rw [hje, reY_atc, reY_atb, drM_kind _ (by decide), drM_kind _ (by decide)]
    exact RW_congr hW (fun k hk => by rw [hd]; exact h2 k hk)
  · have hne : (drM N).2 (unN (drM N)) ≠ (drM N).2 j := fun z => hje (hD.2.2.2 _ _ (by omega) (by omega) z.symm)
    rw [reY_c hne, reY_b hne, drM_kind _ (by decide), drM_kind _ (by decide), drM_h (by omega)]
    refine RW_congr (h.2 (j + 1) (by omega)) (fun k hk => ?_)
    unfold rowF
    rw [h1 _ (by omega), show 130 * j + k + 130 = 130 * (j + 1) + k by omega]
/-! ===== after a change ===== -/
/-- the parts of the reference's object that only text and images change -/
def Sm (R R' : OV) : Prop := R'.2 3 = R.2 3 ∧ R'.2 4 = R.2 4 ∧ R'.2 5 = R.2 5 ∧ R'.1 6 = R.1 6 ∧ R'.1 7 = R.1 7 ∧ R'.1 8 = R.1 8
theorem Sm.rf (R : OV) : Sm R R := ⟨rfl, rfl, rfl, rfl, rfl, rfl⟩
theorem Sm.tr {R S T : OV} (h : Sm R S) (k : Sm S T) : Sm R T := ⟨k.1.trans h.1, k.2.1.trans h.2.1, k.2.2.1.trans h.2.2.1, k.2.2.2.1.trans h.2.2.2.1, k.2.2.2.2.1.trans h.2.2.2.2.1, k.2.2.2.2.2.trans h.2.2.2.2.2⟩
theorem Sm.A {R : OV} {s : Nat} (f : Nat → Int32) (h : s ≠ 3 ∧ s ≠ 4 ∧ s ≠ 5) : Sm R (oA R s f) := ⟨updA_ne _ _ (Ne.symm h.1), updA_ne _ _ (Ne.symm h.2.1), updA_ne _ _ (Ne.symm h.2.2), rfl, rfl, rfl⟩
theorem Sm.I {R : OV} {s : Nat} (v : Int32) (h : s ≠ 6 ∧ s ≠ 7 ∧ s ≠ 8) : Sm R (oI R s v) := ⟨rfl, rfl, rfl, upd_ne _ _ (Ne.symm h.1), upd_ne _ _ (Ne.symm h.2.1), upd_ne _ _ (Ne.symm h.2.2)⟩
theorem relT_sm {T R R' : OV} (h : relT T R) (k : Sm R R') : relT T R' := ⟨k.2.2.2.1.trans h.1, fun j hj => by rw [k.2.2.1]; exact h.2.1 j hj, k.2.2.2.2.1.trans h.2.2.1, k.2.2.2.2.2.trans h.2.2.2⟩
theorem RI_ch {N : Mem} {R R' X B : OV} (h : RI N R) (hH : relH (recM N) (R'.1 2) (R'.2 1)) (hs : Sm R R') (hW : RW (R'.2 0) X B) : RI (setP (recM N) X B) R' := by
  obtain ⟨h1, -, -, h4, h5⟩ := h
  have hU := h1.1
  have hR := InvC_rec h1
  have e4 : (setP (recM N) X B).1 4 0 = (recM N).1 4 0 := setP_k _ X B 0 (by decide) (by decide)
  have e5 : unN (setP (recM N) X B) = unN (recM N) := by unfold unN; rw [e4]
  refine ⟨InvC_P hR hW.1.1.1 hW.1.2.2.1, by rw [setP_c, setP_b]; exact hW, ⟨by rw [e5]; exact hH.1, fun j hj => ?_⟩, fun i hi => ?_, ?_⟩
  · rw [e5] at hj
    have hj8 := hR.1.2.1
    have := hR.1.2.2.1 j (by omega)
    show RW _ ((setP (recM N) X B).1 1 ((recM N).2 j)) ((setP (recM N) X B).1 0 ((recM N).2 j))
    rw [setP_cg _ X B (by omega), setP_bg _ X B (by omega)]
    exact hH.2 j hj
  · rw [e4, recM_kept, setP_cg _ X B (by omega), setP_bg _ X B (by omega), recM_c hU (Or.inr (by omega)), recM_b hU (Or.inr (by omega)), hs.1, hs.2.1]
    exact h4 i hi
  · rw [setP_k _ X B 0 (by decide) (by decide), recM_kind 0 (by decide) (by decide) (by decide)]
    exact relT_sm h5 hs
/-- the copies don't matter -/
theorem RI_kp {N N' : Mem} {R : OV} (h : RI N R) (k : Kp 11 N N') (ho : okAll N') : RI N' R := by
  obtain ⟨h1, h2, h3, h4, h5⟩ := h
  have hU := h1.1
  have e4 : N'.1 4 0 = N.1 4 0 := k.2 4 0 (Or.inl (by decide))
  have e5 : unN N' = unN N := by unfold unN; rw [e4]
  have e6 : N'.1 3 0 = N.1 3 0 := k.2 3 0 (Or.inl (by decide))
  refine ⟨⟨⟨by rw [e4, e5]; exact hU.1, by rw [e5]; exact hU.2.1, by rw [k.1]; exact hU.2.2⟩, ho, fun g hg => by rw [k.2 0 g (Or.inl (by decide))]; exact h1.2.2.1 g hg, by rw [e6]; exact h1.2.2.2⟩, by rw [k.2 1 0 (Or.inr (by decide)), k.2 0 0 (Or.inl (by decide))]; exact h2, ⟨by rw [e5]; exact h3.1, fun j hj => ?_⟩, fun i hi => ?_, by rw [e6]; exact h5⟩
  · rw [e5] at hj
    have hj8 := hU.2.1
    have := hU.2.2.1 j (by omega)
    rw [k.1, k.2 1 _ (Or.inr (by omega)), k.2 0 _ (Or.inl (by decide))]
    exact h3.2 j hj
  · rw [e4, k.2 1 _ (Or.inr (by omega)), k.2 0 _ (Or.inl (by decide))]
    exact h4 i hi
theorem RI_11 {N : Mem} {R C : OV} (h : RI N R) {g : Nat} (hg : 11 ≤ g) (hC : ok10 C) : RI (sO N 1 g C) R := RI_kp h (Kp.sO N C hg) (okAll.sO h.1.2.1 hC)
theorem RI_R {N : Mem} {R R' : OV} (h : RI N R) (hs : Sm R R') (h1 : R'.1 2 = R.1 2) (h2 : R'.2 1 = R.2 1) (hW : RW (R'.2 0) (N.1 1 0) (N.1 0 0)) : RI N R' := by
  refine ⟨h.1, hW, by rw [h1, h2]; exact h.2.2.1, ?_, relT_sm h.2.2.2.2 hs⟩
  rw [hs.1, hs.2.1]
  exact h.2.2.2.1
