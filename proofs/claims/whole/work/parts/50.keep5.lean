/-! ===== the class's methods leave the reference's object ===== -/
def K5 (M M' : Mem) : Prop := M'.1 5 0 = M.1 5 0
theorem K5.rf (M : Mem) : K5 M M := rfl
theorem K5.tr {M N Q : Mem} (h : K5 M N) (k : K5 N Q) : K5 M Q := k.trans h
theorem K5_sO (M : Mem) {ci : Nat} (i : Nat) (X : OV) (h : 5 ≠ ci) : K5 M (sO M ci i X) := sO_kind M i 0 X h
theorem K5_rec (M : Mem) : K5 M (recM M) := recM_kind 0 (by decide) (by decide) (by decide)
theorem K5_setP (M : Mem) (X B : OV) : K5 M (setP M X B) := (K5_sO M 0 X (by decide)).tr (K5_sO _ 0 B (by decide))
theorem K5_ch (M : Mem) (X B : OV) : K5 M (chM M X B) := (K5_rec M).tr (K5_setP _ _ _)
theorem K5_kp {M N : Mem} (h : Kp 11 M N) : K5 M N := h.2 5 0 (Or.inl (by decide))
theorem k5_begin (M : Mem) (n : Int32) : K5 M (fBegin M n).2 := by
  unfold fBegin
  split
  · exact K5.rf M
  · exact (K5_rec M).tr (K5_setP _ _ _)
theorem k5_ins (M : Mem) (p a : Int32) : K5 M (fIns M p a).2 := by
  unfold fIns
  (repeat' split) <;> first | exact K5.rf M | exact K5_ch _ _ _
theorem k5_rem (M : Mem) (i : Int32) : K5 M (fRem M i).2 := by
  unfold fRem
  (repeat' split) <;> first | exact K5.rf M | exact K5_ch _ _ _
theorem k5_hold (M : Mem) (i a : Int32) : K5 M (fHold M i a).2 := by
  unfold fHold
  (repeat' split) <;> first | exact K5.rf M | exact K5_ch _ _ _
theorem k5_push (M : Mem) (i a : Int32) : K5 M (fPush M i a).2 := by
  unfold fPush
  (repeat' split) <;> first | exact K5.rf M | exact K5_ch _ _ _
theorem k5_set (M : Mem) (i a : Int32) : K5 M (fSet M i a).2 := by
  unfold fSet
  (repeat' split) <;> first | exact K5.rf M | exact K5_ch _ _ _
theorem k5_goal (M : Mem) (i a : Int32) : K5 M (fGoal M i a).2 := by
  unfold fGoal
  (repeat' split) <;> first | exact K5.rf M | exact K5_ch _ _ _
theorem k5_undo (M : Mem) : K5 M (fUndo M).2 := by
  unfold fUndo
  split
  · exact (K5_sO M 0 _ (by decide)).tr (K5_setP _ _ _)
  · exact K5.rf M
theorem k5_mov (M : Mem) (i a : Int32) : K5 M (fMov M i a).2 := by
  unfold fMov
  (repeat' split) <;> first | exact K5.rf M | exact K5_sO _ _ _ (by decide)
theorem k5_write (M : Mem) (v : Int32) : K5 M (fWrite M v).2 := by
  unfold fWrite
  (repeat' split) <;> first | exact K5.rf M | exact K5_sO _ _ _ (by decide)
theorem k5_wipe (M : Mem) : K5 M (sI M 3 0 1 0) := K5_sO M 0 _ (by decide)
theorem k5_keep (M : Mem) (v : Int32) : K5 M (fKeep M v).2 := by
  unfold fKeep keM
  (repeat' split) <;> first | exact K5.rf M | exact ((K5_sO _ _ _ (by decide)).tr (K5_sO _ _ _ (by decide))).tr (K5_sO _ _ _ (by decide))
theorem k5_back (M : Mem) (v : Int32) : K5 M (fBack M v).2 := by
  unfold fBack
  (repeat' split) <;> first | exact K5.rf M | exact (K5_rec M).tr (K5_setP _ _ _)
theorem k5_shed (M : Mem) : K5 M (fShed M).2 := by
  unfold fShed
  split
  · exact K5_sO _ _ _ (by decide)
  · exact (K5_sO M 11 _ (by decide)).tr (K5_ch _ _ _)
theorem k5_rev (M : Mem) : K5 M (fRev M).2 := (K5_sO M 11 _ (by decide)).tr (K5_ch _ _ _)
theorem k5_load (M : Mem) : K5 M (fLoad M).2 := by
  unfold fLoad
  split
  · exact (K5_sO M 11 _ (by decide)).tr (K5_ch _ _ _)
  · exact (K5_sO M 11 _ (by decide)).tr (K5_sO _ _ _ (by decide))
theorem k5_loop (M : Mem) (a b c : Int32) : K5 M (fLoop M a b c).2 := by
  unfold fLoop
  (repeat' split) <;> first | exact K5.rf M | exact K5_sO _ _ _ (by decide)
theorem nxM_k5 (M : Mem) (lv k : Nat) : K5 M (nxM M lv k) := K5_kp ((nxM_kp M lv k).mo (by omega))
theorem fpM_k5 (p lv : Nat) (M : Mem) : K5 M (fpM p lv M).2 := K5_kp ((fpM_kp p lv M).mo (by omega))
theorem svL_k5 (what : Int32) : ∀ (n j : Nat) (M : Mem), K5 M (svL what n j M).2
  | 0, _, M => K5.rf M
  | n + 1, j, M => by
    unfold svL
    split
    · exact (fpM_k5 j 0 M).tr (svL_k5 what n (j + 1) _)
    · exact fpM_k5 j 0 M
theorem k5_solve (M : Mem) (a b : Int32) : K5 M (fSolve M a b).2 := by
  unfold fSolve
  (repeat' split) <;> first | exact K5.rf M | exact (K5_kp (cpM_kp M 4)).tr (svL_k5 _ _ _ _)
theorem unN_sR (N : Mem) (R : OV) : unN (sR N R) = unN N := by
  unfold unN sR
  rw [sO_kind _ _ _ _ (by decide)]
/-- the relation doesn't look at the memory's place of the reference -/
theorem RI_sR {N : Mem} {R : OV} (h : RI N R) (S : OV) : RI (sR N S) R := by
  have e : ∀ ci i, ci ≠ 5 → (sR N S).1 ci i = N.1 ci i := fun ci i hc => sO_kind N 0 i S hc
  have e2 : (sR N S).2 = N.2 := rfl
  have eu := unN_sR N S
  obtain ⟨⟨⟨a1, a2, a3⟩, b1, b2, b3⟩, c, d, f, g⟩ := h
  refine ⟨⟨⟨by rw [e 4 0 (by decide), eu]; exact a1, by rw [eu]; exact a2, a3⟩, fun k hk => by rw [e 1 k (by decide)]; exact b1 k hk, fun k hk => by rw [e 0 k (by decide)]; exact b2 k hk, by rw [e 3 0 (by decide)]; exact b3⟩, by rw [e 1 0 (by decide), e 0 0 (by decide)]; exact c, ⟨by rw [eu]; exact d.1, fun j hj => ?_⟩, fun i hi => ?_, by rw [e 3 0 (by decide)]; exact g⟩
  · rw [eu] at hj
    rw [e2, e 1 _ (by decide), e 0 _ (by decide)]
    exact d.2 j hj
  · rw [e 4 0 (by decide), e 1 _ (by decide), e 0 _ (by decide)]
    exact f i hi
