/-! ===== MagnetChain.Chain, .Books, .State: what writes ===== -/
def flF (f : Nat → Int32) (v : Int32) (j : Nat) : Nat → Int32 := fun k => if k < j then v else f k
theorem flF_0 (f : Nat → Int32) (v : Int32) : flF f v 0 = f := by
  funext k
  simp [flF]
theorem flF_s (f : Nat → Int32) (v : Int32) (j : Nat) : upd (flF f v j) j v = flF f v (j + 1) := by
  funext k
  simp only [flF, upd]
  by_cases h : k = j
  · subst h
    simp
  · by_cases h2 : k < j
    · simp [h, h2, Nat.lt_succ_of_lt h2]
    · have h3 : ¬ k < j + 1 := by omega
      simp [h, h2, h3]
theorem updA_self (F : Nat → Nat → Int32) (s : Nat) : updA F s (F s) = F := by
  funext s'
  by_cases h : s' = s
  · subst h; simp [updA]
  · simp [updA, h]
theorem sA_self (M : Mem) (ci i s : Nat) : sA M ci i s ((M.1 ci i).2 s) = M := by
  simp only [sA, oA, updA_self]
  exact sO_self M ci i
def turnX (X : OV) (t : Nat) (d : Int32) : OV := oA X 1 (upd (X.2 1) t ((X.2 1 t + d) &&& 7))
def cpX (X Y : OV) (t f : Nat) : OV := (X.1, updA (updA (updA X.2 1 (upd (X.2 1) t (Y.2 1 f))) 2 (upd (X.2 2) t (Y.2 2 f))) 3 (upd (X.2 3) t (Y.2 3 f)))
def apX (X Y : OV) (f : Nat) : OV := oI (cpX X Y (szN X) f) 0 (X.1 0 + 1)
def piL (X : OV) : Nat → OV
  | 0 => X
  | j + 1 => cpX (piL X j) (piL X j) (szN X - j) (szN X - j - 1)
theorem piL_1 (X : OV) : ∀ j, (piL X j).1 = X.1
  | 0 => rfl
  | j + 1 => piL_1 X j
def piX (X : OV) (p : Nat) (a : Int32) : OV := (upd X.1 0 (X.1 0 + 1), updA (updA (updA (piL X (szN X - p)).2 1 (upd ((piL X (szN X - p)).2 1) p a)) 2 (upd ((piL X (szN X - p)).2 2) p 0)) 3 (upd ((piL X (szN X - p)).2 3) p (-1000000009)))
def toL (X : OV) (p : Nat) : Nat → OV
  | 0 => oI X 0 (X.1 0 - 1)
  | j + 1 => cpX (toL X p j) (toL X p j) (p + j) (p + j + 1)
theorem toL_1 (X : OV) (p : Nat) : ∀ j, (toL X p j).1 = upd X.1 0 (X.1 0 - 1)
  | 0 => rfl
  | j + 1 => toL_1 X p j
def toX (X : OV) (p : Nat) : OV := toL X p (szN X - 1 - p)
def miL (X : OV) : Nat → OV
  | 0 => X
  | i + 1 => if (miL X i).2 3 i = -1000000009 then oA (miL X i) 1 (upd ((miL X i).2 1) i ((4 - (miL X i).2 1 i) &&& 7)) else oA (oA (miL X i) 1 (upd ((miL X i).2 1) i ((4 - (miL X i).2 1 i) &&& 7))) 3 (upd ((miL X i).2 3) i ((4 - (miL X i).2 3 i) &&& 7))
theorem miL_1 (X : OV) : ∀ j, (miL X j).1 = X.1
  | 0 => rfl
  | j + 1 => by
    unfold miL
    split <;> exact miL_1 X j
def swX (X : OV) (v : Int32) : OV := (upd X.1 0 v, updA (updA (updA X.2 1 (fun _ => 0)) 2 (fun _ => 0)) 3 (fun _ => -1000000009))
def tmX (X Y : OV) : OV := (upd X.1 0 (Y.1 0), updA (updA (updA X.2 1 (Y.2 1)) 2 (Y.2 2)) 3 (Y.2 3))
theorem cpy0 {f g : Nat → Int32} {n k : Nat} (h : k < n) : va_cpy f g 0 0 n k = f k := by simp [va_cpy, h]
def shF (f : Nat → Int32) : Nat → Int32 := fun k => if k < 29 then f (1 + k) else f k
def doX (B : OV) : OV := (upd B.1 4 29, updA (updA (updA B.2 5 (shF (B.2 5))) 6 (shF (B.2 6))) 7 (shF (B.2 7)))
def lgN (B : OV) : Nat := (B.1 4).toNatClampNeg
def okB (B : OV) : Prop := B.1 4 = nI (lgN B) ∧ lgN B ≤ 30
def enY (B : OV) (m d f : Int32) : OV := (upd (upd (upd B.1 4 (B.1 4 + 1)) 2 (B.1 2 + 1)) 1 (B.1 1 + f), updA (updA (updA B.2 5 (upd (B.2 5) (lgN B) m)) 6 (upd (B.2 6) (lgN B) d)) 7 (upd (B.2 7) (lgN B) f))
def enX (B : OV) (m d f : Int32) : OV := if B.1 4 < 30 then enY B m d f else enY (doX B) m d f
def clX (B : OV) : OV := (upd (upd (upd (upd (upd B.1 0 0) 1 0) 2 0) 3 0) 4 0, B.2)
theorem lgN_do (B : OV) : lgN (doX B) = 29 := rfl
theorem ok10_sO {M : Mem} {c : Nat} {X : OV} (h : ok10 X) : ok10 ((sO M 1 c X).1 1 c) := by rw [sO_same]; exact h
theorem ok10_1 {X Y : OV} (h : Y.1 = X.1) (hX : ok10 X) : ok10 Y := by
  have e : szN Y = szN X := by unfold szN; rw [h]
  exact ⟨by rw [h, e]; exact hX.1, by rw [e]; exact hX.2⟩
set_option maxRecDepth 100000 in
set_option maxHeartbeats 4000000 in
theorem c_J7_fill_53178 {Γ : GT} {M : Mem} {ci i s : Nat} {v : Int32} (hi : i < nO ci) (h : isA ci s = true) : Ct Γ yJ7_fill_53178 cJ7_fill_53178 4 none 0 [.ref (ad Γ ci i (s + 1)), .int v] M none (sA M ci i s (flF ((M.1 ci i).2 s) v (alen ci s))) := by
  refine ct_of (by decide) (Nat.le_of_ble_eq_true rfl) (fun K hg hr => ?_)
  show WM Γ K _ [(0, _), (1, _)] 0 []
  have hb : alen ci s < 2 ^ 31 := by unfold alen; (repeat' split) <;> decide
  refine wm_iconst (q := 1) 0 hg dJ7_fill_53178_0 rfl (by decide) ?_
  refine wm_istore_n (q := 2) (i := 2) (L' := [(0, _), (1, _), (2, _)]) hg dJ7_fill_53178_1 rfl rfl rfl rfl ?_
  refine wm_aload_n (q := 3) (i := 0) hg dJ7_fill_53178_2 rfl rfl rfl ?_
  refine wm_alen (q := 4) hg dJ7_fill_53178_3 rfl (by first | assumption | decide | omega | (simp only [nO]; omega)) h rfl ?_
  refine wm_istore_n (q := 5) (i := 3) (L' := [(0, _), (1, _), (2, _), (3, _)]) hg dJ7_fill_53178_4 rfl rfl rfl rfl ?_
  suffices hloop : ∀ (n j : Nat), j + n = (alen ci s) → WM Γ K (sA M ci i s (flF ((M.1 ci i).2 s) v j)) [(0, .ref (ad Γ ci i (s + 1))), (1, .int v), (2, .int (nI j)), (3, .int (nI (alen ci s)))] 5 [] from wm_mem (by rw [flF_0]; exact (sA_self M ci i s).symm) (hloop (alen ci s) 0 (by omega))
  intro n
  induction n with
  | zero =>
    intro j hj 
    refine wm_iload_n (q := 6) (i := 2) hg dJ7_fill_53178_5 rfl rfl rfl ?_
    refine wm_iload_n (q := 7) (i := 3) hg dJ7_fill_53178_6 rfl rfl rfl ?_
    refine wm_icmp_ge (q := 20) (q2 := 10) hg dJ7_fill_53178_7 (by decide) rfl (fun hb => ?_) (fun hb => ?_)
    · exact wm_vret hg hr dJ7_fill_53178_20 (by rw [show j = alen ci s from hj])
    · exact absurd (nI_le (by omega) (by omega)) hb
  | succ n ih =>
    intro j hj 
    refine wm_iload_n (q := 6) (i := 2) hg dJ7_fill_53178_5 rfl rfl rfl ?_
    refine wm_iload_n (q := 7) (i := 3) hg dJ7_fill_53178_6 rfl rfl rfl ?_
    refine wm_icmp_ge (q := 20) (q2 := 10) hg dJ7_fill_53178_7 (by decide) rfl (fun hb => ?_) (fun hb => ?_)
    · exact absurd hb (nI_ge (by omega) (by omega))
    · refine wm_aload_n (q := 11) (i := 0) hg dJ7_fill_53178_10 rfl rfl rfl ?_
      refine wm_iload_n (q := 12) (i := 2) hg dJ7_fill_53178_11 rfl rfl rfl ?_
      refine wm_iload_n (q := 13) (i := 1) hg dJ7_fill_53178_12 rfl rfl rfl ?_
      refine wm_iastore (q := 14) j hg dJ7_fill_53178_13 rfl (by first | assumption | decide | omega | (simp only [nO]; omega)) h rfl (by omega) ?_
      refine wm_iinc (q := 17) (L' := [(0, _), (1, _), (2, _), (3, _)]) (nI (j + 1)) hg dJ7_fill_53178_14 rfl rfl (nadd rfl rfl) rfl rfl ?_
      refine wm_goto (q := 5) hg dJ7_fill_53178_17 (by decide) ?_
      exact wm_mem (by simp [sO_same, sO_sO, oA, updA_same, updA_updA, flF_s]) (ih (j + 1) (by omega))
set_option maxRecDepth 100000 in
set_option maxHeartbeats 4000000 in
theorem c_X1_copyMagnet {Γ : GT} {M : Mem} {c o t f : Nat} {x y : Int32} (hc : c < 15) (ho : o < 15) (hx : x = nI t) (hy : y = nI f) (ht : t < 10) (hf : f < 10) : Ct Γ yX1_copyMagnet cX1_copyMagnet 4 none 0 [.ref (ad Γ 1 c 0), .int x, .ref (ad Γ 1 o 0), .int y] M none (sO M 1 c (cpX (M.1 1 c) (M.1 1 o) t f)) := by
  refine ct_of (by decide) (Nat.le_of_ble_eq_true rfl) (fun K hg hr => ?_)
  show WM Γ K _ [(0, _), (1, _), (2, _), (3, _)] 0 []
  refine wm_aload_n (q := 1) (i := 0) hg dX1_copyMagnet_0 rfl rfl rfl ?_
  refine wm_get (q := 4) hg dX1_copyMagnet_1 rfl fl_X1_15 (by first | assumption | decide | omega | (simp only [nO]; omega)) rfl ?_
  refine wm_iload_n (q := 5) (i := 1) hg dX1_copyMagnet_4 rfl rfl rfl ?_
  refine wm_aload_n (q := 6) (i := 2) hg dX1_copyMagnet_5 rfl rfl rfl ?_
  refine wm_get (q := 9) hg dX1_copyMagnet_6 rfl fl_X1_15 (by first | assumption | decide | omega | (simp only [nO]; omega)) rfl ?_
  refine wm_iload_n (q := 10) (i := 3) hg dX1_copyMagnet_9 rfl rfl rfl ?_
  refine wm_iaload (q := 11) f hg dX1_copyMagnet_10 rfl (by first | assumption | decide | omega | (simp only [nO]; omega)) rfl hy (by simp only [alen]; omega) ?_
  refine wm_iastore (q := 12) t hg dX1_copyMagnet_11 rfl (by first | assumption | decide | omega | (simp only [nO]; omega)) rfl hx (by simp only [alen]; omega) ?_
  refine wm_aload_n (q := 13) (i := 0) hg dX1_copyMagnet_12 rfl rfl rfl ?_
  refine wm_get (q := 16) hg dX1_copyMagnet_13 rfl fl_X1_19 (by first | assumption | decide | omega | (simp only [nO]; omega)) rfl ?_
  refine wm_iload_n (q := 17) (i := 1) hg dX1_copyMagnet_16 rfl rfl rfl ?_
  refine wm_aload_n (q := 18) (i := 2) hg dX1_copyMagnet_17 rfl rfl rfl ?_
  refine wm_get (q := 21) hg dX1_copyMagnet_18 rfl fl_X1_19 (by first | assumption | decide | omega | (simp only [nO]; omega)) rfl ?_
  refine wm_iload_n (q := 22) (i := 3) hg dX1_copyMagnet_21 rfl rfl rfl ?_
  refine wm_iaload (q := 23) f hg dX1_copyMagnet_22 rfl (by first | assumption | decide | omega | (simp only [nO]; omega)) rfl hy (by simp only [alen]; omega) ?_
  refine wm_iastore (q := 24) t hg dX1_copyMagnet_23 rfl (by first | assumption | decide | omega | (simp only [nO]; omega)) rfl hx (by simp only [alen]; omega) ?_
  refine wm_aload_n (q := 25) (i := 0) hg dX1_copyMagnet_24 rfl rfl rfl ?_
  refine wm_get (q := 28) hg dX1_copyMagnet_25 rfl fl_X1_22 (by first | assumption | decide | omega | (simp only [nO]; omega)) rfl ?_
  refine wm_iload_n (q := 29) (i := 1) hg dX1_copyMagnet_28 rfl rfl rfl ?_
  refine wm_aload_n (q := 30) (i := 2) hg dX1_copyMagnet_29 rfl rfl rfl ?_
  refine wm_get (q := 33) hg dX1_copyMagnet_30 rfl fl_X1_22 (by first | assumption | decide | omega | (simp only [nO]; omega)) rfl ?_
  refine wm_iload_n (q := 34) (i := 3) hg dX1_copyMagnet_33 rfl rfl rfl ?_
  refine wm_iaload (q := 35) f hg dX1_copyMagnet_34 rfl (by first | assumption | decide | omega | (simp only [nO]; omega)) rfl hy (by simp only [alen]; omega) ?_
  refine wm_iastore (q := 36) t hg dX1_copyMagnet_35 rfl (by first | assumption | decide | omega | (simp only [nO]; omega)) rfl hx (by simp only [alen]; omega) ?_
  exact wm_vret hg hr dX1_copyMagnet_36 (by rcases Decidable.em (o = c) with rfl | ho2 <;> simp [cpX, sO_idx, sO_same, sO_sO, oI, oA, updA_same, updA_ne, updA_updA, upd_same, upd_ne, *])
set_option maxRecDepth 100000 in
set_option maxHeartbeats 4000000 in
theorem c_X1_turn {Γ : GT} {M : Mem} {c t : Nat} {x d : Int32} (hc : c < 15) (hx : x = nI t) (ht : t < 10) : Ct Γ yX1_turn cX1_turn 3 none 0 [.ref (ad Γ 1 c 0), .int x, .int d] M none (sO M 1 c (turnX (M.1 1 c) t d)) := by
  refine ct_of (by decide) (Nat.le_of_ble_eq_true rfl) (fun K hg hr => ?_)
  show WM Γ K _ [(0, _), (1, _), (2, _)] 0 []
  refine wm_aload_n (q := 1) (i := 0) hg dX1_turn_0 rfl rfl rfl ?_
  refine wm_get (q := 4) hg dX1_turn_1 rfl fl_X1_15 (by first | assumption | decide | omega | (simp only [nO]; omega)) rfl ?_
  refine wm_iload_n (q := 5) (i := 1) hg dX1_turn_4 rfl rfl rfl ?_
  refine wm_aload_n (q := 6) (i := 0) hg dX1_turn_5 rfl rfl rfl ?_
  refine wm_get (q := 9) hg dX1_turn_6 rfl fl_X1_15 (by first | assumption | decide | omega | (simp only [nO]; omega)) rfl ?_
  refine wm_iload_n (q := 10) (i := 1) hg dX1_turn_9 rfl rfl rfl ?_
  refine wm_iaload (q := 11) t hg dX1_turn_10 rfl (by first | assumption | decide | omega | (simp only [nO]; omega)) rfl hx (by simp only [alen]; omega) ?_
  refine wm_iload_n (q := 12) (i := 2) hg dX1_turn_11 rfl rfl rfl ?_
  refine wm_iadd (q := 13) hg dX1_turn_12 rfl ?_
  refine wm_bipush (q := 15) 7 hg dX1_turn_13 rfl (by decide) ?_
  refine wm_iand (q := 16) hg dX1_turn_15 rfl ?_
  refine wm_iastore (q := 17) t hg dX1_turn_16 rfl (by first | assumption | decide | omega | (simp only [nO]; omega)) rfl hx (by simp only [alen]; omega) ?_
  exact wm_vret hg hr dX1_turn_17 (rfl)
set_option maxRecDepth 100000 in
set_option maxHeartbeats 4000000 in
theorem c_X1_append {Γ : GT} {M : Mem} {c o f : Nat} {x : Int32} (hc : c < 15) (ho : o < 15) (hz : ok10 (M.1 1 c)) (hs : szN (M.1 1 c) < 10) (hx : x = nI f) (hf : f < 10) : Ct Γ yX1_append cX1_append 3 none 1 [.ref (ad Γ 1 c 0), .ref (ad Γ 1 o 0), .int x] M none (sO M 1 c (apX (M.1 1 c) (M.1 1 o) f)) := by
  refine ct_of (by decide) (Nat.le_of_ble_eq_true rfl) (fun K hg hr => ?_)
  show WM Γ K _ [(0, _), (1, _), (2, _)] 0 []
  refine wm_aload_n (q := 1) (i := 0) hg dX1_append_0 rfl rfl rfl ?_
  refine wm_aload_n (q := 2) (i := 0) hg dX1_append_1 rfl rfl rfl ?_
  refine wm_get (q := 5) hg dX1_append_2 rfl fl_X1_9 (by first | assumption | decide | omega | (simp only [nO]; omega)) rfl ?_
  refine wm_aload_n (q := 6) (i := 1) hg dX1_append_5 rfl rfl rfl ?_
  refine wm_iload_n (q := 7) (i := 2) hg dX1_append_6 rfl rfl rfl ?_
  refine wm_callV0 (q := 10) hg dX1_append_7 rfl lk_X1_57 (by first | decide | omega) (c_X1_copyMagnet (by first | assumption | decide | omega) (by first | assumption | decide | omega) hz.1 hx (by omega) (by omega)) (by first | assumption | decide | omega | (simp only [nO]; omega)) ⟨rfl, by decide⟩ rfl rfl (Nat.le_of_ble_eq_true rfl) ?_
  refine wm_aload_n (q := 11) (i := 0) hg dX1_append_10 rfl rfl rfl ?_
  refine wm_dup (q := 12) hg dX1_append_11 rfl rfl ?_
  refine wm_get (q := 15) hg dX1_append_12 rfl fl_X1_9 (by first | assumption | decide | omega | (simp only [nO]; omega)) rfl ?_
  refine wm_iconst (q := 16) 1 hg dX1_append_15 rfl (by decide) ?_
  refine wm_iadd (q := 17) hg dX1_append_16 rfl ?_
  refine wm_put (q := 20) hg dX1_append_17 rfl fl_X1_9 (by first | assumption | decide | omega | (simp only [nO]; omega)) rfl ?_
  exact wm_vret hg hr dX1_append_20 (by simp [apX, cpX, sO_same, sO_sO, oI, oA, updA_same, updA_ne, updA_updA, upd_same, upd_ne])
set_option maxRecDepth 100000 in
set_option maxHeartbeats 4000000 in
theorem c_X1_putIn {Γ : GT} {M : Mem} {c p : Nat} {x a : Int32} (hc : c < 15) (hz : ok10 (M.1 1 c)) (hs : szN (M.1 1 c) < 10) (hx : x = nI p) (hp : p ≤ szN (M.1 1 c)) : Ct Γ yX1_putIn cX1_putIn 4 none 1 [.ref (ad Γ 1 c 0), .int x, .int a] M none (sO M 1 c (piX (M.1 1 c) p a)) := by
  refine ct_of (by decide) (Nat.le_of_ble_eq_true rfl) (fun K hg hr => ?_)
  show WM Γ K _ [(0, _), (1, _), (2, _)] 0 []
  subst hx
  refine wm_aload_n (q := 1) (i := 0) hg dX1_putIn_0 rfl rfl rfl ?_
  refine wm_get (q := 4) hg dX1_putIn_1 rfl fl_X1_9 (by first | assumption | decide | omega | (simp only [nO]; omega)) rfl ?_
  refine wm_istore_n (q := 5) (i := 3) (L' := [(0, _), (1, _), (2, _), (3, _)]) hg dX1_putIn_4 rfl rfl rfl rfl ?_
  suffices hloop : ∀ (n i : Nat), i + n = ((szN (M.1 1 c)) - p) → WM Γ K (sO M 1 c (piL (M.1 1 c) i)) [(0, .ref (ad Γ 1 c 0)), (1, .int (nI p)), (2, .int a), (3, .int (nI ((szN (M.1 1 c)) - i)))] 5 [] from wm_mem (sO_self M 1 c).symm (wm_Leq (by rw [hz.1]; rfl) (hloop ((szN (M.1 1 c)) - p) 0 (by omega)))
  intro n
  induction n with
  | zero =>
    intro i hi 
    refine wm_iload_n (q := 6) (i := 3) hg dX1_putIn_5 rfl rfl rfl ?_
    refine wm_iload_n (q := 7) (i := 1) hg dX1_putIn_6 rfl rfl rfl ?_
    refine wm_icmp_le (q := 25) (q2 := 10) hg dX1_putIn_7 (by decide) rfl (fun hb => ?_) (fun hb => ?_)
    · refine wm_aload_n (q := 26) (i := 0) hg dX1_putIn_25 rfl rfl rfl ?_
      refine wm_get (q := 29) hg dX1_putIn_26 rfl fl_X1_15 (by first | assumption | decide | omega | (simp only [nO]; omega)) rfl ?_
      refine wm_iload_n (q := 30) (i := 1) hg dX1_putIn_29 rfl rfl rfl ?_
      refine wm_iload_n (q := 31) (i := 2) hg dX1_putIn_30 rfl rfl rfl ?_
      refine wm_iastore (q := 32) p hg dX1_putIn_31 rfl (by first | assumption | decide | omega | (simp only [nO]; omega)) rfl rfl (by simp only [alen]; omega) ?_
      refine wm_aload_n (q := 33) (i := 0) hg dX1_putIn_32 rfl rfl rfl ?_
      refine wm_get (q := 36) hg dX1_putIn_33 rfl fl_X1_19 (by first | assumption | decide | omega | (simp only [nO]; omega)) rfl ?_
      refine wm_iload_n (q := 37) (i := 1) hg dX1_putIn_36 rfl rfl rfl ?_
      refine wm_iconst (q := 38) 0 hg dX1_putIn_37 rfl (by decide) ?_
      refine wm_iastore (q := 39) p hg dX1_putIn_38 rfl (by first | assumption | decide | omega | (simp only [nO]; omega)) rfl rfl (by simp only [alen]; omega) ?_
      refine wm_aload_n (q := 40) (i := 0) hg dX1_putIn_39 rfl rfl rfl ?_
      refine wm_get (q := 43) hg dX1_putIn_40 rfl fl_X1_22 (by first | assumption | decide | omega | (simp only [nO]; omega)) rfl ?_
      refine wm_iload_n (q := 44) (i := 1) hg dX1_putIn_43 rfl rfl rfl ?_
      refine wm_ldc (q := 46) (-1000000009) hg dX1_putIn_44 rfl ld_X1_37 ?_
      refine wm_iastore (q := 47) p hg dX1_putIn_46 rfl (by first | assumption | decide | omega | (simp only [nO]; omega)) rfl rfl (by simp only [alen]; omega) ?_
      refine wm_aload_n (q := 48) (i := 0) hg dX1_putIn_47 rfl rfl rfl ?_
      refine wm_dup (q := 49) hg dX1_putIn_48 rfl rfl ?_
      refine wm_get (q := 52) hg dX1_putIn_49 rfl fl_X1_9 (by first | assumption | decide | omega | (simp only [nO]; omega)) rfl ?_
      refine wm_iconst (q := 53) 1 hg dX1_putIn_52 rfl (by decide) ?_
      refine wm_iadd (q := 54) hg dX1_putIn_53 rfl ?_
      refine wm_put (q := 57) hg dX1_putIn_54 rfl fl_X1_9 (by first | assumption | decide | omega | (simp only [nO]; omega)) rfl ?_
      exact wm_vret hg hr dX1_putIn_57 (by rw [show i = (szN (M.1 1 c)) - p from hi]; simp [piX, piL_1, sO_same, sO_sO, oI, oA, updA_same, updA_ne, updA_updA, upd_same, upd_ne])
    · exact absurd (nI_le (by omega) (by omega)) hb
  | succ n ih =>
    intro i hi 
    refine wm_iload_n (q := 6) (i := 3) hg dX1_putIn_5 rfl rfl rfl ?_
    refine wm_iload_n (q := 7) (i := 1) hg dX1_putIn_6 rfl rfl rfl ?_
    refine wm_icmp_le (q := 25) (q2 := 10) hg dX1_putIn_7 (by decide) rfl (fun hb => ?_) (fun hb => ?_)
    · exact absurd hb (nI_ge (by omega) (by omega))
    · refine wm_aload_n (q := 11) (i := 0) hg dX1_putIn_10 rfl rfl rfl ?_
      refine wm_iload_n (q := 12) (i := 3) hg dX1_putIn_11 rfl rfl rfl ?_
      refine wm_aload_n (q := 13) (i := 0) hg dX1_putIn_12 rfl rfl rfl ?_
      refine wm_iload_n (q := 14) (i := 3) hg dX1_putIn_13 rfl rfl rfl ?_
      refine wm_iconst (q := 15) 1 hg dX1_putIn_14 rfl (by decide) ?_
      refine wm_isub (q := 16) hg dX1_putIn_15 rfl ?_
      refine wm_callV0 (q := 19) hg dX1_putIn_16 rfl lk_X1_57 (by first | decide | omega) (c_X1_copyMagnet (by first | assumption | decide | omega) (by first | assumption | decide | omega) rfl (nsub (a := ((szN (M.1 1 c)) - i)) (b := 1) rfl (rfl : (1 : Int32) = nI 1) (by omega)) (by omega) (by omega)) (by first | assumption | decide | omega | (simp only [nO]; omega)) ⟨rfl, by decide⟩ rfl rfl (Nat.le_of_ble_eq_true rfl) ?_
      refine wm_iinc (q := 22) (L' := [(0, _), (1, _), (2, _), (3, _)]) (nI (((szN (M.1 1 c)) - i) - 1)) hg dX1_putIn_19 rfl rfl (ndec rfl (by omega)) rfl rfl ?_
      refine wm_goto (q := 5) hg dX1_putIn_22 (by decide) ?_
      exact wm_mem (by simp [sO_same, sO_sO, piL]) (ih (i + 1) (by omega))
set_option maxRecDepth 100000 in
set_option maxHeartbeats 4000000 in
theorem c_X1_takeOut {Γ : GT} {M : Mem} {c p : Nat} {x : Int32} (hc : c < 15) (hz : ok10 (M.1 1 c)) (hx : x = nI p) (hp : p < szN (M.1 1 c)) : Ct Γ yX1_takeOut cX1_takeOut 3 none 1 [.ref (ad Γ 1 c 0), .int x] M none (sO M 1 c (toX (M.1 1 c) p)) := by
  refine ct_of (by decide) (Nat.le_of_ble_eq_true rfl) (fun K hg hr => ?_)
  show WM Γ K _ [(0, _), (1, _)] 0 []
  subst hx
  have hz2 := hz.2
  refine wm_aload_n (q := 1) (i := 0) hg dX1_takeOut_0 rfl rfl rfl ?_
  refine wm_dup (q := 2) hg dX1_takeOut_1 rfl rfl ?_
  refine wm_get (q := 5) hg dX1_takeOut_2 rfl fl_X1_9 (by first | assumption | decide | omega | (simp only [nO]; omega)) rfl ?_
  refine wm_iconst (q := 6) 1 hg dX1_takeOut_5 rfl (by decide) ?_
  refine wm_isub (q := 7) hg dX1_takeOut_6 rfl ?_
  refine wm_put (q := 10) hg dX1_takeOut_7 rfl fl_X1_9 (by first | assumption | decide | omega | (simp only [nO]; omega)) rfl ?_
  refine wm_iload_n (q := 11) (i := 1) hg dX1_takeOut_10 rfl rfl rfl ?_
  refine wm_istore_n (q := 12) (i := 2) (L' := [(0, _), (1, _), (2, _)]) hg dX1_takeOut_11 rfl rfl rfl rfl ?_
  suffices hloop : ∀ (n i : Nat), i + n = ((szN (M.1 1 c)) - 1 - p) → WM Γ K (sO M 1 c (toL (M.1 1 c) p i)) [(0, .ref (ad Γ 1 c 0)), (1, .int (nI p)), (2, .int (nI (p + i)))] 12 [] from hloop ((szN (M.1 1 c)) - 1 - p) 0 (by omega)
  intro n
  induction n with
  | zero =>
    intro i hi 
    have hsz : ((sO M 1 c (toL (M.1 1 c) p i)).1 1 c).1 0 = nI ((szN (M.1 1 c)) - 1) := by rw [sO_same, toL_1, upd_same]; exact nsub hz.1 rfl (by omega)
    refine wm_iload_n (q := 13) (i := 2) hg dX1_takeOut_12 rfl rfl rfl ?_
    refine wm_aload_n (q := 14) (i := 0) hg dX1_takeOut_13 rfl rfl rfl ?_
    refine wm_get (q := 17) hg dX1_takeOut_14 rfl fl_X1_9 (by first | assumption | decide | omega | (simp only [nO]; omega)) rfl ?_
    refine wm_icmp_ge (q := 35) (q2 := 20) hg dX1_takeOut_17 (by decide) rfl (fun hb => ?_) (fun hb => ?_)
    · exact wm_vret hg hr dX1_takeOut_35 (by rw [show i = (szN (M.1 1 c)) - 1 - p from hi]; rfl)
    · exact absurd (lpLe hsz (by omega) (by omega)) hb
  | succ n ih =>
    intro i hi 
    have hsz : ((sO M 1 c (toL (M.1 1 c) p i)).1 1 c).1 0 = nI ((szN (M.1 1 c)) - 1) := by rw [sO_same, toL_1, upd_same]; exact nsub hz.1 rfl (by omega)
    refine wm_iload_n (q := 13) (i := 2) hg dX1_takeOut_12 rfl rfl rfl ?_
    refine wm_aload_n (q := 14) (i := 0) hg dX1_takeOut_13 rfl rfl rfl ?_
    refine wm_get (q := 17) hg dX1_takeOut_14 rfl fl_X1_9 (by first | assumption | decide | omega | (simp only [nO]; omega)) rfl ?_
    refine wm_icmp_ge (q := 35) (q2 := 20) hg dX1_takeOut_17 (by decide) rfl (fun hb => ?_) (fun hb => ?_)
    · exact absurd hb (lpLt hsz (by omega) (by omega))
    · refine wm_aload_n (q := 21) (i := 0) hg dX1_takeOut_20 rfl rfl rfl ?_
      refine wm_iload_n (q := 22) (i := 2) hg dX1_takeOut_21 rfl rfl rfl ?_
      refine wm_aload_n (q := 23) (i := 0) hg dX1_takeOut_22 rfl rfl rfl ?_
      refine wm_iload_n (q := 24) (i := 2) hg dX1_takeOut_23 rfl rfl rfl ?_
      refine wm_iconst (q := 25) 1 hg dX1_takeOut_24 rfl (by decide) ?_
      refine wm_iadd (q := 26) hg dX1_takeOut_25 rfl ?_
      refine wm_callV0 (q := 29) hg dX1_takeOut_26 rfl lk_X1_57 (by first | decide | omega) (c_X1_copyMagnet (by first | assumption | decide | omega) (by first | assumption | decide | omega) rfl (nadd (a := (p + i)) (b := 1) rfl (rfl : (1 : Int32) = nI 1)) (by omega) (by omega)) (by first | assumption | decide | omega | (simp only [nO]; omega)) ⟨rfl, by decide⟩ rfl rfl (Nat.le_of_ble_eq_true rfl) ?_
      refine wm_iinc (q := 32) (L' := [(0, _), (1, _), (2, _)]) (nI ((p + i) + 1)) hg dX1_takeOut_29 rfl rfl (nadd rfl rfl) rfl rfl ?_
      refine wm_goto (q := 12) hg dX1_takeOut_32 (by decide) ?_
      exact wm_mem (by simp [sO_same, sO_sO, toL]) (ih (i + 1) (by omega))
set_option maxRecDepth 100000 in
set_option maxHeartbeats 4000000 in
theorem c_X1_mirror {Γ : GT} {M : Mem} {c : Nat} (hc : c < 15) (hz : ok10 (M.1 1 c)) : Ct Γ yX1_mirror cX1_mirror 2 none 0 [.ref (ad Γ 1 c 0)] M none (sO M 1 c (miL (M.1 1 c) (szN (M.1 1 c)))) := by
  refine ct_of (by decide) (Nat.le_of_ble_eq_true rfl) (fun K hg hr => ?_)
  show WM Γ K _ [(0, _)] 0 []
  have hz2 := hz.2
  refine wm_iconst (q := 1) 0 hg dX1_mirror_0 rfl (by decide) ?_
  refine wm_istore_n (q := 2) (i := 1) (L' := [(0, _), (1, _)]) hg dX1_mirror_1 rfl rfl rfl rfl ?_
  suffices hloop : ∀ (n i : Nat), i + n = (szN (M.1 1 c)) → WM Γ K (sO M 1 c (miL (M.1 1 c) i)) [(0, .ref (ad Γ 1 c 0)), (1, .int (nI i))] 2 [] from wm_mem (sO_self M 1 c).symm (hloop (szN (M.1 1 c)) 0 (by omega))
  intro n
  induction n with
  | zero =>
    intro i hi 
    have hsz : ((sO M 1 c (miL (M.1 1 c) i)).1 1 c).1 0 = nI (szN (M.1 1 c)) := by rw [sO_same, miL_1]; exact hz.1
    refine wm_iload_n (q := 3) (i := 1) hg dX1_mirror_2 rfl rfl rfl ?_
    refine wm_aload_n (q := 4) (i := 0) hg dX1_mirror_3 rfl rfl rfl ?_
    refine wm_get (q := 7) hg dX1_mirror_4 rfl fl_X1_9 (by first | assumption | decide | omega | (simp only [nO]; omega)) rfl ?_
    refine wm_icmp_ge (q := 61) (q2 := 10) hg dX1_mirror_7 (by decide) rfl (fun hb => ?_) (fun hb => ?_)
    · exact wm_vret hg hr dX1_mirror_61 (by rw [show i = (szN (M.1 1 c)) from hi])
    · exact absurd (lpLe hsz (by omega) (by omega)) hb
  | succ n ih =>
    intro i hi 
    have hsz : ((sO M 1 c (miL (M.1 1 c) i)).1 1 c).1 0 = nI (szN (M.1 1 c)) := by rw [sO_same, miL_1]; exact hz.1
    refine wm_iload_n (q := 3) (i := 1) hg dX1_mirror_2 rfl rfl rfl ?_
    refine wm_aload_n (q := 4) (i := 0) hg dX1_mirror_3 rfl rfl rfl ?_
    refine wm_get (q := 7) hg dX1_mirror_4 rfl fl_X1_9 (by first | assumption | decide | omega | (simp only [nO]; omega)) rfl ?_
    refine wm_icmp_ge (q := 61) (q2 := 10) hg dX1_mirror_7 (by decide) rfl (fun hb => ?_) (fun hb => ?_)
    · exact absurd hb (lpLt hsz (by omega) (by omega))
    · refine wm_aload_n (q := 11) (i := 0) hg dX1_mirror_10 rfl rfl rfl ?_
      refine wm_get (q := 14) hg dX1_mirror_11 rfl fl_X1_15 (by first | assumption | decide | omega | (simp only [nO]; omega)) rfl ?_
      refine wm_iload_n (q := 15) (i := 1) hg dX1_mirror_14 rfl rfl rfl ?_
      refine wm_iconst (q := 16) 4 hg dX1_mirror_15 rfl (by decide) ?_
      refine wm_aload_n (q := 17) (i := 0) hg dX1_mirror_16 rfl rfl rfl ?_
      refine wm_get (q := 20) hg dX1_mirror_17 rfl fl_X1_15 (by first | assumption | decide | omega | (simp only [nO]; omega)) rfl ?_
      refine wm_iload_n (q := 21) (i := 1) hg dX1_mirror_20 rfl rfl rfl ?_
      refine wm_iaload (q := 22) i hg dX1_mirror_21 rfl (by first | assumption | decide | omega | (simp only [nO]; omega)) rfl rfl (by simp only [alen]; omega) ?_
      refine wm_isub (q := 23) hg dX1_mirror_22 rfl ?_
      refine wm_bipush (q := 25) 7 hg dX1_mirror_23 rfl (by decide) ?_
      refine wm_iand (q := 26) hg dX1_mirror_25 rfl ?_
      refine wm_iastore (q := 27) i hg dX1_mirror_26 rfl (by first | assumption | decide | omega | (simp only [nO]; omega)) rfl rfl (by simp only [alen]; omega) ?_
      refine wm_aload_n (q := 28) (i := 0) hg dX1_mirror_27 rfl rfl rfl ?_
      refine wm_get (q := 31) hg dX1_mirror_28 rfl fl_X1_22 (by first | assumption | decide | omega | (simp only [nO]; omega)) rfl ?_
      refine wm_iload_n (q := 32) (i := 1) hg dX1_mirror_31 rfl rfl rfl ?_
      refine wm_iaload (q := 33) i hg dX1_mirror_32 rfl (by first | assumption | decide | omega | (simp only [nO]; omega)) rfl rfl (by simp only [alen]; omega) ?_
      refine wm_ldc (q := 35) (-1000000009) hg dX1_mirror_33 rfl ld_X1_37 ?_
      refine wm_icmp_eq (q := 55) (q2 := 38) hg dX1_mirror_35 (by decide) rfl (fun h1 => ?_) (fun h1 => ?_)
      · refine wm_iinc (q := 58) (L' := [(0, _), (1, _)]) (nI (i + 1)) hg dX1_mirror_55 rfl rfl (nadd rfl rfl) rfl rfl ?_
        refine wm_goto (q := 2) hg dX1_mirror_58 (by decide) ?_
        exact wm_mem (by simp only [sO_same, sO_same, sO_sO, oI, oA, updA_same, updA_ne, updA_updA, upd_same, upd_ne, updA_ne _ _ (show (3:Nat) ≠ 1 by decide)] at h1 ⊢; simp [miL, h1, sO_same, sO_sO, oI, oA, updA_same, updA_ne, updA_updA, upd_same, upd_ne]) (ih (i + 1) (by omega))
      · refine wm_aload_n (q := 39) (i := 0) hg dX1_mirror_38 rfl rfl rfl ?_
        refine wm_get (q := 42) hg dX1_mirror_39 rfl fl_X1_22 (by first | assumption | decide | omega | (simp only [nO]; omega)) rfl ?_
        refine wm_iload_n (q := 43) (i := 1) hg dX1_mirror_42 rfl rfl rfl ?_
        refine wm_iconst (q := 44) 4 hg dX1_mirror_43 rfl (by decide) ?_
        refine wm_aload_n (q := 45) (i := 0) hg dX1_mirror_44 rfl rfl rfl ?_
        refine wm_get (q := 48) hg dX1_mirror_45 rfl fl_X1_22 (by first | assumption | decide | omega | (simp only [nO]; omega)) rfl ?_
        refine wm_iload_n (q := 49) (i := 1) hg dX1_mirror_48 rfl rfl rfl ?_
        refine wm_iaload (q := 50) i hg dX1_mirror_49 rfl (by first | assumption | decide | omega | (simp only [nO]; omega)) rfl rfl (by simp only [alen]; omega) ?_
        refine wm_isub (q := 51) hg dX1_mirror_50 rfl ?_
        refine wm_bipush (q := 53) 7 hg dX1_mirror_51 rfl (by decide) ?_
        refine wm_iand (q := 54) hg dX1_mirror_53 rfl ?_
        refine wm_iastore (q := 55) i hg dX1_mirror_54 rfl (by first | assumption | decide | omega | (simp only [nO]; omega)) rfl rfl (by simp only [alen]; omega) ?_
        refine wm_iinc (q := 58) (L' := [(0, _), (1, _)]) (nI (i + 1)) hg dX1_mirror_55 rfl rfl (nadd rfl rfl) rfl rfl ?_
        refine wm_goto (q := 2) hg dX1_mirror_58 (by decide) ?_
        exact wm_mem (by simp only [sO_same, sO_same, sO_sO, oI, oA, updA_same, updA_ne, updA_updA, upd_same, upd_ne, updA_ne _ _ (show (3:Nat) ≠ 1 by decide)] at h1 ⊢; simp [miL, h1, sO_same, sO_sO, oI, oA, updA_same, updA_ne, updA_updA, upd_same, upd_ne]) (ih (i + 1) (by omega))
set_option maxRecDepth 100000 in
set_option maxHeartbeats 4000000 in
theorem c_X1_startWith {Γ : GT} {M : Mem} {c : Nat} {v : Int32} (hc : c < 15) : Ct Γ yX1_startWith cX1_startWith 2 none 1 [.ref (ad Γ 1 c 0), .int v] M none (sO M 1 c (swX (M.1 1 c) v)) := by
  refine ct_of (by decide) (Nat.le_of_ble_eq_true rfl) (fun K hg hr => ?_)
  show WM Γ K _ [(0, _), (1, _)] 0 []
  have hA : ∀ (f : Nat → Int32) (v : Int32) (k : Nat), k < alen 1 1 → flF f v 10 k = v := fun f v k hk => by simp only [alen] at hk; simp [flF, hk]
  refine wm_aload_n (q := 1) (i := 0) hg dX1_startWith_0 rfl rfl rfl ?_
  refine wm_iload_n (q := 2) (i := 1) hg dX1_startWith_1 rfl rfl rfl ?_
  refine wm_put (q := 5) hg dX1_startWith_2 rfl fl_X1_9 (by first | assumption | decide | omega | (simp only [nO]; omega)) rfl ?_
  refine wm_aload_n (q := 6) (i := 0) hg dX1_startWith_5 rfl rfl rfl ?_
  refine wm_get (q := 9) hg dX1_startWith_6 rfl fl_X1_15 (by first | assumption | decide | omega | (simp only [nO]; omega)) rfl ?_
  refine wm_iconst (q := 10) 0 hg dX1_startWith_9 rfl (by decide) ?_
  refine wm_callS0 (q := 13) hg dX1_startWith_10 rfl lk_X1_38 (by first | decide | omega) (c_J7_fill_53178 (by first | assumption | decide | omega) rfl) rfl rfl (Nat.le_of_ble_eq_true rfl) ?_
  refine wm_aload_n (q := 14) (i := 0) hg dX1_startWith_13 rfl rfl rfl ?_
  refine wm_get (q := 17) hg dX1_startWith_14 rfl fl_X1_19 (by first | assumption | decide | omega | (simp only [nO]; omega)) rfl ?_
  refine wm_iconst (q := 18) 0 hg dX1_startWith_17 rfl (by decide) ?_
  refine wm_callS0 (q := 21) hg dX1_startWith_18 rfl lk_X1_38 (by first | decide | omega) (c_J7_fill_53178 (by first | assumption | decide | omega) rfl) rfl rfl (Nat.le_of_ble_eq_true rfl) ?_
  refine wm_aload_n (q := 22) (i := 0) hg dX1_startWith_21 rfl rfl rfl ?_
  refine wm_get (q := 25) hg dX1_startWith_22 rfl fl_X1_22 (by first | assumption | decide | omega | (simp only [nO]; omega)) rfl ?_
  refine wm_ldc (q := 27) (-1000000009) hg dX1_startWith_25 rfl ld_X1_37 ?_
  refine wm_callS0 (q := 30) hg dX1_startWith_27 rfl lk_X1_38 (by first | decide | omega) (c_J7_fill_53178 (by first | assumption | decide | omega) rfl) rfl rfl (Nat.le_of_ble_eq_true rfl) ?_
  refine wm_meq (M' := sO M 1 c (swX (M.1 1 c) v)) ?_ (wm_vret hg hr dX1_startWith_30 rfl)
  simp only [sO_same, sO_sO]
  refine meq_sO (meq.rf M) ⟨fun j _ => by simp [swX, sO_same, sO_sO, oI, oA, updA_same, updA_ne, updA_updA, upd_same, upd_ne], fun s hs k hk => ?_, fun h => absurd h (by decide)⟩
  simp only [isA, Bool.or_eq_true, Nat.beq_eq] at hs
  rcases hs with (rfl | rfl) | rfl <;> simp only [swX, sO_same, sO_sO, oI, oA, updA_same, updA_ne, updA_updA, upd_same, upd_ne, alen] <;> simp [updA, flF] <;> simp only [alen] at hk <;> omega
