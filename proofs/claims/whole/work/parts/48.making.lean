/-! ===== the constructor of the class ===== -/
def baseC (Δ : DT) (m : Nat) (p t : Nat → Nat) (h i k c : Nat) (fh fi fc : Nat → Option Nat) : va_W := (m, .inr (4, [.ref (p 0), .ref h, .int 0, .ref i, .ref k, .ref (t 0), .ref c])) :: (stC Δ p ++ ([(h, .inl (Δ.2.2.2.2.1, 8, .inr (.inr (.inr (.inr fh))))), (i, .inl (Δ.2.2.2.2.1, 2, .inr (.inr (.inr (.inr fi))))), (k, .inl (Δ.2.2.2.1, 2, .inl (fun _ => 0)))] ++ (txC Δ t ++ [(c, .inl (Δ.2.2.2.2.2, 4, .inr (.inr (.inr (.inr fc)))))])))
def hF (r : Nat) (A : Nat → Nat → Nat) (n : Nat) : Nat → Option Nat := fun j => if j < n then some (A j r) else none
def manyC (g : (Nat → Nat) → va_W) (A : Nat → Nat → Nat) : Nat → va_W
  | 0 => []
  | j + 1 => manyC g A j ++ g (A j)
def updN (A : Nat → Nat → Nat) (j : Nat) (a : Nat → Nat) : Nat → Nat → Nat := fun k => if k = j then a else A k
theorem manyC_c {g : (Nat → Nat) → va_W} {A B : Nat → Nat → Nat} : ∀ j, (∀ k, k < j → A k = B k) → manyC g A j = manyC g B j
  | 0, _ => rfl
  | j + 1, h => by
    show manyC g A j ++ g (A j) = manyC g B j ++ g (B j)
    rw [manyC_c j (fun k hk => h k (by omega)), h j (by omega)]
theorem manyC_u (g : (Nat → Nat) → va_W) (A : Nat → Nat → Nat) (j : Nat) (a : Nat → Nat) : manyC g (updN A j a) (j + 1) = manyC g A j ++ g a := by
  show manyC g (updN A j a) j ++ g (updN A j a j) = _
  rw [manyC_c (g := g) (A := updN A j a) (B := A) j (fun k hk => by unfold updN; rw [if_neg (by omega)])]
  unfold updN
  rw [if_pos rfl]
theorem hF_0 (r : Nat) (A : Nat → Nat → Nat) : hF r A 0 = fun _ => none := by
  funext j
  unfold hF
  rw [if_neg (Nat.not_lt_zero j)]
theorem hF_u (r : Nat) (A : Nat → Nat → Nat) {j : Nat} (hj : j < 100) (a : Nat → Nat) : va_up (hF r A j) (nI j).toNatClampNeg (some (a r)) = hF r (updN A j a) (j + 1) := by
  rw [nI_clamp (by omega)]
  funext k
  unfold va_up hF updN
  by_cases h : k = j
  · subst h
    rw [if_pos rfl, if_pos (by omega), if_pos rfl]
  · rw [if_neg h, if_neg h]
    by_cases h2 : k < j
    · rw [if_pos h2, if_pos (by omega)]
    · rw [if_neg h2, if_neg (by omega)]
theorem getE_end {α : Type} (l : List α) (x : α) (r : List α) : (l ++ x :: r)[l.length]? = some x := by
  rw [List.getElem?_append_right (Nat.le_refl _), Nat.sub_self]
  rfl
def allC (Δ : DT) (m : Nat) (p t : Nat → Nat) (h i k c : Nat) (A B C : Nat → Nat → Nat) : va_W := baseC Δ m p t h i k c (hF 0 A 8) (hF 0 B 2) (hF 1 C 4) ++ manyC (stC Δ) A 8 ++ manyC (stC Δ) B 2 ++ manyC (chC Δ) C 4
theorem oi_X4_1 : Cond.methodLink RX4 1 objectInit ∈ wsL_law := by decide +kernel
theorem lj_X2_init : LnkJ yX2_init cX2_init 1 0 := lnkJ_of (by decide +kernel) (by decide +kernel)
theorem lj_X3_init : LnkJ yX3_init cX3_init 1 0 := lnkJ_of (by decide +kernel) (by decide +kernel)
theorem li_X4_44 : LnkI RX4 44 yX1_init cX1_init 1 0 := lnkI_of (by decide +kernel) (by decide +kernel)
set_option maxRecDepth 100000 in
set_option maxHeartbeats 4000000 in
theorem c_X4_init {Δ : DT} {b : Nat} : CtX Δ yX4_init cX4_init 2 3 121 1730 [.ref b] [(b, .inr (4, [.null, .null, .int 0, .null, .null, .null, .null]))] (fun ws => ∃ (p t : Nat → Nat) (h i k c : Nat) (A B C : Nat → Nat → Nat), ws = allC Δ b p t h i k c A B C) := by
  refine ctx_of (by decide) (Nat.le_of_ble_eq_true rfl) (fun K A hg hin hr => ?_)
  show WX Δ K A _ _ _ [(0, _)] 0 []
  refine wx_aload_n (q := 1) (i := 0) hg dX4_init_0 rfl rfl rfl ?_
  refine wx_objInit (q := 4) hg dX4_init_1 rfl oi_X4_1 wsOI wsOC (by decide) (Nat.le_of_ble_eq_true rfl) ?_
  refine wx_aload_n (q := 5) (i := 0) hg dX4_init_4 rfl rfl rfl ?_
  refine wx_new (q := 8) (ci := 2) (fs := [.null, .null]) hg dX4_init_5 rfl (by decide) (by decide +kernel) (by decide +kernel) (by decide +kernel) fr2 (kN := 2) rfl (Nat.le_of_ble_eq_true rfl) (Nat.le_of_ble_eq_true rfl) (fun q1 => ?_)
  refine wx_ws (ws' := [(b, .inr (4, [.null, .null, .int 0, .null, .null, .null, .null])), (q1, .inr (2, [.null, .null]))]) rfl ?_
  refine wx_dup (q := 9) hg dX4_init_8 rfl rfl ?_
  refine wx_callJ (q := 12) (wr := [(b, .inr (4, [.null, .null, .int 0, .null, .null, .null, .null]))]) (wc := [(q1, .inr (2, [.null, .null]))]) hg dX4_init_9 rfl lj_X2_init (fun h => h.1) rfl (by decide) (Nat.le_of_ble_eq_true rfl) (Nat.le_of_ble_eq_true rfl) c_X2_init rfl (Nat.le_of_ble_eq_true rfl) (fun w1 hw1 => ?_)
  obtain ⟨p, e1, rfl⟩ := hw1
  subst e1
  refine wx_putF (q := 15) (ws' := ([(b, .inr (4, [.ref (p 0), .null, .int 0, .null, .null, .null, .null]))] ++ stC Δ p)) 0 hg hin dX4_init_12 rfl fl_X4_10 rfl rfl rfl rfl rfl rfl (Nat.le_of_ble_eq_true rfl) rfl ?_
  refine wx_aload_n (q := 16) (i := 0) hg dX4_init_15 rfl rfl rfl ?_
  refine wx_bipush (q := 18) 8 hg dX4_init_16 rfl (by decide) ?_
  refine wx_newq (q := 21) (N := 8) (t0 := 2) (cQ := Δ.2.2.2.2.1) (C := RX2) hg dX4_init_18 rfl (by decide) (by decide) (by decide) (Nat.le_of_ble_eq_true rfl) (Nat.le_of_ble_eq_true rfl) (by decide +kernel) hg.2.2.2.2.2.1.2.1.1 rfl (fun h => ?_)
  refine wx_putF (q := 24) (ws' := ([(b, .inr (4, [.ref (p 0), .ref h, .int 0, .null, .null, .null, .null]))] ++ stC Δ p ++ [(h, .inl (Δ.2.2.2.2.1, 8, .inr (.inr (.inr (.inr (fun _ => none))))))])) 0 hg hin dX4_init_21 rfl fl_X4_16 rfl rfl rfl rfl rfl rfl (Nat.le_of_ble_eq_true rfl) rfl ?_
  refine wx_aload_n (q := 25) (i := 0) hg dX4_init_24 rfl rfl rfl ?_
  refine wx_iconst (q := 26) 0 hg dX4_init_25 rfl (by decide) ?_
  refine wx_put (q := 29) (ws' := ([(b, .inr (4, [.ref (p 0), .ref h, .int 0, .null, .null, .null, .null]))] ++ stC Δ p ++ [(h, .inl (Δ.2.2.2.2.1, 8, .inr (.inr (.inr (.inr (fun _ => none))))))])) 0 hg dX4_init_26 rfl fl_X4_20 rfl rfl rfl rfl rfl (Nat.le_of_ble_eq_true rfl) rfl ?_
  refine wx_aload_n (q := 30) (i := 0) hg dX4_init_29 rfl rfl rfl ?_
  refine wx_iconst (q := 31) 2 hg dX4_init_30 rfl (by decide) ?_
  refine wx_newq (q := 34) (N := 2) (t0 := 2) (cQ := Δ.2.2.2.2.1) (C := RX2) hg dX4_init_31 rfl (by decide) (by decide) (by decide) (Nat.le_of_ble_eq_true rfl) (Nat.le_of_ble_eq_true rfl) (by decide +kernel) hg.2.2.2.2.2.1.2.1.1 rfl (fun i => ?_)
  refine wx_ws (ws' := ([(b, .inr (4, [.ref (p 0), .ref h, .int 0, .null, .null, .null, .null]))] ++ stC Δ p ++ [(h, .inl (Δ.2.2.2.2.1, 8, .inr (.inr (.inr (.inr (fun _ => none)))))), (i, .inl (Δ.2.2.2.2.1, 2, .inr (.inr (.inr (.inr (fun _ => none))))))])) rfl ?_
  refine wx_putF (q := 37) (ws' := ([(b, .inr (4, [.ref (p 0), .ref h, .int 0, .ref i, .null, .null, .null]))] ++ stC Δ p ++ [(h, .inl (Δ.2.2.2.2.1, 8, .inr (.inr (.inr (.inr (fun _ => none)))))), (i, .inl (Δ.2.2.2.2.1, 2, .inr (.inr (.inr (.inr (fun _ => none))))))])) 0 hg hin dX4_init_34 rfl fl_X4_24 rfl rfl rfl rfl rfl rfl (Nat.le_of_ble_eq_true rfl) rfl ?_
  refine wx_aload_n (q := 38) (i := 0) hg dX4_init_37 rfl rfl rfl ?_
  refine wx_iconst (q := 39) 2 hg dX4_init_38 rfl (by decide) ?_
  refine wx_newz (q := 41) (N := 2) hg dX4_init_39 rfl (by decide) (by decide) (by decide) (Nat.le_of_ble_eq_true rfl) (Nat.le_of_ble_eq_true rfl) wsAZ (fun k => ?_)
  refine wx_ws (ws' := ([(b, .inr (4, [.ref (p 0), .ref h, .int 0, .ref i, .null, .null, .null]))] ++ stC Δ p ++ [(h, .inl (Δ.2.2.2.2.1, 8, .inr (.inr (.inr (.inr (fun _ => none)))))), (i, .inl (Δ.2.2.2.2.1, 2, .inr (.inr (.inr (.inr (fun _ => none)))))), (k, .inl (Δ.2.2.2.1, 2, .inl (fun _ => 0)))])) rfl ?_
  refine wx_putF (q := 44) (ws' := ([(b, .inr (4, [.ref (p 0), .ref h, .int 0, .ref i, .ref k, .null, .null]))] ++ stC Δ p ++ [(h, .inl (Δ.2.2.2.2.1, 8, .inr (.inr (.inr (.inr (fun _ => none)))))), (i, .inl (Δ.2.2.2.2.1, 2, .inr (.inr (.inr (.inr (fun _ => none)))))), (k, .inl (Δ.2.2.2.1, 2, .inl (fun _ => 0)))])) 0 hg hin dX4_init_41 rfl fl_X4_27 rfl rfl rfl rfl rfl rfl (Nat.le_of_ble_eq_true rfl) rfl ?_
  refine wx_aload_n (q := 45) (i := 0) hg dX4_init_44 rfl rfl rfl ?_
  refine wx_new (q := 48) (ci := 3) (fs := [.null, .int 0, .int 0, .int 0]) hg dX4_init_45 rfl (by decide) (by decide +kernel) (by decide +kernel) (by decide +kernel) fr3 (kN := 4) rfl (Nat.le_of_ble_eq_true rfl) (Nat.le_of_ble_eq_true rfl) (fun q2 => ?_)
  refine wx_ws (ws' := ([(b, .inr (4, [.ref (p 0), .ref h, .int 0, .ref i, .ref k, .null, .null]))] ++ stC Δ p ++ [(h, .inl (Δ.2.2.2.2.1, 8, .inr (.inr (.inr (.inr (fun _ => none)))))), (i, .inl (Δ.2.2.2.2.1, 2, .inr (.inr (.inr (.inr (fun _ => none)))))), (k, .inl (Δ.2.2.2.1, 2, .inl (fun _ => 0))), (q2, .inr (3, [.null, .int 0, .int 0, .int 0]))])) rfl ?_
  refine wx_dup (q := 49) hg dX4_init_48 rfl rfl ?_
  refine wx_callJ (q := 52) (wr := ([(b, .inr (4, [.ref (p 0), .ref h, .int 0, .ref i, .ref k, .null, .null]))] ++ stC Δ p ++ [(h, .inl (Δ.2.2.2.2.1, 8, .inr (.inr (.inr (.inr (fun _ => none)))))), (i, .inl (Δ.2.2.2.2.1, 2, .inr (.inr (.inr (.inr (fun _ => none)))))), (k, .inl (Δ.2.2.2.1, 2, .inl (fun _ => 0)))])) (wc := [(q2, .inr (3, [.null, .int 0, .int 0, .int 0]))]) hg dX4_init_49 rfl lj_X3_init (fun h => h.2.2) rfl (by decide) (Nat.le_of_ble_eq_true rfl) (Nat.le_of_ble_eq_true rfl) c_X3_init rfl (Nat.le_of_ble_eq_true rfl) (fun w1 hw1 => ?_)
  obtain ⟨t, e1, rfl⟩ := hw1
  subst e1
  refine wx_putF (q := 55) (ws' := ([(b, .inr (4, [.ref (p 0), .ref h, .int 0, .ref i, .ref k, .ref (t 0), .null]))] ++ stC Δ p ++ [(h, .inl (Δ.2.2.2.2.1, 8, .inr (.inr (.inr (.inr (fun _ => none)))))), (i, .inl (Δ.2.2.2.2.1, 2, .inr (.inr (.inr (.inr (fun _ => none)))))), (k, .inl (Δ.2.2.2.1, 2, .inl (fun _ => 0)))] ++ txC Δ t)) 0 hg hin dX4_init_52 rfl fl_X4_34 rfl rfl rfl rfl rfl rfl (Nat.le_of_ble_eq_true rfl) rfl ?_
  refine wx_aload_n (q := 56) (i := 0) hg dX4_init_55 rfl rfl rfl ?_
  refine wx_iconst (q := 57) 4 hg dX4_init_56 rfl (by decide) ?_
  refine wx_newq (q := 60) (N := 4) (t0 := 3) (cQ := Δ.2.2.2.2.2) (C := RX1) hg dX4_init_57 rfl (by decide) (by decide) (by decide) (Nat.le_of_ble_eq_true rfl) (Nat.le_of_ble_eq_true rfl) (by decide +kernel) hg.2.2.2.2.2.1.2.1.2 rfl (fun c => ?_)
  refine wx_putF (q := 63) (ws' := ([(b, .inr (4, [.ref (p 0), .ref h, .int 0, .ref i, .ref k, .ref (t 0), .ref c]))] ++ stC Δ p ++ [(h, .inl (Δ.2.2.2.2.1, 8, .inr (.inr (.inr (.inr (fun _ => none)))))), (i, .inl (Δ.2.2.2.2.1, 2, .inr (.inr (.inr (.inr (fun _ => none)))))), (k, .inl (Δ.2.2.2.1, 2, .inl (fun _ => 0)))] ++ txC Δ t ++ [(c, .inl (Δ.2.2.2.2.2, 4, .inr (.inr (.inr (.inr (fun _ => none))))))])) 0 hg hin dX4_init_60 rfl fl_X4_40 rfl rfl rfl rfl rfl rfl (Nat.le_of_ble_eq_true rfl) rfl ?_
  refine wx_widen (c' := 15) (n' := 198) (by omega) (by omega) ?_
  refine wx_ws (ws' := baseC Δ b p t h i k c (fun _ => none) (fun _ => none) (fun _ => none)) rfl ?_
  refine wx_iconst (q := 64) 0 hg dX4_init_63 rfl (by decide) ?_
  refine wx_istore_n (q := 65) (i := 1) (L' := [(0, _), (1, _)]) hg dX4_init_64 rfl rfl rfl rfl ?_
  suffices hloop : ∀ (n j : Nat) (F : Nat → Nat → Nat), j + n = 8 → WX Δ K A (baseC Δ b p t h i k c (hF 0 F j) (fun _ => none) (fun _ => none) ++ manyC (stC Δ) F j) (15 + 9 * j) (198 + 138 * j) [(0, .ref b), (1, .int (nI j))] 65 [] from wx_ws (by rw [hF_0]; simp only [manyC, List.append_nil]) (hloop 8 0 (fun _ _ => 0) (by omega))
  intro n
  induction n with
  | zero =>
    intro j F hj
    have he : j = 8 := by omega
    subst he
    refine wx_iload_n (q := 66) (i := 1) hg dX4_init_65 rfl rfl rfl ?_
    refine wx_aload_n (q := 67) (i := 0) hg dX4_init_66 rfl rfl rfl ?_
    refine wx_get (q := 70) 0 hg dX4_init_67 rfl fl_X4_16 rfl rfl ?_
    refine wx_alen (q := 71) (v := 8) 10 hg dX4_init_70 rfl rfl (rfl : (tyX Δ)[2]? = some (Δ.2.2.2.2.1, _)) rfl ?_
    refine wx_icmp_ge (q := 93) (q2 := 74) hg dX4_init_71 (by decide) rfl (fun hb => ?_) (fun hb => ?_)
    · skip
      refine wx_iconst (q := 94) 0 hg dX4_init_93 rfl (by decide) ?_
      refine wx_istore_n (q := 95) (i := 1) (L' := [(0, _), (1, _)]) hg dX4_init_94 rfl rfl rfl rfl ?_
      suffices hloop : ∀ (n j : Nat) (G : Nat → Nat → Nat), j + n = 2 → WX Δ K A (baseC Δ b p t h i k c (hF 0 F 8) (hF 0 G j) (fun _ => none) ++ manyC (stC Δ) F 8 ++ manyC (stC Δ) G j) (87 + 9 * j) (1302 + 138 * j) [(0, .ref b), (1, .int (nI j))] 95 [] from wx_ws (by rw [hF_0]; simp only [manyC, List.append_nil]) (hloop 2 0 (fun _ _ => 0) (by omega))
      intro n
      induction n with
      | zero =>
        intro j G hj
        have he : j = 2 := by omega
        subst he
        refine wx_iload_n (q := 96) (i := 1) hg dX4_init_95 rfl rfl rfl ?_
        refine wx_aload_n (q := 97) (i := 0) hg dX4_init_96 rfl rfl rfl ?_
        refine wx_get (q := 100) 0 hg dX4_init_97 rfl fl_X4_24 rfl rfl ?_
        refine wx_alen (q := 101) (v := 2) 11 hg dX4_init_100 rfl rfl (rfl : (tyX Δ)[2]? = some (Δ.2.2.2.2.1, _)) rfl ?_
        refine wx_icmp_ge (q := 123) (q2 := 104) hg dX4_init_101 (by decide) rfl (fun hb => ?_) (fun hb => ?_)
        · skip
          refine wx_iconst (q := 124) 0 hg dX4_init_123 rfl (by decide) ?_
          refine wx_istore_n (q := 125) (i := 1) (L' := [(0, _), (1, _)]) hg dX4_init_124 rfl rfl rfl rfl ?_
          suffices hloop : ∀ (n j : Nat) (E : Nat → Nat → Nat), j + n = 4 → WX Δ K A (baseC Δ b p t h i k c (hF 0 F 8) (hF 0 G 2) (hF 1 E j) ++ manyC (stC Δ) F 8 ++ manyC (stC Δ) G 2 ++ manyC (chC Δ) E j) (105 + 4 * j) (1578 + 38 * j) [(0, .ref b), (1, .int (nI j))] 125 [] from wx_ws (by rw [hF_0]; simp only [manyC, List.append_nil]) (hloop 4 0 (fun _ _ => 0) (by omega))
          intro n
          induction n with
          | zero =>
            intro j E hj
            have he : j = 4 := by omega
            subst he
            refine wx_iload_n (q := 126) (i := 1) hg dX4_init_125 rfl rfl rfl ?_
            refine wx_aload_n (q := 127) (i := 0) hg dX4_init_126 rfl rfl rfl ?_
            refine wx_get (q := 130) 0 hg dX4_init_127 rfl fl_X4_40 rfl rfl ?_
            refine wx_alen (q := 131) (v := 4) 15 hg dX4_init_130 rfl rfl (rfl : (tyX Δ)[3]? = some (Δ.2.2.2.2.2, _)) rfl ?_
            refine wx_icmp_ge (q := 153) (q2 := 134) hg dX4_init_131 (by decide) rfl (fun hb => ?_) (fun hb => ?_)
            · skip
              exact wx_return hg hr dX4_init_153 (by omega) (by omega) ⟨p, t, h, i, k, c, F, G, E, rfl⟩
            · exact absurd (nI_le (a := 4) (b := 4) (by omega) (by omega)) hb
          | succ n ih =>
            intro j E hj
            refine wx_iload_n (q := 126) (i := 1) hg dX4_init_125 rfl rfl rfl ?_
            refine wx_aload_n (q := 127) (i := 0) hg dX4_init_126 rfl rfl rfl ?_
            refine wx_get (q := 130) 0 hg dX4_init_127 rfl fl_X4_40 rfl rfl ?_
            refine wx_alen (q := 131) (v := 4) 15 hg dX4_init_130 rfl rfl (rfl : (tyX Δ)[3]? = some (Δ.2.2.2.2.2, _)) rfl ?_
            refine wx_icmp_ge (q := 153) (q2 := 134) hg dX4_init_131 (by decide) rfl (fun hb => ?_) (fun hb => ?_)
            · exact absurd hb (nI_ge (a := j) (b := 4) (by omega) (by omega))
            · skip
              refine wx_aload_n (q := 135) (i := 0) hg dX4_init_134 rfl rfl rfl ?_
              refine wx_get (q := 138) 0 hg dX4_init_135 rfl fl_X4_40 rfl rfl ?_
              refine wx_iload_n (q := 139) (i := 1) hg dX4_init_138 rfl rfl rfl ?_
              refine wx_new (q := 142) (ci := 1) (fs := [.int 0, .null, .null, .null, .int 0, .int 0, .int 0, .int 0]) hg dX4_init_139 rfl (by decide) (by decide +kernel) (by decide +kernel) (by decide +kernel) fr1 (kN := 8) rfl (by omega) (by omega) (fun q3 => ?_)
              refine wx_dup (q := 143) hg dX4_init_142 rfl rfl ?_
              refine wx_callI (q := 146) (wr := (baseC Δ b p t h i k c (hF 0 F 8) (hF 0 G 2) (hF 1 E j) ++ manyC (stC Δ) F 8 ++ manyC (stC Δ) G 2 ++ manyC (chC Δ) E j)) (wc := [(q3, .inr (1, [.int 0, .null, .null, .null, .int 0, .int 0, .int 0, .int 0]))]) hg dX4_init_143 rfl li_X4_44 rfl (by decide) (by omega) (by omega) c_X1_init rfl (Nat.le_of_ble_eq_true rfl) (fun w1 hw1 => ?_)
              obtain ⟨x, e1, rfl⟩ := hw1
              subst e1
              refine wx_astq (q := 147) (ws' := baseC Δ b p t h i k c (hF 0 F 8) (hF 0 G 2) (va_up (hF 1 E j) (nI j).toNatClampNeg (some (x 1))) ++ manyC (stC Δ) F 8 ++ manyC (stC Δ) G 2 ++ manyC (chC Δ) E j ++ chC Δ x) (ci := 1) (qk := (baseC Δ b p t h i k c (hF 0 F 8) (hF 0 G 2) (hF 1 E j) ++ manyC (stC Δ) F 8 ++ manyC (stC Δ) G 2 ++ manyC (chC Δ) E j).length) 15 hg dX4_init_146 rfl rfl (rfl : (tyX Δ)[3]? = some (Δ.2.2.2.2.2, _)) (getE_end _ _ _) (by decide) rfl (vp_in_nI (by omega) (by decide)) rfl ?_
              refine wx_iinc (q := 150) (L' := [(0, _), (1, _)]) (nI (j + 1)) hg dX4_init_147 rfl rfl (nadd rfl rfl) rfl rfl ?_
              refine wx_goto (q := 125) hg dX4_init_150 (by decide) ?_
              refine wx_ws (ws' := baseC Δ b p t h i k c (hF 0 F 8) (hF 0 G 2) (hF 1 (updN E j x) (j + 1)) ++ manyC (stC Δ) F 8 ++ manyC (stC Δ) G 2 ++ manyC (chC Δ) (updN E j x) (j + 1)) (by rw [manyC_u, hF_u 1 E (by omega)]; simp only [List.append_assoc]) ?_
              exact wx_widen (by omega) (by omega) (ih (j + 1) (updN E j x) (by omega))
        · exact absurd (nI_le (a := 2) (b := 2) (by omega) (by omega)) hb
      | succ n ih =>
        intro j G hj
        refine wx_iload_n (q := 96) (i := 1) hg dX4_init_95 rfl rfl rfl ?_
        refine wx_aload_n (q := 97) (i := 0) hg dX4_init_96 rfl rfl rfl ?_
        refine wx_get (q := 100) 0 hg dX4_init_97 rfl fl_X4_24 rfl rfl ?_
        refine wx_alen (q := 101) (v := 2) 11 hg dX4_init_100 rfl rfl (rfl : (tyX Δ)[2]? = some (Δ.2.2.2.2.1, _)) rfl ?_
        refine wx_icmp_ge (q := 123) (q2 := 104) hg dX4_init_101 (by decide) rfl (fun hb => ?_) (fun hb => ?_)
        · exact absurd hb (nI_ge (a := j) (b := 2) (by omega) (by omega))
        · skip
          refine wx_aload_n (q := 105) (i := 0) hg dX4_init_104 rfl rfl rfl ?_
          refine wx_get (q := 108) 0 hg dX4_init_105 rfl fl_X4_24 rfl rfl ?_
          refine wx_iload_n (q := 109) (i := 1) hg dX4_init_108 rfl rfl rfl ?_
          refine wx_new (q := 112) (ci := 2) (fs := [.null, .null]) hg dX4_init_109 rfl (by decide) (by decide +kernel) (by decide +kernel) (by decide +kernel) fr2 (kN := 2) rfl (by omega) (by omega) (fun q3 => ?_)
          refine wx_dup (q := 113) hg dX4_init_112 rfl rfl ?_
          refine wx_callJ (q := 116) (wr := (baseC Δ b p t h i k c (hF 0 F 8) (hF 0 G j) (fun _ => none) ++ manyC (stC Δ) F 8 ++ manyC (stC Δ) G j)) (wc := [(q3, .inr (2, [.null, .null]))]) hg dX4_init_113 rfl lj_X2_init (fun h => h.1) rfl (by decide) (by omega) (by omega) c_X2_init rfl (Nat.le_of_ble_eq_true rfl) (fun w1 hw1 => ?_)
          obtain ⟨x, e1, rfl⟩ := hw1
          subst e1
          refine wx_astq (q := 117) (ws' := baseC Δ b p t h i k c (hF 0 F 8) (va_up (hF 0 G j) (nI j).toNatClampNeg (some (x 0))) (fun _ => none) ++ manyC (stC Δ) F 8 ++ manyC (stC Δ) G j ++ stC Δ x) (ci := 2) (qk := (baseC Δ b p t h i k c (hF 0 F 8) (hF 0 G j) (fun _ => none) ++ manyC (stC Δ) F 8 ++ manyC (stC Δ) G j).length) 11 hg dX4_init_116 rfl rfl (rfl : (tyX Δ)[2]? = some (Δ.2.2.2.2.1, _)) (getE_end _ _ _) (by decide) rfl (vp_in_nI (by omega) (by decide)) rfl ?_
          refine wx_iinc (q := 120) (L' := [(0, _), (1, _)]) (nI (j + 1)) hg dX4_init_117 rfl rfl (nadd rfl rfl) rfl rfl ?_
          refine wx_goto (q := 95) hg dX4_init_120 (by decide) ?_
          refine wx_ws (ws' := baseC Δ b p t h i k c (hF 0 F 8) (hF 0 (updN G j x) (j + 1)) (fun _ => none) ++ manyC (stC Δ) F 8 ++ manyC (stC Δ) (updN G j x) (j + 1)) (by rw [manyC_u, hF_u 0 G (by omega)]; simp only [List.append_assoc]) ?_
          exact wx_widen (by omega) (by omega) (ih (j + 1) (updN G j x) (by omega))
    · exact absurd (nI_le (a := 8) (b := 8) (by omega) (by omega)) hb
  | succ n ih =>
    intro j F hj
    refine wx_iload_n (q := 66) (i := 1) hg dX4_init_65 rfl rfl rfl ?_
    refine wx_aload_n (q := 67) (i := 0) hg dX4_init_66 rfl rfl rfl ?_
    refine wx_get (q := 70) 0 hg dX4_init_67 rfl fl_X4_16 rfl rfl ?_
    refine wx_alen (q := 71) (v := 8) 10 hg dX4_init_70 rfl rfl (rfl : (tyX Δ)[2]? = some (Δ.2.2.2.2.1, _)) rfl ?_
    refine wx_icmp_ge (q := 93) (q2 := 74) hg dX4_init_71 (by decide) rfl (fun hb => ?_) (fun hb => ?_)
    · exact absurd hb (nI_ge (a := j) (b := 8) (by omega) (by omega))
    · skip
      refine wx_aload_n (q := 75) (i := 0) hg dX4_init_74 rfl rfl rfl ?_
      refine wx_get (q := 78) 0 hg dX4_init_75 rfl fl_X4_16 rfl rfl ?_
      refine wx_iload_n (q := 79) (i := 1) hg dX4_init_78 rfl rfl rfl ?_
      refine wx_new (q := 82) (ci := 2) (fs := [.null, .null]) hg dX4_init_79 rfl (by decide) (by decide +kernel) (by decide +kernel) (by decide +kernel) fr2 (kN := 2) rfl (by omega) (by omega) (fun q3 => ?_)
      refine wx_dup (q := 83) hg dX4_init_82 rfl rfl ?_
      refine wx_callJ (q := 86) (wr := (baseC Δ b p t h i k c (hF 0 F j) (fun _ => none) (fun _ => none) ++ manyC (stC Δ) F j)) (wc := [(q3, .inr (2, [.null, .null]))]) hg dX4_init_83 rfl lj_X2_init (fun h => h.1) rfl (by decide) (by omega) (by omega) c_X2_init rfl (Nat.le_of_ble_eq_true rfl) (fun w1 hw1 => ?_)
      obtain ⟨x, e1, rfl⟩ := hw1
      subst e1
      refine wx_astq (q := 87) (ws' := baseC Δ b p t h i k c (va_up (hF 0 F j) (nI j).toNatClampNeg (some (x 0))) (fun _ => none) (fun _ => none) ++ manyC (stC Δ) F j ++ stC Δ x) (ci := 2) (qk := (baseC Δ b p t h i k c (hF 0 F j) (fun _ => none) (fun _ => none) ++ manyC (stC Δ) F j).length) 10 hg dX4_init_86 rfl rfl (rfl : (tyX Δ)[2]? = some (Δ.2.2.2.2.1, _)) (getE_end _ _ _) (by decide) rfl (vp_in_nI (by omega) (by decide)) rfl ?_
      refine wx_iinc (q := 90) (L' := [(0, _), (1, _)]) (nI (j + 1)) hg dX4_init_87 rfl rfl (nadd rfl rfl) rfl rfl ?_
      refine wx_goto (q := 65) hg dX4_init_90 (by decide) ?_
      refine wx_ws (ws' := baseC Δ b p t h i k c (hF 0 (updN F j x) (j + 1)) (fun _ => none) (fun _ => none) ++ manyC (stC Δ) (updN F j x) (j + 1)) (by rw [manyC_u, hF_u 0 F (by omega)]; simp only [List.append_assoc]) ?_
      exact wx_widen (by omega) (by omega) (ih (j + 1) (updN F j x) (by omega))
