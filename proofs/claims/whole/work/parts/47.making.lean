/-! ===== constructors of chain, books, state, text ===== -/
def chC (Δ : DT) (a : Nat → Nat) : va_W := [(a 1, .inr (1, [.int 4, .ref (a 2), .ref (a 3), .ref (a 4), .int 10, .int 300, .int 0, .int 0])), (a 2, .inl (Δ.2.2.1, 10, .inl (fun _ => 0))), (a 3, .inl (Δ.2.2.1, 10, .inl (fun _ => 0))), (a 4, .inl (Δ.2.2.1, 10, .inl (flF (fun _ => 0) (-1000000009) 10)))]
def bkC (Δ : DT) (a : Nat → Nat) : va_W := [(a 5, .inr (0, [.int 0, .int 0, .int 0, .int 0, .int 0, .ref (a 6), .ref (a 7), .ref (a 8)])), (a 6, .inl (Δ.2.2.1, 30, .inl (fun _ => 0))), (a 7, .inl (Δ.2.2.1, 30, .inl (fun _ => 0))), (a 8, .inl (Δ.2.2.1, 30, .inl (fun _ => 0)))]
def stC (Δ : DT) (a : Nat → Nat) : va_W := (a 0, .inr (2, [.ref (a 1), .ref (a 5)])) :: (chC Δ a ++ bkC Δ a)
def txC (Δ : DT) (a : Nat → Nat) : va_W := [(a 0, .inr (3, [.ref (a 1), .int 0, .int (-1000000009), .int (-1000000009)])), (a 1, .inl (Δ.2.2.1, 40, .inl (fun _ => 0)))]
theorem wsAI : Cond.arrayClass .int ∈ wsL_law := by decide +kernel
theorem wsAZ : Cond.arrayClass .boolean ∈ wsL_law := by decide +kernel
theorem wsOI : Cond.instanceMethod objectInit ∈ wsL_law := by decide +kernel
theorem wsOC : Cond.code objectInit ⟨#[0xb1]⟩ 1 none ∈ wsL_law := by decide +kernel
theorem fr0 : ∀ j, j < NN 0 → defaultValue (tyW 0 j) = vp_V [.int 0, .int 0, .int 0, .int 0, .int 0, .null, .null, .null] j := by
  intro j hj
  have hj : j < 8 := hj
  rcases (show j = 0 ∨ j = 1 ∨ j = 2 ∨ j = 3 ∨ j = 4 ∨ j = 5 ∨ j = 6 ∨ j = 7 by omega) with rfl | rfl | rfl | rfl | rfl | rfl | rfl | rfl <;> rfl
theorem fr1 : ∀ j, j < NN 1 → defaultValue (tyW 1 j) = vp_V [.int 0, .null, .null, .null, .int 0, .int 0, .int 0, .int 0] j := by
  intro j hj
  have hj : j < 8 := hj
  rcases (show j = 0 ∨ j = 1 ∨ j = 2 ∨ j = 3 ∨ j = 4 ∨ j = 5 ∨ j = 6 ∨ j = 7 by omega) with rfl | rfl | rfl | rfl | rfl | rfl | rfl | rfl <;> rfl
theorem fr2 : ∀ j, j < NN 2 → defaultValue (tyW 2 j) = vp_V [.null, .null] j := by
  intro j hj
  have hj : j < 2 := hj
  rcases (show j = 0 ∨ j = 1 by omega) with rfl | rfl <;> rfl
theorem fr3 : ∀ j, j < NN 3 → defaultValue (tyW 3 j) = vp_V [.null, .int 0, .int 0, .int 0] j := by
  intro j hj
  have hj : j < 4 := hj
  rcases (show j = 0 ∨ j = 1 ∨ j = 2 ∨ j = 3 by omega) with rfl | rfl | rfl | rfl <;> rfl
theorem fr4 : ∀ j, j < NN 4 → defaultValue (tyW 4 j) = vp_V [.null, .null, .int 0, .null, .null, .null, .null] j := by
  intro j hj
  have hj : j < 7 := hj
  rcases (show j = 0 ∨ j = 1 ∨ j = 2 ∨ j = 3 ∨ j = 4 ∨ j = 5 ∨ j = 6 by omega) with rfl | rfl | rfl | rfl | rfl | rfl | rfl <;> rfl
theorem fr5 : ∀ j, j < NN 5 → defaultValue (tyW 5 j) = vp_V [.null, .null, .int 0, .null, .null, .null, .int 0, .int 0, .int 0, .null, .int 0, .int 0, .int 0, .int 0, .null, .null, .null, .null, .int 0, .int 0, .int 0] j := by
  intro j hj
  have hj : j < 21 := hj
  rcases (show j = 0 ∨ j = 1 ∨ j = 2 ∨ j = 3 ∨ j = 4 ∨ j = 5 ∨ j = 6 ∨ j = 7 ∨ j = 8 ∨ j = 9 ∨ j = 10 ∨ j = 11 ∨ j = 12 ∨ j = 13 ∨ j = 14 ∨ j = 15 ∨ j = 16 ∨ j = 17 ∨ j = 18 ∨ j = 19 ∨ j = 20 by omega) with rfl | rfl | rfl | rfl | rfl | rfl | rfl | rfl | rfl | rfl | rfl | rfl | rfl | rfl | rfl | rfl | rfl | rfl | rfl | rfl | rfl <;> rfl
theorem oi_X1_3 : Cond.methodLink RX1 3 objectInit ∈ wsL_law := by decide +kernel
theorem lx_X1_38 : LnkS RX1 38 yJ7_fill_53178 cJ7_fill_53178 4 none 2 := lnkS_of (by decide +kernel) (by decide +kernel)
theorem oi_X0_3 : Cond.methodLink RX0 3 objectInit ∈ wsL_law := by decide +kernel
theorem oi_X3_3 : Cond.methodLink RX3 3 objectInit ∈ wsL_law := by decide +kernel
theorem ld_X3_19 : Cond.constant RX3 19 (-1000000009) ∈ wsL_law := by decide +kernel
theorem oi_X2_1 : Cond.methodLink RX2 1 objectInit ∈ wsL_law := by decide +kernel
theorem li_X2_9 : LnkI RX2 9 yX1_init cX1_init 1 0 := lnkI_of (by decide +kernel) (by decide +kernel)
theorem lj_X0_init : LnkJ yX0_init cX0_init 1 0 := lnkJ_of (by decide +kernel) (by decide +kernel)
set_option maxRecDepth 100000 in
set_option maxHeartbeats 4000000 in
theorem cx_fill {Δ : DT} {a : Nat} {v : Int32} : CtX Δ yJ7_fill_53178 cJ7_fill_53178 4 0 0 0 [.ref a, .int v] [(a, .inl (Δ.2.2.1, 10, .inl (fun _ => 0)))] (fun ws => ws = [(a, .inl (Δ.2.2.1, 10, .inl (flF (fun _ => 0) v 10)))]) := by
  refine ctx_of (by decide) (Nat.le_of_ble_eq_true rfl) (fun K A hg hin hr => ?_)
  show WX Δ K A _ _ _ [(0, _), (1, _)] 0 []
  refine wx_iconst (q := 1) 0 hg dJ7_fill_53178_0 rfl (by decide) ?_
  refine wx_istore_n (q := 2) (i := 2) (L' := [(0, _), (1, _), (2, _)]) hg dJ7_fill_53178_1 rfl rfl rfl rfl ?_
  refine wx_aload_n (q := 3) (i := 0) hg dJ7_fill_53178_2 rfl rfl rfl ?_
  refine wx_alen (q := 4) (v := 10) 0 hg dJ7_fill_53178_3 rfl rfl (rfl : (tyX Δ)[0]? = some (Δ.2.2.1, .int)) (by decide) ?_
  refine wx_istore_n (q := 5) (i := 3) (L' := [(0, _), (1, _), (2, _), (3, _)]) hg dJ7_fill_53178_4 rfl rfl rfl rfl ?_
  suffices hloop : ∀ (n j : Nat), j + n = 10 → WX Δ K A [(a, .inl (Δ.2.2.1, 10, .inl (flF (fun _ => 0) v j)))] 0 0 [(0, .ref a), (1, .int v), (2, .int (nI j)), (3, .int 10)] 5 [] from wx_ws (by rw [flF_0]) (hloop 10 0 (by omega))
  intro n
  induction n with
  | zero =>
    intro j hj
    refine wx_iload_n (q := 6) (i := 2) hg dJ7_fill_53178_5 rfl rfl rfl ?_
    refine wx_iload_n (q := 7) (i := 3) hg dJ7_fill_53178_6 rfl rfl rfl ?_
    refine wx_icmp_ge (q := 20) (q2 := 10) hg dJ7_fill_53178_7 (by decide) rfl (fun hb => ?_) (fun hb => ?_)
    · exact wx_return hg hr dJ7_fill_53178_20 (Nat.le_refl _) (Nat.le_refl _) (by rw [show j = 10 by omega])
    · exact absurd (nI_le (a := 10) (b := j) (by omega) (by omega)) hb
  | succ n ih =>
    intro j hj
    refine wx_iload_n (q := 6) (i := 2) hg dJ7_fill_53178_5 rfl rfl rfl ?_
    refine wx_iload_n (q := 7) (i := 3) hg dJ7_fill_53178_6 rfl rfl rfl ?_
    refine wx_icmp_ge (q := 20) (q2 := 10) hg dJ7_fill_53178_7 (by decide) rfl (fun hb => ?_) (fun hb => ?_)
    · exact absurd hb (nI_ge (a := j) (b := 10) (by omega) (by omega))
    · skip
      refine wx_aload_n (q := 11) (i := 0) hg dJ7_fill_53178_10 rfl rfl rfl ?_
      refine wx_iload_n (q := 12) (i := 2) hg dJ7_fill_53178_11 rfl rfl rfl ?_
      refine wx_iload_n (q := 13) (i := 1) hg dJ7_fill_53178_12 rfl rfl rfl ?_
      refine wx_iast (q := 14) (ws' := [(a, .inl (Δ.2.2.1, 10, .inl (flF (fun _ => 0) v (j + 1))))]) 0 hg dJ7_fill_53178_13 rfl rfl (vp_in_nI (by omega) (by decide)) (by rw [nI_clamp (by omega), flF_s]; rfl) ?_
      refine wx_iinc (q := 17) (L' := [(0, _), (1, _), (2, _), (3, _)]) (nI (j + 1)) hg dJ7_fill_53178_14 rfl rfl (nadd rfl rfl) rfl rfl ?_
      refine wx_goto (q := 5) hg dJ7_fill_53178_17 (by decide) ?_
      exact ih (j + 1) (by omega)
set_option maxRecDepth 100000 in
set_option maxHeartbeats 4000000 in
theorem c_X1_init {Δ : DT} {b : Nat} : CtX Δ yX1_init cX1_init 1 1 3 30 [.ref b] [(b, .inr (1, [.int 0, .null, .null, .null, .int 0, .int 0, .int 0, .int 0]))] (fun ws => ∃ a : Nat → Nat, a 1 = b ∧ ws = chC Δ a) := by
  refine ctx_of (by decide) (Nat.le_of_ble_eq_true rfl) (fun K A hg hin hr => ?_)
  show WX Δ K A _ _ _ [(0, _)] 0 []
  refine wx_aload_n (q := 1) (i := 0) hg dX1_init_0 rfl rfl rfl ?_
  refine wx_objInit (q := 4) hg dX1_init_1 rfl oi_X1_3 wsOI wsOC (by decide) (Nat.le_of_ble_eq_true rfl) ?_
  refine wx_aload_n (q := 5) (i := 0) hg dX1_init_4 rfl rfl rfl ?_
  refine wx_iconst (q := 6) 4 hg dX1_init_5 rfl (by decide) ?_
  refine wx_put (q := 9) (ws' := [(b, .inr (1, [.int 4, .null, .null, .null, .int 0, .int 0, .int 0, .int 0]))]) 0 hg dX1_init_6 rfl fl_X1_9 rfl rfl rfl rfl rfl (Nat.le_of_ble_eq_true rfl) rfl ?_
  refine wx_aload_n (q := 10) (i := 0) hg dX1_init_9 rfl rfl rfl ?_
  refine wx_bipush (q := 12) 10 hg dX1_init_10 rfl (by decide) ?_
  refine wx_newi (q := 14) (N := 10) hg dX1_init_12 rfl (by decide) (by decide) (by decide) (Nat.le_of_ble_eq_true rfl) (Nat.le_of_ble_eq_true rfl) wsAI (fun q1 => ?_)
  refine wx_ws (ws' := [(b, .inr (1, [.int 4, .null, .null, .null, .int 0, .int 0, .int 0, .int 0])), (q1, .inl (Δ.2.2.1, 10, .inl (fun _ => 0)))]) rfl ?_
  refine wx_putF (q := 17) (ws' := [(b, .inr (1, [.int 4, .ref q1, .null, .null, .int 0, .int 0, .int 0, .int 0])), (q1, .inl (Δ.2.2.1, 10, .inl (fun _ => 0)))]) 0 hg hin dX1_init_14 rfl fl_X1_15 rfl rfl rfl rfl rfl rfl (Nat.le_of_ble_eq_true rfl) rfl ?_
  refine wx_aload_n (q := 18) (i := 0) hg dX1_init_17 rfl rfl rfl ?_
  refine wx_bipush (q := 20) 10 hg dX1_init_18 rfl (by decide) ?_
  refine wx_newi (q := 22) (N := 10) hg dX1_init_20 rfl (by decide) (by decide) (by decide) (Nat.le_of_ble_eq_true rfl) (Nat.le_of_ble_eq_true rfl) wsAI (fun q2 => ?_)
  refine wx_ws (ws' := [(b, .inr (1, [.int 4, .ref q1, .null, .null, .int 0, .int 0, .int 0, .int 0])), (q1, .inl (Δ.2.2.1, 10, .inl (fun _ => 0))), (q2, .inl (Δ.2.2.1, 10, .inl (fun _ => 0)))]) rfl ?_
  refine wx_putF (q := 25) (ws' := [(b, .inr (1, [.int 4, .ref q1, .ref q2, .null, .int 0, .int 0, .int 0, .int 0])), (q1, .inl (Δ.2.2.1, 10, .inl (fun _ => 0))), (q2, .inl (Δ.2.2.1, 10, .inl (fun _ => 0)))]) 0 hg hin dX1_init_22 rfl fl_X1_19 rfl rfl rfl rfl rfl rfl (Nat.le_of_ble_eq_true rfl) rfl ?_
  refine wx_aload_n (q := 26) (i := 0) hg dX1_init_25 rfl rfl rfl ?_
  refine wx_bipush (q := 28) 10 hg dX1_init_26 rfl (by decide) ?_
  refine wx_newi (q := 30) (N := 10) hg dX1_init_28 rfl (by decide) (by decide) (by decide) (Nat.le_of_ble_eq_true rfl) (Nat.le_of_ble_eq_true rfl) wsAI (fun q3 => ?_)
  refine wx_ws (ws' := [(b, .inr (1, [.int 4, .ref q1, .ref q2, .null, .int 0, .int 0, .int 0, .int 0])), (q1, .inl (Δ.2.2.1, 10, .inl (fun _ => 0))), (q2, .inl (Δ.2.2.1, 10, .inl (fun _ => 0))), (q3, .inl (Δ.2.2.1, 10, .inl (fun _ => 0)))]) rfl ?_
  refine wx_putF (q := 33) (ws' := [(b, .inr (1, [.int 4, .ref q1, .ref q2, .ref q3, .int 0, .int 0, .int 0, .int 0])), (q1, .inl (Δ.2.2.1, 10, .inl (fun _ => 0))), (q2, .inl (Δ.2.2.1, 10, .inl (fun _ => 0))), (q3, .inl (Δ.2.2.1, 10, .inl (fun _ => 0)))]) 0 hg hin dX1_init_30 rfl fl_X1_22 rfl rfl rfl rfl rfl rfl (Nat.le_of_ble_eq_true rfl) rfl ?_
  refine wx_aload_n (q := 34) (i := 0) hg dX1_init_33 rfl rfl rfl ?_
  refine wx_bipush (q := 36) 10 hg dX1_init_34 rfl (by decide) ?_
  refine wx_put (q := 39) (ws' := [(b, .inr (1, [.int 4, .ref q1, .ref q2, .ref q3, .int 10, .int 0, .int 0, .int 0])), (q1, .inl (Δ.2.2.1, 10, .inl (fun _ => 0))), (q2, .inl (Δ.2.2.1, 10, .inl (fun _ => 0))), (q3, .inl (Δ.2.2.1, 10, .inl (fun _ => 0)))]) 0 hg dX1_init_36 rfl fl_X1_25 rfl rfl rfl rfl rfl (Nat.le_of_ble_eq_true rfl) rfl ?_
  refine wx_aload_n (q := 40) (i := 0) hg dX1_init_39 rfl rfl rfl ?_
  refine wx_sipush (q := 43) 300 hg dX1_init_40 rfl (by decide) ?_
  refine wx_put (q := 46) (ws' := [(b, .inr (1, [.int 4, .ref q1, .ref q2, .ref q3, .int 10, .int 300, .int 0, .int 0])), (q1, .inl (Δ.2.2.1, 10, .inl (fun _ => 0))), (q2, .inl (Δ.2.2.1, 10, .inl (fun _ => 0))), (q3, .inl (Δ.2.2.1, 10, .inl (fun _ => 0)))]) 0 hg dX1_init_43 rfl fl_X1_28 rfl rfl rfl rfl rfl (Nat.le_of_ble_eq_true rfl) rfl ?_
  refine wx_aload_n (q := 47) (i := 0) hg dX1_init_46 rfl rfl rfl ?_
  refine wx_iconst (q := 48) 0 hg dX1_init_47 rfl (by decide) ?_
  refine wx_put (q := 51) (ws' := [(b, .inr (1, [.int 4, .ref q1, .ref q2, .ref q3, .int 10, .int 300, .int 0, .int 0])), (q1, .inl (Δ.2.2.1, 10, .inl (fun _ => 0))), (q2, .inl (Δ.2.2.1, 10, .inl (fun _ => 0))), (q3, .inl (Δ.2.2.1, 10, .inl (fun _ => 0)))]) 0 hg dX1_init_48 rfl fl_X1_31 rfl rfl rfl rfl rfl (Nat.le_of_ble_eq_true rfl) rfl ?_
  refine wx_aload_n (q := 52) (i := 0) hg dX1_init_51 rfl rfl rfl ?_
  refine wx_iconst (q := 53) 0 hg dX1_init_52 rfl (by decide) ?_
  refine wx_put (q := 56) (ws' := [(b, .inr (1, [.int 4, .ref q1, .ref q2, .ref q3, .int 10, .int 300, .int 0, .int 0])), (q1, .inl (Δ.2.2.1, 10, .inl (fun _ => 0))), (q2, .inl (Δ.2.2.1, 10, .inl (fun _ => 0))), (q3, .inl (Δ.2.2.1, 10, .inl (fun _ => 0)))]) 0 hg dX1_init_53 rfl fl_X1_34 rfl rfl rfl rfl rfl (Nat.le_of_ble_eq_true rfl) rfl ?_
  refine wx_aload_n (q := 57) (i := 0) hg dX1_init_56 rfl rfl rfl ?_
  refine wx_get (q := 60) 0 hg dX1_init_57 rfl fl_X1_22 rfl rfl ?_
  refine wx_ldc (q := 62) (-1000000009) hg dX1_init_60 rfl ld_X1_37 ?_
  refine wx_callS (q := 65) (wr := [(b, .inr (1, [.int 4, .ref q1, .ref q2, .ref q3, .int 10, .int 300, .int 0, .int 0])), (q1, .inl (Δ.2.2.1, 10, .inl (fun _ => 0))), (q2, .inl (Δ.2.2.1, 10, .inl (fun _ => 0)))]) (wc := [(q3, .inl (Δ.2.2.1, 10, .inl (fun _ => 0)))]) hg dX1_init_62 rfl lx_X1_38 (by decide) (Nat.le_of_ble_eq_true rfl) (Nat.le_of_ble_eq_true rfl) (cx_fill (v := -1000000009)) rfl rfl rfl (Nat.le_of_ble_eq_true rfl) (fun w1 hw1 => ?_)
  subst hw1
  exact wx_return hg hr dX1_init_65 (Nat.le_of_ble_eq_true rfl) (Nat.le_of_ble_eq_true rfl) ⟨fun k => match k with | 1 => b | 2 => q1 | 3 => q2 | _ => q3, rfl, rfl⟩
set_option maxRecDepth 100000 in
set_option maxHeartbeats 4000000 in
theorem c_X0_init {Δ : DT} {b : Nat} : CtX Δ yX0_init cX0_init 1 1 3 90 [.ref b] [(b, .inr (0, [.int 0, .int 0, .int 0, .int 0, .int 0, .null, .null, .null]))] (fun ws => ∃ a : Nat → Nat, a 5 = b ∧ ws = bkC Δ a) := by
  refine ctx_of (by decide) (Nat.le_of_ble_eq_true rfl) (fun K A hg hin hr => ?_)
  show WX Δ K A _ _ _ [(0, _)] 0 []
  refine wx_aload_n (q := 1) (i := 0) hg dX0_init_0 rfl rfl rfl ?_
  refine wx_objInit (q := 4) hg dX0_init_1 rfl oi_X0_3 wsOI wsOC (by decide) (Nat.le_of_ble_eq_true rfl) ?_
  refine wx_aload_n (q := 5) (i := 0) hg dX0_init_4 rfl rfl rfl ?_
  refine wx_iconst (q := 6) 0 hg dX0_init_5 rfl (by decide) ?_
  refine wx_put (q := 9) (ws' := [(b, .inr (0, [.int 0, .int 0, .int 0, .int 0, .int 0, .null, .null, .null]))]) 0 hg dX0_init_6 rfl fl_X0_9 rfl rfl rfl rfl rfl (Nat.le_of_ble_eq_true rfl) rfl ?_
  refine wx_aload_n (q := 10) (i := 0) hg dX0_init_9 rfl rfl rfl ?_
  refine wx_iconst (q := 11) 0 hg dX0_init_10 rfl (by decide) ?_
  refine wx_put (q := 14) (ws' := [(b, .inr (0, [.int 0, .int 0, .int 0, .int 0, .int 0, .null, .null, .null]))]) 0 hg dX0_init_11 rfl fl_X0_15 rfl rfl rfl rfl rfl (Nat.le_of_ble_eq_true rfl) rfl ?_
  refine wx_aload_n (q := 15) (i := 0) hg dX0_init_14 rfl rfl rfl ?_
  refine wx_iconst (q := 16) 0 hg dX0_init_15 rfl (by decide) ?_
  refine wx_put (q := 19) (ws' := [(b, .inr (0, [.int 0, .int 0, .int 0, .int 0, .int 0, .null, .null, .null]))]) 0 hg dX0_init_16 rfl fl_X0_18 rfl rfl rfl rfl rfl (Nat.le_of_ble_eq_true rfl) rfl ?_
  refine wx_aload_n (q := 20) (i := 0) hg dX0_init_19 rfl rfl rfl ?_
  refine wx_iconst (q := 21) 0 hg dX0_init_20 rfl (by decide) ?_
  refine wx_put (q := 24) (ws' := [(b, .inr (0, [.int 0, .int 0, .int 0, .int 0, .int 0, .null, .null, .null]))]) 0 hg dX0_init_21 rfl fl_X0_21 rfl rfl rfl rfl rfl (Nat.le_of_ble_eq_true rfl) rfl ?_
  refine wx_aload_n (q := 25) (i := 0) hg dX0_init_24 rfl rfl rfl ?_
  refine wx_iconst (q := 26) 0 hg dX0_init_25 rfl (by decide) ?_
  refine wx_put (q := 29) (ws' := [(b, .inr (0, [.int 0, .int 0, .int 0, .int 0, .int 0, .null, .null, .null]))]) 0 hg dX0_init_26 rfl fl_X0_24 rfl rfl rfl rfl rfl (Nat.le_of_ble_eq_true rfl) rfl ?_
  refine wx_aload_n (q := 30) (i := 0) hg dX0_init_29 rfl rfl rfl ?_
  refine wx_bipush (q := 32) 30 hg dX0_init_30 rfl (by decide) ?_
  refine wx_newi (q := 34) (N := 30) hg dX0_init_32 rfl (by decide) (by decide) (by decide) (Nat.le_of_ble_eq_true rfl) (Nat.le_of_ble_eq_true rfl) wsAI (fun q1 => ?_)
  refine wx_ws (ws' := [(b, .inr (0, [.int 0, .int 0, .int 0, .int 0, .int 0, .null, .null, .null])), (q1, .inl (Δ.2.2.1, 30, .inl (fun _ => 0)))]) rfl ?_
  refine wx_putF (q := 37) (ws' := [(b, .inr (0, [.int 0, .int 0, .int 0, .int 0, .int 0, .ref q1, .null, .null])), (q1, .inl (Δ.2.2.1, 30, .inl (fun _ => 0)))]) 0 hg hin dX0_init_34 rfl fl_X0_27 rfl rfl rfl rfl rfl rfl (Nat.le_of_ble_eq_true rfl) rfl ?_
  refine wx_aload_n (q := 38) (i := 0) hg dX0_init_37 rfl rfl rfl ?_
  refine wx_bipush (q := 40) 30 hg dX0_init_38 rfl (by decide) ?_
  refine wx_newi (q := 42) (N := 30) hg dX0_init_40 rfl (by decide) (by decide) (by decide) (Nat.le_of_ble_eq_true rfl) (Nat.le_of_ble_eq_true rfl) wsAI (fun q2 => ?_)
  refine wx_ws (ws' := [(b, .inr (0, [.int 0, .int 0, .int 0, .int 0, .int 0, .ref q1, .null, .null])), (q1, .inl (Δ.2.2.1, 30, .inl (fun _ => 0))), (q2, .inl (Δ.2.2.1, 30, .inl (fun _ => 0)))]) rfl ?_
  refine wx_putF (q := 45) (ws' := [(b, .inr (0, [.int 0, .int 0, .int 0, .int 0, .int 0, .ref q1, .ref q2, .null])), (q1, .inl (Δ.2.2.1, 30, .inl (fun _ => 0))), (q2, .inl (Δ.2.2.1, 30, .inl (fun _ => 0)))]) 0 hg hin dX0_init_42 rfl fl_X0_31 rfl rfl rfl rfl rfl rfl (Nat.le_of_ble_eq_true rfl) rfl ?_
  refine wx_aload_n (q := 46) (i := 0) hg dX0_init_45 rfl rfl rfl ?_
  refine wx_bipush (q := 48) 30 hg dX0_init_46 rfl (by decide) ?_
  refine wx_newi (q := 50) (N := 30) hg dX0_init_48 rfl (by decide) (by decide) (by decide) (Nat.le_of_ble_eq_true rfl) (Nat.le_of_ble_eq_true rfl) wsAI (fun q3 => ?_)
  refine wx_ws (ws' := [(b, .inr (0, [.int 0, .int 0, .int 0, .int 0, .int 0, .ref q1, .ref q2, .null])), (q1, .inl (Δ.2.2.1, 30, .inl (fun _ => 0))), (q2, .inl (Δ.2.2.1, 30, .inl (fun _ => 0))), (q3, .inl (Δ.2.2.1, 30, .inl (fun _ => 0)))]) rfl ?_
  refine wx_putF (q := 53) (ws' := [(b, .inr (0, [.int 0, .int 0, .int 0, .int 0, .int 0, .ref q1, .ref q2, .ref q3])), (q1, .inl (Δ.2.2.1, 30, .inl (fun _ => 0))), (q2, .inl (Δ.2.2.1, 30, .inl (fun _ => 0))), (q3, .inl (Δ.2.2.1, 30, .inl (fun _ => 0)))]) 0 hg hin dX0_init_50 rfl fl_X0_34 rfl rfl rfl rfl rfl rfl (Nat.le_of_ble_eq_true rfl) rfl ?_
  exact wx_return hg hr dX0_init_53 (Nat.le_of_ble_eq_true rfl) (Nat.le_of_ble_eq_true rfl) ⟨fun k => match k with | 5 => b | 6 => q1 | 7 => q2 | _ => q3, rfl, rfl⟩
set_option maxRecDepth 100000 in
set_option maxHeartbeats 4000000 in
theorem c_X3_init {Δ : DT} {b : Nat} : CtX Δ yX3_init cX3_init 1 1 1 40 [.ref b] [(b, .inr (3, [.null, .int 0, .int 0, .int 0]))] (fun ws => ∃ a : Nat → Nat, a 0 = b ∧ ws = txC Δ a) := by
  refine ctx_of (by decide) (Nat.le_of_ble_eq_true rfl) (fun K A hg hin hr => ?_)
  show WX Δ K A _ _ _ [(0, _)] 0 []
  refine wx_aload_n (q := 1) (i := 0) hg dX3_init_0 rfl rfl rfl ?_
  refine wx_objInit (q := 4) hg dX3_init_1 rfl oi_X3_3 wsOI wsOC (by decide) (Nat.le_of_ble_eq_true rfl) ?_
  refine wx_aload_n (q := 5) (i := 0) hg dX3_init_4 rfl rfl rfl ?_
  refine wx_bipush (q := 7) 40 hg dX3_init_5 rfl (by decide) ?_
  refine wx_newi (q := 9) (N := 40) hg dX3_init_7 rfl (by decide) (by decide) (by decide) (Nat.le_of_ble_eq_true rfl) (Nat.le_of_ble_eq_true rfl) wsAI (fun q1 => ?_)
  refine wx_ws (ws' := [(b, .inr (3, [.null, .int 0, .int 0, .int 0])), (q1, .inl (Δ.2.2.1, 40, .inl (fun _ => 0)))]) rfl ?_
  refine wx_putF (q := 12) (ws' := [(b, .inr (3, [.ref q1, .int 0, .int 0, .int 0])), (q1, .inl (Δ.2.2.1, 40, .inl (fun _ => 0)))]) 0 hg hin dX3_init_9 rfl fl_X3_9 rfl rfl rfl rfl rfl rfl (Nat.le_of_ble_eq_true rfl) rfl ?_
  refine wx_aload_n (q := 13) (i := 0) hg dX3_init_12 rfl rfl rfl ?_
  refine wx_iconst (q := 14) 0 hg dX3_init_13 rfl (by decide) ?_
  refine wx_put (q := 17) (ws' := [(b, .inr (3, [.ref q1, .int 0, .int 0, .int 0])), (q1, .inl (Δ.2.2.1, 40, .inl (fun _ => 0)))]) 0 hg dX3_init_14 rfl fl_X3_15 rfl rfl rfl rfl rfl (Nat.le_of_ble_eq_true rfl) rfl ?_
  refine wx_aload_n (q := 18) (i := 0) hg dX3_init_17 rfl rfl rfl ?_
  refine wx_ldc (q := 20) (-1000000009) hg dX3_init_18 rfl ld_X3_19 ?_
  refine wx_put (q := 23) (ws' := [(b, .inr (3, [.ref q1, .int 0, .int (-1000000009), .int 0])), (q1, .inl (Δ.2.2.1, 40, .inl (fun _ => 0)))]) 0 hg dX3_init_20 rfl fl_X3_20 rfl rfl rfl rfl rfl (Nat.le_of_ble_eq_true rfl) rfl ?_
  refine wx_aload_n (q := 24) (i := 0) hg dX3_init_23 rfl rfl rfl ?_
  refine wx_ldc (q := 26) (-1000000009) hg dX3_init_24 rfl ld_X3_19 ?_
  refine wx_put (q := 29) (ws' := [(b, .inr (3, [.ref q1, .int 0, .int (-1000000009), .int (-1000000009)])), (q1, .inl (Δ.2.2.1, 40, .inl (fun _ => 0)))]) 0 hg dX3_init_26 rfl fl_X3_23 rfl rfl rfl rfl rfl (Nat.le_of_ble_eq_true rfl) rfl ?_
  exact wx_return hg hr dX3_init_29 (Nat.le_of_ble_eq_true rfl) (Nat.le_of_ble_eq_true rfl) ⟨fun k => match k with | 0 => b | _ => q1, rfl, rfl⟩
set_option maxRecDepth 100000 in
set_option maxHeartbeats 4000000 in
theorem c_X2_init {Δ : DT} {b : Nat} : CtX Δ yX2_init cX2_init 1 2 8 136 [.ref b] [(b, .inr (2, [.null, .null]))] (fun ws => ∃ a : Nat → Nat, a 0 = b ∧ ws = stC Δ a) := by
  refine ctx_of (by decide) (Nat.le_of_ble_eq_true rfl) (fun K A hg hin hr => ?_)
  show WX Δ K A _ _ _ [(0, _)] 0 []
  refine wx_aload_n (q := 1) (i := 0) hg dX2_init_0 rfl rfl rfl ?_
  refine wx_objInit (q := 4) hg dX2_init_1 rfl oi_X2_1 wsOI wsOC (by decide) (Nat.le_of_ble_eq_true rfl) ?_
  refine wx_aload_n (q := 5) (i := 0) hg dX2_init_4 rfl rfl rfl ?_
  refine wx_new (q := 8) (ci := 1) (fs := [.int 0, .null, .null, .null, .int 0, .int 0, .int 0, .int 0]) hg dX2_init_5 rfl (by decide) (by decide +kernel) (by decide +kernel) (by decide +kernel) fr1 (kN := 8) rfl (Nat.le_of_ble_eq_true rfl) (Nat.le_of_ble_eq_true rfl) (fun q1 => ?_)
  refine wx_ws (ws' := [(b, .inr (2, [.null, .null])), (q1, .inr (1, [.int 0, .null, .null, .null, .int 0, .int 0, .int 0, .int 0]))]) rfl ?_
  refine wx_dup (q := 9) hg dX2_init_8 rfl rfl ?_
  refine wx_callI (q := 12) (wr := [(b, .inr (2, [.null, .null]))]) (wc := [(q1, .inr (1, [.int 0, .null, .null, .null, .int 0, .int 0, .int 0, .int 0]))]) hg dX2_init_9 rfl li_X2_9 rfl (by decide) (Nat.le_of_ble_eq_true rfl) (Nat.le_of_ble_eq_true rfl) c_X1_init rfl (Nat.le_of_ble_eq_true rfl) (fun w1 hw1 => ?_)
  obtain ⟨a1, e1, rfl⟩ := hw1
  subst e1
  refine wx_putF (q := 15) (ws' := ([(b, .inr (2, [.ref (a1 1), .null]))] ++ chC Δ a1)) 0 hg hin dX2_init_12 rfl fl_X2_10 rfl rfl rfl rfl rfl rfl (Nat.le_of_ble_eq_true rfl) rfl ?_
  refine wx_aload_n (q := 16) (i := 0) hg dX2_init_15 rfl rfl rfl ?_
  refine wx_new (q := 19) (ci := 0) (fs := [.int 0, .int 0, .int 0, .int 0, .int 0, .null, .null, .null]) hg dX2_init_16 rfl (by decide) (by decide +kernel) (by decide +kernel) (by decide +kernel) fr0 (kN := 8) rfl (Nat.le_of_ble_eq_true rfl) (Nat.le_of_ble_eq_true rfl) (fun q3 => ?_)
  refine wx_dup (q := 20) hg dX2_init_19 rfl rfl ?_
  refine wx_callJ (q := 23) (wr := ([(b, .inr (2, [.ref (a1 1), .null]))] ++ chC Δ a1)) (wc := [(q3, .inr (0, [.int 0, .int 0, .int 0, .int 0, .int 0, .null, .null, .null]))]) hg dX2_init_20 rfl lj_X0_init (fun h => h.2.1) rfl (by decide) (Nat.le_of_ble_eq_true rfl) (Nat.le_of_ble_eq_true rfl) c_X0_init rfl (Nat.le_of_ble_eq_true rfl) (fun w1 hw1 => ?_)
  obtain ⟨a2, e1, rfl⟩ := hw1
  subst e1
  refine wx_putF (q := 26) (ws' := ([(b, .inr (2, [.ref (a1 1), .ref (a2 5)]))] ++ chC Δ a1 ++ bkC Δ a2)) 0 hg hin dX2_init_23 rfl fl_X2_19 rfl rfl rfl rfl rfl rfl (Nat.le_of_ble_eq_true rfl) rfl ?_
  exact wx_return hg hr dX2_init_26 (Nat.le_of_ble_eq_true rfl) (Nat.le_of_ble_eq_true rfl) ⟨fun k => match k with | 0 => b | 1 => a1 1 | 2 => a1 2 | 3 => a1 3 | 4 => a1 4 | k => a2 k, rfl, rfl⟩
