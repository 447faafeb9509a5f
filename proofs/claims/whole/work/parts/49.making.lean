/-! ===== the constructor of the reference ===== -/
def rfC (Δ : DT) (r : Nat → Nat) (w : Nat → Int32) : va_W := [(r 0, .inr (5, [.ref (r 1), .ref (r 2), .int 0, .ref (r 4), .ref (r 5), .ref (r 6), .int 0, .int (-1000000009), .int (-1000000009), .ref (r 10), .int 0, .int 0, .int 0, .int 0, .ref (r 15), .ref (r 16), .ref (r 17), .ref (r 18), .int 0, .int 0, .int 0])), (r 1, .inl (Δ.2.2.1, 130, .inl w)), (r 2, .inl (Δ.2.2.1, 1040, .inl (fun _ => 0))), (r 4, .inl (Δ.2.2.1, 260, .inl (fun _ => 0))), (r 5, .inl (Δ.2.2.1, 2, .inl (fun _ => 0))), (r 6, .inl (Δ.2.2.1, 40, .inl (fun _ => 0))), (r 10, .inl (Δ.2.2.1, 130, .inl (fun _ => 0))), (r 15, .inl (Δ.2.2.1, 30, .inl (fun _ => 0))), (r 16, .inl (Δ.2.2.1, 3, .inl (fun _ => 0))), (r 17, .inl (Δ.2.2.1, 10, .inl (fun _ => 0))), (r 18, .inl (Δ.2.2.1, 10, .inl (fun _ => 0)))]
theorem wxI (i : Nat) : nI i + 1 = nI (i + 1) := nI_1 i
def w0F : Nat → Int32 := upd (upd (fun _ => 0) 31 10) 32 300
theorem oi_X5_1 : Cond.methodLink RX5 1 objectInit ∈ wsL_law := by decide +kernel
theorem lv_X5_48 : LnkV RX5 48 yX5_lay cX5_lay 3 none 1 := lnkV_of (by decide +kernel) (by decide +kernel)
set_option maxRecDepth 100000 in
set_option maxHeartbeats 4000000 in
theorem cx_lay {Δ : DT} {r : Nat → Nat} {w : Nat → Int32} {v : Int32} : CtX Δ yX5_lay cX5_lay 3 1 0 0 [.ref (r 0), .int v] (rfC Δ r w) (fun ws => ws = rfC Δ r (laF w v 10)) := by
  refine ctx_of (by decide) (Nat.le_of_ble_eq_true rfl) (fun K A hg hin hr => ?_)
  show WX Δ K A _ _ _ [(0, _), (1, _)] 0 []
  refine wx_aload_n (q := 1) (i := 0) hg dX5_lay_0 rfl rfl rfl ?_
  refine wx_get (q := 4) 0 hg dX5_lay_1 rfl fl_X5_7 rfl rfl ?_
  refine wx_iconst (q := 5) 0 hg dX5_lay_4 rfl (by decide) ?_
  refine wx_iload_n (q := 6) (i := 1) hg dX5_lay_5 rfl rfl rfl ?_
  refine wx_iast (q := 7) (ws' := rfC Δ r (laF w v 0)) 1 hg dX5_lay_6 rfl rfl (vp_in_nI (n := 0) (by decide) (by decide)) (by show List.set (rfC Δ r w) 1 (r 1, .inl (Δ.2.2.1, 130, .inl (upd w 0 v))) = _; rw [laF_0]; rfl) ?_
  refine wx_iconst (q := 8) 0 hg dX5_lay_7 rfl (by decide) ?_
  refine wx_istore_n (q := 9) (i := 2) (L' := [(0, _), (1, _), (2, _)]) hg dX5_lay_8 rfl rfl rfl rfl ?_
  suffices hloop : ∀ (n i : Nat), i + n = 10 → WX Δ K A (rfC Δ r (laF w v i)) 0 0 [(0, .ref (r 0)), (1, .int v), (2, .int (nI i))] 9 [] from hloop 10 0 (by omega)
  intro n
  induction n with
  | zero =>
    intro i hi
    refine wx_iload_n (q := 10) (i := 2) hg dX5_lay_9 rfl rfl rfl ?_
    refine wx_bipush (q := 12) 10 hg dX5_lay_10 rfl (by decide) ?_
    refine wx_icmp_ge (q := 51) (q2 := 15) hg dX5_lay_12 (by decide) rfl (fun hb => ?_) (fun hb => ?_)
    · exact wx_return hg hr dX5_lay_51 (Nat.le_refl _) (Nat.le_refl _) (by rw [show i = 10 by omega])
    · exact absurd (nI_le (a := 10) (b := i) (by omega) (by omega)) hb
  | succ n ih =>
    intro i hi
    refine wx_iload_n (q := 10) (i := 2) hg dX5_lay_9 rfl rfl rfl ?_
    refine wx_bipush (q := 12) 10 hg dX5_lay_10 rfl (by decide) ?_
    refine wx_icmp_ge (q := 51) (q2 := 15) hg dX5_lay_12 (by decide) rfl (fun hb => ?_) (fun hb => ?_)
    · exact absurd hb (nI_ge (a := i) (b := 10) (by omega) (by omega))
    · skip
      refine wx_aload_n (q := 16) (i := 0) hg dX5_lay_15 rfl rfl rfl ?_
      refine wx_get (q := 19) 0 hg dX5_lay_16 rfl fl_X5_7 rfl rfl ?_
      refine wx_iconst (q := 20) 1 hg dX5_lay_19 rfl (by decide) ?_
      refine wx_iload_n (q := 21) (i := 2) hg dX5_lay_20 rfl rfl rfl ?_
      refine wx_iadd (q := 22) hg dX5_lay_21 rfl ?_
      refine wx_iconst (q := 23) 0 hg dX5_lay_22 rfl (by decide) ?_
      refine wx_iast (q := 24) (ws' := rfC Δ r (upd (laF w v i) (1 + i) 0)) 1 hg dX5_lay_23 rfl rfl (by rw [show (1 : Int32) + nI i = nI (1 + i) from nadd rfl rfl]; exact vp_in_nI (by omega) (by decide)) (by rw [show (1 : Int32) + nI i = nI (1 + i) from nadd rfl rfl, nI_clamp (by omega)]; rfl) ?_
      refine wx_aload_n (q := 25) (i := 0) hg dX5_lay_24 rfl rfl rfl ?_
      refine wx_get (q := 28) 0 hg dX5_lay_25 rfl fl_X5_7 rfl rfl ?_
      refine wx_bipush (q := 30) 11 hg dX5_lay_28 rfl (by decide) ?_
      refine wx_iload_n (q := 31) (i := 2) hg dX5_lay_30 rfl rfl rfl ?_
      refine wx_iadd (q := 32) hg dX5_lay_31 rfl ?_
      refine wx_iconst (q := 33) 0 hg dX5_lay_32 rfl (by decide) ?_
      refine wx_iast (q := 34) (ws' := rfC Δ r (upd (upd (laF w v i) (1 + i) 0) (11 + i) 0)) 1 hg dX5_lay_33 rfl rfl (by rw [show (11 : Int32) + nI i = nI (11 + i) from nadd rfl rfl]; exact vp_in_nI (by omega) (by decide)) (by rw [show (11 : Int32) + nI i = nI (11 + i) from nadd rfl rfl, nI_clamp (by omega)]; rfl) ?_
      refine wx_aload_n (q := 35) (i := 0) hg dX5_lay_34 rfl rfl rfl ?_
      refine wx_get (q := 38) 0 hg dX5_lay_35 rfl fl_X5_7 rfl rfl ?_
      refine wx_bipush (q := 40) 21 hg dX5_lay_38 rfl (by decide) ?_
      refine wx_iload_n (q := 41) (i := 2) hg dX5_lay_40 rfl rfl rfl ?_
      refine wx_iadd (q := 42) hg dX5_lay_41 rfl ?_
      refine wx_ldc (q := 44) (-1000000009) hg dX5_lay_42 rfl ld_X5_25 ?_
      refine wx_iast (q := 45) (ws' := rfC Δ r (upd (upd (upd (laF w v i) (1 + i) 0) (11 + i) 0) (21 + i) (-1000000009))) 1 hg dX5_lay_44 rfl rfl (by rw [show (21 : Int32) + nI i = nI (21 + i) from nadd rfl rfl]; exact vp_in_nI (by omega) (by decide)) (by rw [show (21 : Int32) + nI i = nI (21 + i) from nadd rfl rfl, nI_clamp (by omega)]; rfl) ?_
      refine wx_iinc (q := 48) (L' := [(0, _), (1, _), (2, _)]) (nI (i + 1)) hg dX5_lay_45 rfl rfl (nadd rfl rfl) rfl rfl ?_
      refine wx_goto (q := 9) hg dX5_lay_48 (by decide) ?_
      exact wx_ws (by rw [laF_s w v (by omega)]) (ih (i + 1) (by omega))
set_option maxRecDepth 100000 in
set_option maxHeartbeats 4000000 in
theorem c_X5_init {Δ : DT} {b : Nat} : CtX Δ yX5_init cX5_init 1 2 10 1655 [.ref b] [(b, .inr (5, [.null, .null, .int 0, .null, .null, .null, .int 0, .int 0, .int 0, .null, .int 0, .int 0, .int 0, .int 0, .null, .null, .null, .null, .int 0, .int 0, .int 0]))] (fun ws => ∃ r : Nat → Nat, r 0 = b ∧ ws = rfC Δ r (laF w0F 4 10)) := by
  refine ctx_of (by decide) (Nat.le_of_ble_eq_true rfl) (fun K A hg hin hr => ?_)
  show WX Δ K A _ _ _ [(0, _)] 0 []
  refine wx_aload_n (q := 1) (i := 0) hg dX5_init_0 rfl rfl rfl ?_
  refine wx_objInit (q := 4) hg dX5_init_1 rfl oi_X5_1 wsOI wsOC (by decide) (Nat.le_of_ble_eq_true rfl) ?_
  refine wx_aload_n (q := 5) (i := 0) hg dX5_init_4 rfl rfl rfl ?_
  refine wx_sipush (q := 8) 130 hg dX5_init_5 rfl (by decide) ?_
  refine wx_newi (q := 10) (N := 130) hg dX5_init_8 rfl (by decide) (by decide) (by decide) (Nat.le_of_ble_eq_true rfl) (Nat.le_of_ble_eq_true rfl) wsAI (fun q1 => ?_)
  refine wx_ws (ws' := [(b, .inr (5, [.null, .null, .int 0, .null, .null, .null, .int 0, .int 0, .int 0, .null, .int 0, .int 0, .int 0, .int 0, .null, .null, .null, .null, .int 0, .int 0, .int 0])), (q1, .inl (Δ.2.2.1, 130, .inl (fun _ => 0)))]) rfl ?_
  refine wx_putF (q := 13) (ws' := [(b, .inr (5, [.ref q1, .null, .int 0, .null, .null, .null, .int 0, .int 0, .int 0, .null, .int 0, .int 0, .int 0, .int 0, .null, .null, .null, .null, .int 0, .int 0, .int 0])), (q1, .inl (Δ.2.2.1, 130, .inl (fun _ => 0)))]) 0 hg hin dX5_init_10 rfl fl_X5_7 rfl rfl rfl rfl rfl rfl (Nat.le_of_ble_eq_true rfl) rfl ?_
  refine wx_aload_n (q := 14) (i := 0) hg dX5_init_13 rfl rfl rfl ?_
  refine wx_sipush (q := 17) 1040 hg dX5_init_14 rfl (by decide) ?_
  refine wx_newi (q := 19) (N := 1040) hg dX5_init_17 rfl (by decide) (by decide) (by decide) (Nat.le_of_ble_eq_true rfl) (Nat.le_of_ble_eq_true rfl) wsAI (fun q2 => ?_)
  refine wx_ws (ws' := [(b, .inr (5, [.ref q1, .null, .int 0, .null, .null, .null, .int 0, .int 0, .int 0, .null, .int 0, .int 0, .int 0, .int 0, .null, .null, .null, .null, .int 0, .int 0, .int 0])), (q1, .inl (Δ.2.2.1, 130, .inl (fun _ => 0))), (q2, .inl (Δ.2.2.1, 1040, .inl (fun _ => 0)))]) rfl ?_
  refine wx_putF (q := 22) (ws' := [(b, .inr (5, [.ref q1, .ref q2, .int 0, .null, .null, .null, .int 0, .int 0, .int 0, .null, .int 0, .int 0, .int 0, .int 0, .null, .null, .null, .null, .int 0, .int 0, .int 0])), (q1, .inl (Δ.2.2.1, 130, .inl (fun _ => 0))), (q2, .inl (Δ.2.2.1, 1040, .inl (fun _ => 0)))]) 0 hg hin dX5_init_19 rfl fl_X5_13 rfl rfl rfl rfl rfl rfl (Nat.le_of_ble_eq_true rfl) rfl ?_
  refine wx_aload_n (q := 23) (i := 0) hg dX5_init_22 rfl rfl rfl ?_
  refine wx_sipush (q := 26) 260 hg dX5_init_23 rfl (by decide) ?_
  refine wx_newi (q := 28) (N := 260) hg dX5_init_26 rfl (by decide) (by decide) (by decide) (Nat.le_of_ble_eq_true rfl) (Nat.le_of_ble_eq_true rfl) wsAI (fun q3 => ?_)
  refine wx_ws (ws' := [(b, .inr (5, [.ref q1, .ref q2, .int 0, .null, .null, .null, .int 0, .int 0, .int 0, .null, .int 0, .int 0, .int 0, .int 0, .null, .null, .null, .null, .int 0, .int 0, .int 0])), (q1, .inl (Δ.2.2.1, 130, .inl (fun _ => 0))), (q2, .inl (Δ.2.2.1, 1040, .inl (fun _ => 0))), (q3, .inl (Δ.2.2.1, 260, .inl (fun _ => 0)))]) rfl ?_
  refine wx_putF (q := 31) (ws' := [(b, .inr (5, [.ref q1, .ref q2, .int 0, .ref q3, .null, .null, .int 0, .int 0, .int 0, .null, .int 0, .int 0, .int 0, .int 0, .null, .null, .null, .null, .int 0, .int 0, .int 0])), (q1, .inl (Δ.2.2.1, 130, .inl (fun _ => 0))), (q2, .inl (Δ.2.2.1, 1040, .inl (fun _ => 0))), (q3, .inl (Δ.2.2.1, 260, .inl (fun _ => 0)))]) 0 hg hin dX5_init_28 rfl fl_X5_16 rfl rfl rfl rfl rfl rfl (Nat.le_of_ble_eq_true rfl) rfl ?_
  refine wx_aload_n (q := 32) (i := 0) hg dX5_init_31 rfl rfl rfl ?_
  refine wx_iconst (q := 33) 2 hg dX5_init_32 rfl (by decide) ?_
  refine wx_newi (q := 35) (N := 2) hg dX5_init_33 rfl (by decide) (by decide) (by decide) (Nat.le_of_ble_eq_true rfl) (Nat.le_of_ble_eq_true rfl) wsAI (fun q4 => ?_)
  refine wx_ws (ws' := [(b, .inr (5, [.ref q1, .ref q2, .int 0, .ref q3, .null, .null, .int 0, .int 0, .int 0, .null, .int 0, .int 0, .int 0, .int 0, .null, .null, .null, .null, .int 0, .int 0, .int 0])), (q1, .inl (Δ.2.2.1, 130, .inl (fun _ => 0))), (q2, .inl (Δ.2.2.1, 1040, .inl (fun _ => 0))), (q3, .inl (Δ.2.2.1, 260, .inl (fun _ => 0))), (q4, .inl (Δ.2.2.1, 2, .inl (fun _ => 0)))]) rfl ?_
  refine wx_putF (q := 38) (ws' := [(b, .inr (5, [.ref q1, .ref q2, .int 0, .ref q3, .ref q4, .null, .int 0, .int 0, .int 0, .null, .int 0, .int 0, .int 0, .int 0, .null, .null, .null, .null, .int 0, .int 0, .int 0])), (q1, .inl (Δ.2.2.1, 130, .inl (fun _ => 0))), (q2, .inl (Δ.2.2.1, 1040, .inl (fun _ => 0))), (q3, .inl (Δ.2.2.1, 260, .inl (fun _ => 0))), (q4, .inl (Δ.2.2.1, 2, .inl (fun _ => 0)))]) 0 hg hin dX5_init_35 rfl fl_X5_19 rfl rfl rfl rfl rfl rfl (Nat.le_of_ble_eq_true rfl) rfl ?_
  refine wx_aload_n (q := 39) (i := 0) hg dX5_init_38 rfl rfl rfl ?_
  refine wx_bipush (q := 41) 40 hg dX5_init_39 rfl (by decide) ?_
  refine wx_newi (q := 43) (N := 40) hg dX5_init_41 rfl (by decide) (by decide) (by decide) (Nat.le_of_ble_eq_true rfl) (Nat.le_of_ble_eq_true rfl) wsAI (fun q5 => ?_)
  refine wx_ws (ws' := [(b, .inr (5, [.ref q1, .ref q2, .int 0, .ref q3, .ref q4, .null, .int 0, .int 0, .int 0, .null, .int 0, .int 0, .int 0, .int 0, .null, .null, .null, .null, .int 0, .int 0, .int 0])), (q1, .inl (Δ.2.2.1, 130, .inl (fun _ => 0))), (q2, .inl (Δ.2.2.1, 1040, .inl (fun _ => 0))), (q3, .inl (Δ.2.2.1, 260, .inl (fun _ => 0))), (q4, .inl (Δ.2.2.1, 2, .inl (fun _ => 0))), (q5, .inl (Δ.2.2.1, 40, .inl (fun _ => 0)))]) rfl ?_
  refine wx_putF (q := 46) (ws' := [(b, .inr (5, [.ref q1, .ref q2, .int 0, .ref q3, .ref q4, .ref q5, .int 0, .int 0, .int 0, .null, .int 0, .int 0, .int 0, .int 0, .null, .null, .null, .null, .int 0, .int 0, .int 0])), (q1, .inl (Δ.2.2.1, 130, .inl (fun _ => 0))), (q2, .inl (Δ.2.2.1, 1040, .inl (fun _ => 0))), (q3, .inl (Δ.2.2.1, 260, .inl (fun _ => 0))), (q4, .inl (Δ.2.2.1, 2, .inl (fun _ => 0))), (q5, .inl (Δ.2.2.1, 40, .inl (fun _ => 0)))]) 0 hg hin dX5_init_43 rfl fl_X5_22 rfl rfl rfl rfl rfl rfl (Nat.le_of_ble_eq_true rfl) rfl ?_
  refine wx_aload_n (q := 47) (i := 0) hg dX5_init_46 rfl rfl rfl ?_
  refine wx_ldc (q := 49) (-1000000009) hg dX5_init_47 rfl ld_X5_25 ?_
  refine wx_put (q := 52) (ws' := [(b, .inr (5, [.ref q1, .ref q2, .int 0, .ref q3, .ref q4, .ref q5, .int 0, .int (-1000000009), .int 0, .null, .int 0, .int 0, .int 0, .int 0, .null, .null, .null, .null, .int 0, .int 0, .int 0])), (q1, .inl (Δ.2.2.1, 130, .inl (fun _ => 0))), (q2, .inl (Δ.2.2.1, 1040, .inl (fun _ => 0))), (q3, .inl (Δ.2.2.1, 260, .inl (fun _ => 0))), (q4, .inl (Δ.2.2.1, 2, .inl (fun _ => 0))), (q5, .inl (Δ.2.2.1, 40, .inl (fun _ => 0)))]) 0 hg dX5_init_49 rfl fl_X5_26 rfl rfl rfl rfl rfl (Nat.le_of_ble_eq_true rfl) rfl ?_
  refine wx_aload_n (q := 53) (i := 0) hg dX5_init_52 rfl rfl rfl ?_
  refine wx_ldc (q := 55) (-1000000009) hg dX5_init_53 rfl ld_X5_25 ?_
  refine wx_put (q := 58) (ws' := [(b, .inr (5, [.ref q1, .ref q2, .int 0, .ref q3, .ref q4, .ref q5, .int 0, .int (-1000000009), .int (-1000000009), .null, .int 0, .int 0, .int 0, .int 0, .null, .null, .null, .null, .int 0, .int 0, .int 0])), (q1, .inl (Δ.2.2.1, 130, .inl (fun _ => 0))), (q2, .inl (Δ.2.2.1, 1040, .inl (fun _ => 0))), (q3, .inl (Δ.2.2.1, 260, .inl (fun _ => 0))), (q4, .inl (Δ.2.2.1, 2, .inl (fun _ => 0))), (q5, .inl (Δ.2.2.1, 40, .inl (fun _ => 0)))]) 0 hg dX5_init_55 rfl fl_X5_30 rfl rfl rfl rfl rfl (Nat.le_of_ble_eq_true rfl) rfl ?_
  refine wx_aload_n (q := 59) (i := 0) hg dX5_init_58 rfl rfl rfl ?_
  refine wx_sipush (q := 62) 130 hg dX5_init_59 rfl (by decide) ?_
  refine wx_newi (q := 64) (N := 130) hg dX5_init_62 rfl (by decide) (by decide) (by decide) (Nat.le_of_ble_eq_true rfl) (Nat.le_of_ble_eq_true rfl) wsAI (fun q6 => ?_)
  refine wx_ws (ws' := [(b, .inr (5, [.ref q1, .ref q2, .int 0, .ref q3, .ref q4, .ref q5, .int 0, .int (-1000000009), .int (-1000000009), .null, .int 0, .int 0, .int 0, .int 0, .null, .null, .null, .null, .int 0, .int 0, .int 0])), (q1, .inl (Δ.2.2.1, 130, .inl (fun _ => 0))), (q2, .inl (Δ.2.2.1, 1040, .inl (fun _ => 0))), (q3, .inl (Δ.2.2.1, 260, .inl (fun _ => 0))), (q4, .inl (Δ.2.2.1, 2, .inl (fun _ => 0))), (q5, .inl (Δ.2.2.1, 40, .inl (fun _ => 0))), (q6, .inl (Δ.2.2.1, 130, .inl (fun _ => 0)))]) rfl ?_
  refine wx_putF (q := 67) (ws' := [(b, .inr (5, [.ref q1, .ref q2, .int 0, .ref q3, .ref q4, .ref q5, .int 0, .int (-1000000009), .int (-1000000009), .ref q6, .int 0, .int 0, .int 0, .int 0, .null, .null, .null, .null, .int 0, .int 0, .int 0])), (q1, .inl (Δ.2.2.1, 130, .inl (fun _ => 0))), (q2, .inl (Δ.2.2.1, 1040, .inl (fun _ => 0))), (q3, .inl (Δ.2.2.1, 260, .inl (fun _ => 0))), (q4, .inl (Δ.2.2.1, 2, .inl (fun _ => 0))), (q5, .inl (Δ.2.2.1, 40, .inl (fun _ => 0))), (q6, .inl (Δ.2.2.1, 130, .inl (fun _ => 0)))]) 0 hg hin dX5_init_64 rfl fl_X5_33 rfl rfl rfl rfl rfl rfl (Nat.le_of_ble_eq_true rfl) rfl ?_
  refine wx_aload_n (q := 68) (i := 0) hg dX5_init_67 rfl rfl rfl ?_
  refine wx_bipush (q := 70) 30 hg dX5_init_68 rfl (by decide) ?_
  refine wx_newi (q := 72) (N := 30) hg dX5_init_70 rfl (by decide) (by decide) (by decide) (Nat.le_of_ble_eq_true rfl) (Nat.le_of_ble_eq_true rfl) wsAI (fun q7 => ?_)
  refine wx_ws (ws' := [(b, .inr (5, [.ref q1, .ref q2, .int 0, .ref q3, .ref q4, .ref q5, .int 0, .int (-1000000009), .int (-1000000009), .ref q6, .int 0, .int 0, .int 0, .int 0, .null, .null, .null, .null, .int 0, .int 0, .int 0])), (q1, .inl (Δ.2.2.1, 130, .inl (fun _ => 0))), (q2, .inl (Δ.2.2.1, 1040, .inl (fun _ => 0))), (q3, .inl (Δ.2.2.1, 260, .inl (fun _ => 0))), (q4, .inl (Δ.2.2.1, 2, .inl (fun _ => 0))), (q5, .inl (Δ.2.2.1, 40, .inl (fun _ => 0))), (q6, .inl (Δ.2.2.1, 130, .inl (fun _ => 0))), (q7, .inl (Δ.2.2.1, 30, .inl (fun _ => 0)))]) rfl ?_
  refine wx_putF (q := 75) (ws' := [(b, .inr (5, [.ref q1, .ref q2, .int 0, .ref q3, .ref q4, .ref q5, .int 0, .int (-1000000009), .int (-1000000009), .ref q6, .int 0, .int 0, .int 0, .int 0, .ref q7, .null, .null, .null, .int 0, .int 0, .int 0])), (q1, .inl (Δ.2.2.1, 130, .inl (fun _ => 0))), (q2, .inl (Δ.2.2.1, 1040, .inl (fun _ => 0))), (q3, .inl (Δ.2.2.1, 260, .inl (fun _ => 0))), (q4, .inl (Δ.2.2.1, 2, .inl (fun _ => 0))), (q5, .inl (Δ.2.2.1, 40, .inl (fun _ => 0))), (q6, .inl (Δ.2.2.1, 130, .inl (fun _ => 0))), (q7, .inl (Δ.2.2.1, 30, .inl (fun _ => 0)))]) 0 hg hin dX5_init_72 rfl fl_X5_36 rfl rfl rfl rfl rfl rfl (Nat.le_of_ble_eq_true rfl) rfl ?_
  refine wx_aload_n (q := 76) (i := 0) hg dX5_init_75 rfl rfl rfl ?_
  refine wx_iconst (q := 77) 3 hg dX5_init_76 rfl (by decide) ?_
  refine wx_newi (q := 79) (N := 3) hg dX5_init_77 rfl (by decide) (by decide) (by decide) (Nat.le_of_ble_eq_true rfl) (Nat.le_of_ble_eq_true rfl) wsAI (fun q8 => ?_)
  refine wx_ws (ws' := [(b, .inr (5, [.ref q1, .ref q2, .int 0, .ref q3, .ref q4, .ref q5, .int 0, .int (-1000000009), .int (-1000000009), .ref q6, .int 0, .int 0, .int 0, .int 0, .ref q7, .null, .null, .null, .int 0, .int 0, .int 0])), (q1, .inl (Δ.2.2.1, 130, .inl (fun _ => 0))), (q2, .inl (Δ.2.2.1, 1040, .inl (fun _ => 0))), (q3, .inl (Δ.2.2.1, 260, .inl (fun _ => 0))), (q4, .inl (Δ.2.2.1, 2, .inl (fun _ => 0))), (q5, .inl (Δ.2.2.1, 40, .inl (fun _ => 0))), (q6, .inl (Δ.2.2.1, 130, .inl (fun _ => 0))), (q7, .inl (Δ.2.2.1, 30, .inl (fun _ => 0))), (q8, .inl (Δ.2.2.1, 3, .inl (fun _ => 0)))]) rfl ?_
  refine wx_putF (q := 82) (ws' := [(b, .inr (5, [.ref q1, .ref q2, .int 0, .ref q3, .ref q4, .ref q5, .int 0, .int (-1000000009), .int (-1000000009), .ref q6, .int 0, .int 0, .int 0, .int 0, .ref q7, .ref q8, .null, .null, .int 0, .int 0, .int 0])), (q1, .inl (Δ.2.2.1, 130, .inl (fun _ => 0))), (q2, .inl (Δ.2.2.1, 1040, .inl (fun _ => 0))), (q3, .inl (Δ.2.2.1, 260, .inl (fun _ => 0))), (q4, .inl (Δ.2.2.1, 2, .inl (fun _ => 0))), (q5, .inl (Δ.2.2.1, 40, .inl (fun _ => 0))), (q6, .inl (Δ.2.2.1, 130, .inl (fun _ => 0))), (q7, .inl (Δ.2.2.1, 30, .inl (fun _ => 0))), (q8, .inl (Δ.2.2.1, 3, .inl (fun _ => 0)))]) 0 hg hin dX5_init_79 rfl fl_X5_39 rfl rfl rfl rfl rfl rfl (Nat.le_of_ble_eq_true rfl) rfl ?_
  refine wx_aload_n (q := 83) (i := 0) hg dX5_init_82 rfl rfl rfl ?_
  refine wx_bipush (q := 85) 10 hg dX5_init_83 rfl (by decide) ?_
  refine wx_newi (q := 87) (N := 10) hg dX5_init_85 rfl (by decide) (by decide) (by decide) (Nat.le_of_ble_eq_true rfl) (Nat.le_of_ble_eq_true rfl) wsAI (fun q9 => ?_)
  refine wx_ws (ws' := [(b, .inr (5, [.ref q1, .ref q2, .int 0, .ref q3, .ref q4, .ref q5, .int 0, .int (-1000000009), .int (-1000000009), .ref q6, .int 0, .int 0, .int 0, .int 0, .ref q7, .ref q8, .null, .null, .int 0, .int 0, .int 0])), (q1, .inl (Δ.2.2.1, 130, .inl (fun _ => 0))), (q2, .inl (Δ.2.2.1, 1040, .inl (fun _ => 0))), (q3, .inl (Δ.2.2.1, 260, .inl (fun _ => 0))), (q4, .inl (Δ.2.2.1, 2, .inl (fun _ => 0))), (q5, .inl (Δ.2.2.1, 40, .inl (fun _ => 0))), (q6, .inl (Δ.2.2.1, 130, .inl (fun _ => 0))), (q7, .inl (Δ.2.2.1, 30, .inl (fun _ => 0))), (q8, .inl (Δ.2.2.1, 3, .inl (fun _ => 0))), (q9, .inl (Δ.2.2.1, 10, .inl (fun _ => 0)))]) rfl ?_
  refine wx_putF (q := 90) (ws' := [(b, .inr (5, [.ref q1, .ref q2, .int 0, .ref q3, .ref q4, .ref q5, .int 0, .int (-1000000009), .int (-1000000009), .ref q6, .int 0, .int 0, .int 0, .int 0, .ref q7, .ref q8, .ref q9, .null, .int 0, .int 0, .int 0])), (q1, .inl (Δ.2.2.1, 130, .inl (fun _ => 0))), (q2, .inl (Δ.2.2.1, 1040, .inl (fun _ => 0))), (q3, .inl (Δ.2.2.1, 260, .inl (fun _ => 0))), (q4, .inl (Δ.2.2.1, 2, .inl (fun _ => 0))), (q5, .inl (Δ.2.2.1, 40, .inl (fun _ => 0))), (q6, .inl (Δ.2.2.1, 130, .inl (fun _ => 0))), (q7, .inl (Δ.2.2.1, 30, .inl (fun _ => 0))), (q8, .inl (Δ.2.2.1, 3, .inl (fun _ => 0))), (q9, .inl (Δ.2.2.1, 10, .inl (fun _ => 0)))]) 0 hg hin dX5_init_87 rfl fl_X5_42 rfl rfl rfl rfl rfl rfl (Nat.le_of_ble_eq_true rfl) rfl ?_
  refine wx_aload_n (q := 91) (i := 0) hg dX5_init_90 rfl rfl rfl ?_
  refine wx_bipush (q := 93) 10 hg dX5_init_91 rfl (by decide) ?_
  refine wx_newi (q := 95) (N := 10) hg dX5_init_93 rfl (by decide) (by decide) (by decide) (Nat.le_of_ble_eq_true rfl) (Nat.le_of_ble_eq_true rfl) wsAI (fun q10 => ?_)
  refine wx_ws (ws' := [(b, .inr (5, [.ref q1, .ref q2, .int 0, .ref q3, .ref q4, .ref q5, .int 0, .int (-1000000009), .int (-1000000009), .ref q6, .int 0, .int 0, .int 0, .int 0, .ref q7, .ref q8, .ref q9, .null, .int 0, .int 0, .int 0])), (q1, .inl (Δ.2.2.1, 130, .inl (fun _ => 0))), (q2, .inl (Δ.2.2.1, 1040, .inl (fun _ => 0))), (q3, .inl (Δ.2.2.1, 260, .inl (fun _ => 0))), (q4, .inl (Δ.2.2.1, 2, .inl (fun _ => 0))), (q5, .inl (Δ.2.2.1, 40, .inl (fun _ => 0))), (q6, .inl (Δ.2.2.1, 130, .inl (fun _ => 0))), (q7, .inl (Δ.2.2.1, 30, .inl (fun _ => 0))), (q8, .inl (Δ.2.2.1, 3, .inl (fun _ => 0))), (q9, .inl (Δ.2.2.1, 10, .inl (fun _ => 0))), (q10, .inl (Δ.2.2.1, 10, .inl (fun _ => 0)))]) rfl ?_
  refine wx_putF (q := 98) (ws' := [(b, .inr (5, [.ref q1, .ref q2, .int 0, .ref q3, .ref q4, .ref q5, .int 0, .int (-1000000009), .int (-1000000009), .ref q6, .int 0, .int 0, .int 0, .int 0, .ref q7, .ref q8, .ref q9, .ref q10, .int 0, .int 0, .int 0])), (q1, .inl (Δ.2.2.1, 130, .inl (fun _ => 0))), (q2, .inl (Δ.2.2.1, 1040, .inl (fun _ => 0))), (q3, .inl (Δ.2.2.1, 260, .inl (fun _ => 0))), (q4, .inl (Δ.2.2.1, 2, .inl (fun _ => 0))), (q5, .inl (Δ.2.2.1, 40, .inl (fun _ => 0))), (q6, .inl (Δ.2.2.1, 130, .inl (fun _ => 0))), (q7, .inl (Δ.2.2.1, 30, .inl (fun _ => 0))), (q8, .inl (Δ.2.2.1, 3, .inl (fun _ => 0))), (q9, .inl (Δ.2.2.1, 10, .inl (fun _ => 0))), (q10, .inl (Δ.2.2.1, 10, .inl (fun _ => 0)))]) 0 hg hin dX5_init_95 rfl fl_X5_45 rfl rfl rfl rfl rfl rfl (Nat.le_of_ble_eq_true rfl) rfl ?_
  refine wx_aload_n (q := 99) (i := 0) hg dX5_init_98 rfl rfl rfl ?_
  refine wx_get (q := 102) 0 hg dX5_init_99 rfl fl_X5_7 rfl rfl ?_
  refine wx_bipush (q := 104) 31 hg dX5_init_102 rfl (by decide) ?_
  refine wx_bipush (q := 106) 10 hg dX5_init_104 rfl (by decide) ?_
  refine wx_iast (q := 107) (ws' := [(b, .inr (5, [.ref q1, .ref q2, .int 0, .ref q3, .ref q4, .ref q5, .int 0, .int (-1000000009), .int (-1000000009), .ref q6, .int 0, .int 0, .int 0, .int 0, .ref q7, .ref q8, .ref q9, .ref q10, .int 0, .int 0, .int 0])), (q1, .inl (Δ.2.2.1, 130, .inl (upd (fun _ => 0) 31 10))), (q2, .inl (Δ.2.2.1, 1040, .inl (fun _ => 0))), (q3, .inl (Δ.2.2.1, 260, .inl (fun _ => 0))), (q4, .inl (Δ.2.2.1, 2, .inl (fun _ => 0))), (q5, .inl (Δ.2.2.1, 40, .inl (fun _ => 0))), (q6, .inl (Δ.2.2.1, 130, .inl (fun _ => 0))), (q7, .inl (Δ.2.2.1, 30, .inl (fun _ => 0))), (q8, .inl (Δ.2.2.1, 3, .inl (fun _ => 0))), (q9, .inl (Δ.2.2.1, 10, .inl (fun _ => 0))), (q10, .inl (Δ.2.2.1, 10, .inl (fun _ => 0)))]) 1 hg dX5_init_106 rfl rfl (vp_in_nI (n := 31) (by decide) (by decide)) rfl ?_
  refine wx_aload_n (q := 108) (i := 0) hg dX5_init_107 rfl rfl rfl ?_
  refine wx_get (q := 111) 0 hg dX5_init_108 rfl fl_X5_7 rfl rfl ?_
  refine wx_bipush (q := 113) 32 hg dX5_init_111 rfl (by decide) ?_
  refine wx_sipush (q := 116) 300 hg dX5_init_113 rfl (by decide) ?_
  refine wx_iast (q := 117) (ws' := [(b, .inr (5, [.ref q1, .ref q2, .int 0, .ref q3, .ref q4, .ref q5, .int 0, .int (-1000000009), .int (-1000000009), .ref q6, .int 0, .int 0, .int 0, .int 0, .ref q7, .ref q8, .ref q9, .ref q10, .int 0, .int 0, .int 0])), (q1, .inl (Δ.2.2.1, 130, .inl w0F)), (q2, .inl (Δ.2.2.1, 1040, .inl (fun _ => 0))), (q3, .inl (Δ.2.2.1, 260, .inl (fun _ => 0))), (q4, .inl (Δ.2.2.1, 2, .inl (fun _ => 0))), (q5, .inl (Δ.2.2.1, 40, .inl (fun _ => 0))), (q6, .inl (Δ.2.2.1, 130, .inl (fun _ => 0))), (q7, .inl (Δ.2.2.1, 30, .inl (fun _ => 0))), (q8, .inl (Δ.2.2.1, 3, .inl (fun _ => 0))), (q9, .inl (Δ.2.2.1, 10, .inl (fun _ => 0))), (q10, .inl (Δ.2.2.1, 10, .inl (fun _ => 0)))]) 1 hg dX5_init_116 rfl rfl (vp_in_nI (n := 32) (by decide) (by decide)) rfl ?_
  refine wx_aload_n (q := 118) (i := 0) hg dX5_init_117 rfl rfl rfl ?_
  refine wx_iconst (q := 119) 4 hg dX5_init_118 rfl (by decide) ?_
  refine wx_ws (ws' := rfC Δ (fun k => match k with | 0 => b | 1 => q1 | 2 => q2 | 4 => q3 | 5 => q4 | 6 => q5 | 10 => q6 | 15 => q7 | 16 => q8 | 17 => q9 | _ => q10) w0F) rfl ?_
  refine wx_callV (q := 122) (b := b) (ci := 5) (qb := 0) (wr := []) (wc := rfC Δ (fun k => match k with | 0 => b | 1 => q1 | 2 => q2 | 4 => q3 | 5 => q4 | 6 => q5 | 10 => q6 | 15 => q7 | 16 => q8 | 17 => q9 | _ => q10) w0F) hg dX5_init_119 rfl lv_X5_48 (by decide) (Nat.le_of_ble_eq_true rfl) (Nat.le_of_ble_eq_true rfl) (cx_lay (r := (fun k => match k with | 0 => b | 1 => q1 | 2 => q2 | 4 => q3 | 5 => q4 | 6 => q5 | 10 => q6 | 15 => q7 | 16 => q8 | 17 => q9 | _ => q10)) (v := 4)) rfl rfl ⟨rfl, by decide⟩ rfl rfl (Nat.le_of_ble_eq_true rfl) (fun w1 hw1 => ?_)
  subst hw1
  exact wx_return hg hr dX5_init_122 (Nat.le_of_ble_eq_true rfl) (Nat.le_of_ble_eq_true rfl) ⟨(fun k => match k with | 0 => b | 1 => q1 | 2 => q2 | 4 => q3 | 5 => q4 | 6 => q5 | 10 => q6 | 15 => q7 | 16 => q8 | 17 => q9 | _ => q10), rfl, rfl⟩
