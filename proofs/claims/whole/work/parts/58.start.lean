/-! ===== the law from its entry ===== -/
theorem wx_astore_n {Δ : DT} {K : KT} {A : Nat → Prop} {cc : ByteArray} {own : String} {nL d mc ms : Nat} {ws : va_W} {c n : Nat} {L : List (Nat × Value)} {pc q : Nat} {st : List Value} {k : Fin 4} {i x : Nat} {L' : List (Nat × Value)} (hg : GX Δ K A cc own nL d mc ms) (hd : decode cc pc = .ok (.astore_n k, 1)) (hp : pc + 1 = q) (hi : (k : Nat) = i) (hL : stL L i (.ref x) = L') (hc : (cat1 L && ordL L && Nat.blt i nL) = true) (kk : WX Δ K A ws c n L' q st) : WX Δ K A ws c n L pc (.ref x :: st) := by
  subst hp
  intro H locs ls hP hD hS hl
  simp only [Bool.and_eq_true] at hc
  obtain ⟨⟨hc, ho⟩, hn⟩ := hc
  have hn : i < (kC K).maxLocals := by rw [hg.2.2.1]; exact Nat.blt_eq.mp hn
  exact lv_astore_n hg.1 hg.2.1 hd hi hl hn rfl (fun ls' hl' => kk H locs ls' hP hD hS (stL_has hl' hL hc ho))
theorem li_L_9 : LnkI RL 9 yX4_init cX4_init 2 0 := lnkI_of (by decide +kernel) (by decide +kernel)
theorem li_L_12 : LnkI RL 12 yX5_init cX5_init 1 0 := lnkI_of (by decide +kernel) (by decide +kernel)
theorem wn_pull : Cond.methodLinkNest RX1 72 yX4_pull RX4 ∈ lw_tbl := by decide +kernel
theorem wn_cos : Cond.methodLinkNest RX1 75 yX4_cosine RX4 ∈ lw_tbl := by decide +kernel
theorem wn_wit : Cond.methodLinkNest RX3 31 yX4_isWithin RX4 ∈ lw_tbl := by decide +kernel
theorem wn_x2 : Cond.methodLinkNest RX4 9 yX2_init RX4 ∈ lw_tbl := by decide +kernel
theorem wn_x0 : Cond.methodLinkNest RX2 18 yX0_init RX4 ∈ lw_tbl := by decide +kernel
theorem wn_x3 : Cond.methodLinkNest RX4 33 yX3_init RX4 ∈ lw_tbl := by decide +kernel
theorem wo_x2 : Cond.arrayOver (.object RX2) ∈ lw_tbl := by decide +kernel
theorem wo_x1 : Cond.arrayOver (.object RX1) ∈ lw_tbl := by decide +kernel
theorem wl_cos : Cond.laysStatic RX4 "COSINES" "[I" ∈ lw_tbl := by decide +kernel
theorem wi_n0 : Cond.instantiable RX0 8 ∈ wsL_law := by decide +kernel
theorem wi_n1 : Cond.instantiable RX1 8 ∈ wsL_law := by decide +kernel
theorem wi_n2 : Cond.instantiable RX2 2 ∈ wsL_law := by decide +kernel
theorem wi_n3 : Cond.instantiable RX3 4 ∈ wsL_law := by decide +kernel
theorem wi_n4 : Cond.instantiable RX4 7 ∈ wsL_law := by decide +kernel
theorem wi_n5 : Cond.instantiable RX5 21 ∈ wsL_law := by decide +kernel
theorem wi_i4 : Cond.initialized RX4 ∈ wsL_law := by decide +kernel
/-- the classes and the array classes -/
theorem known_K {s : State} {args : Array Value} (hts : ∀ w ∈ lw_tbl, w.before args s = true) (l : Launch) : ∃ Δ : DT, Δ.1 = l ∧ SX Δ s := by
  have h2 : ∀ w ∈ wsL_law, w.before args s = true := fun w h => hts w (wsL_law_in w h)
  obtain ⟨c0, i0, k0⟩ := u_known (C := RX0) (T := TX0) (N := 8) (n := 8) h2 inlX0 (h2 _ wi_n0)
  obtain ⟨c1, i1, k1⟩ := u_known (C := RX1) (T := TX1) (N := 8) (n := 8) h2 inlX1 (h2 _ wi_n1)
  obtain ⟨c2, i2, k2⟩ := u_known (C := RX2) (T := TX2) (N := 2) (n := 2) h2 inlX2 (h2 _ wi_n2)
  obtain ⟨c3, i3, k3⟩ := u_known (C := RX3) (T := TX3) (N := 4) (n := 4) h2 inlX3 (h2 _ wi_n3)
  obtain ⟨c4, i4, k4⟩ := u_known (C := RX4) (T := TX4) (N := 7) (n := 7) h2 inlX4 (h2 _ wi_n4)
  obtain ⟨c5, i5, k5⟩ := u_known (C := RX5) (T := TX5) (N := 21) (n := 21) h2 inlX5 (h2 _ wi_n5)
  obtain ⟨cI, kI, mI, a1, a2, a3⟩ := Cond.arrayClass_spec (h2 _ wsAI)
  obtain ⟨cZ, kZ, mZ, b1, b2, b3⟩ := Cond.arrayClass_spec (h2 _ wsAZ)
  obtain ⟨mS, cS, kS, d1, -, d3, d4, d5⟩ := Cond.arrayOver_spec (hts _ wo_x2)
  obtain ⟨mC, cC, kC, e1, -, e3, e4, e5⟩ := Cond.arrayOver_spec (hts _ wo_x1)
  refine ⟨(l, (fun k => match k with | 0 => c0 | 1 => c1 | 2 => c2 | 3 => c3 | 4 => c4 | _ => c5, fun k => match k with | 0 => i0 | 1 => i1 | 2 => i2 | 3 => i3 | 4 => i4 | _ => i5), (cI, cZ, cS, cC)), rfl, ⟨?_, ?_⟩, ⟨va_AO.of (hts _ wo_x2), va_AO.of (hts _ wo_x1)⟩, va_Nw.of rfl (hts _ wn_x2), va_Nw.of rfl (hts _ wn_x0), va_Nw.of rfl (hts _ wn_x3)⟩
  · intro k q hq
    match k, hq with
    | 0, hq => cases hq; exact k0
    | 1, hq => cases hq; exact k1
    | 2, hq => cases hq; exact k2
    | 3, hq => cases hq; exact k3
    | 4, hq => cases hq; exact k4
    | 5, hq => cases hq; exact k5
    | k + 6, hq => simp [vwCl] at hq
  · intro k q hq
    match k, hq with
    | 0, hq => cases hq; exact ⟨fun N z => ⟨(fun k h => by cases h), kI, a2, mI, a3⟩, a1⟩
    | 1, hq => cases hq; exact ⟨fun N z => ⟨(fun k h => by cases h), kZ, b2, mZ, b3⟩, b1⟩
    | 2, hq => cases hq; exact ⟨fun N z => ⟨(fun k h => by cases h), kS, d3, mS, d4⟩, kS, mS, d3, d4, d1, d5⟩
    | 3, hq => cases hq; exact ⟨fun N z => ⟨(fun k h => by cases h), kC, e3, mC, e4⟩, kC, mC, e3, e4, e1, e5⟩
    | k + 4, hq => simp [tyX] at hq
/-- the table of cosines -/
theorem known_cos {s : State} {args : Array Value} (hts : ∀ w ∈ lw_tbl, w.before args s = true) (hgv : (Jvm.Cond.and given_1 narrow_1).before args s = true) : ∃ tb : Nat, va_Z RX4 "COSINES" "[I" (.ref tb) (fun q => s.heap.size ≤ q) s s.heap ∧ va_T .int tb 8 (fun k => .int (cosV k)) (fun q => s.heap.size ≤ q) s s.heap := by
  have hs := flat_of_before _ hgv
  have hA : ∀ a : Nat, a < s.heap.size → ¬ (fun q : Nat => s.heap.size ≤ q) a := fun a h => Nat.not_le.mpr h
  obtain ⟨tb, h1, h2⟩ := va_Tof (tm := .static RX4 "COSINES" "[I") (ty := .int) (N := 8) (f := fun k => .int (cosV k)) (A := fun q => s.heap.size ≤ q) (args := args) (s := s) (by decide) (hs (.arrayOf (.static RX4 "COSINES" "[I") .int) (by decide +kernel)) (va_eqv (hs (.eq (.length (.static RX4 "COSINES" "[I")) (.int 8)) (by decide +kernel)) rfl) (fun j hj => by
    rcases (show j = 0 ∨ j = 1 ∨ j = 2 ∨ j = 3 ∨ j = 4 ∨ j = 5 ∨ j = 6 ∨ j = 7 by omega) with rfl | rfl | rfl | rfl | rfl | rfl | rfl | rfl
    · exact va_eqv (hs (.eq (.elem (.static RX4 "COSINES" "[I") (.int 0)) (.int 10)) (by decide +kernel)) rfl
    · exact va_eqv (hs (.eq (.elem (.static RX4 "COSINES" "[I") (.int 1)) (.int 7)) (by decide +kernel)) rfl
    · exact va_eqv (hs (.eq (.elem (.static RX4 "COSINES" "[I") (.int 2)) (.int 0)) (by decide +kernel)) rfl
    · exact va_eqv (hs (.eq (.elem (.static RX4 "COSINES" "[I") (.int 3)) (.int (-7))) (by decide +kernel)) rfl
    · exact va_eqv (hs (.eq (.elem (.static RX4 "COSINES" "[I") (.int 4)) (.int (-10))) (by decide +kernel)) rfl
    · exact va_eqv (hs (.eq (.elem (.static RX4 "COSINES" "[I") (.int 5)) (.int (-7))) (by decide +kernel)) rfl
    · exact va_eqv (hs (.eq (.elem (.static RX4 "COSINES" "[I") (.int 6)) (.int 0)) (by decide +kernel)) rfl
    · exact va_eqv (hs (.eq (.elem (.static RX4 "COSINES" "[I") (.int 7)) (.int 7)) (by decide +kernel)) rfl) hA
  exact ⟨tb, va_Zof (hts _ wl_cos) (hts _ (wsL_law_in _ wi_i4)) h1 hA, h2⟩
set_option maxRecDepth 100000 in
set_option maxHeartbeats 4000000 in
theorem whole_start {p : Program} {e : Env} {s : State} {m : MethodId} {below : List Frame} {meth : Method} {c : Code} (l : Launch) (hflags : l.flags = flags0) {b L : Nat} {xs : Nat → Int32} (hL : L ≤ 2048) (C0 : lw_At p s m meth c b L xs) : W p l e room_1 s m #[Value.ref b] below meth c s.heap [] 0 0 (lw_Z below #[Value.ref b] s) (entryFrame m ([Value.ref b] : List Value).toArray 8) := by
  obtain ⟨hx, hb, hr, hml, hown, hts, hX, hbl, hlocks, hgv⟩ := id C0
  obtain ⟨Δ, rfl, hSX⟩ := known_K hts l
  obtain ⟨tb, hZ, hT⟩ := known_cos hts hgv
  have hg : GX Δ (p, e, room_1, s, m, #[Value.ref b], below, meth, c, lw_Z below #[Value.ref b] s) (fun q => s.heap.size ≤ q) cL_law RL 8 20 600000 7302250 := ⟨hx, hb, hml, hown, fun w h => hts w (wsL_law_in w h), hSX, fun _ h => h, ⟨(Nat.le_of_ble_eq_true rfl : 20 ≤ 2048), (Nat.le_of_ble_eq_true rfl : 64 * 20 ≤ 84000)⟩, Nat.le_refl _, Nat.le_refl _⟩
  have hl := lv_entry ([.ref b]) (n := 8) (Nat.le_of_ble_eq_true rfl)
  rw [lg_entry_eq]
  have h : WX Δ (p, e, room_1, s, m, #[Value.ref b], below, meth, c, lw_Z below #[Value.ref b] s) (fun q => s.heap.size ≤ q) [] 0 0 [(0, .ref b)] 0 [] := by
    refine wx_new (q := 3) (ci := 4) (fs := [.null, .null, .int 0, .null, .null, .null, .null]) hg dL_law_0 rfl (by decide) (by decide +kernel) wi_n4 wi_i4 fr4 (kN := 7) rfl (Nat.le_of_ble_eq_true rfl) (Nat.le_of_ble_eq_true rfl) (fun a => ?_)
    refine wx_dup (q := 4) hg dL_law_3 rfl rfl ?_
    refine wx_callI (q := 7) (wr := []) (wc := [(a, .inr (4, [.null, .null, .int 0, .null, .null, .null, .null]))]) hg dL_law_4 rfl li_L_9 rfl (by decide) (Nat.le_of_ble_eq_true rfl) (Nat.le_of_ble_eq_true rfl) c_X4_init rfl (Nat.le_of_ble_eq_true rfl) (fun w1 hw1 => ?_)
    obtain ⟨pp, t, h, i, k, cc, F, G, E, rfl⟩ := hw1
    refine wx_ws (ws' := allC Δ a pp t h i k cc F G E) rfl ?_
    refine wx_astore_n (q := 8) (i := 1) (L' := [(0, _), (1, _)]) hg dL_law_7 rfl rfl rfl rfl ?_
    refine wx_new (q := 11) (ci := 5) (fs := [.null, .null, .int 0, .null, .null, .null, .int 0, .int 0, .int 0, .null, .int 0, .int 0, .int 0, .int 0, .null, .null, .null, .null, .int 0, .int 0, .int 0]) hg dL_law_8 rfl (by decide) (by decide +kernel) wi_n5 (by decide +kernel) fr5 (kN := 21) rfl (Nat.le_of_ble_eq_true rfl) (Nat.le_of_ble_eq_true rfl) (fun a2 => ?_)
    refine wx_dup (q := 12) hg dL_law_11 rfl rfl ?_
    refine wx_callI (q := 15) (wr := allC Δ a pp t h i k cc F G E) (wc := [(a2, .inr (5, [.null, .null, .int 0, .null, .null, .null, .int 0, .int 0, .int 0, .null, .int 0, .int 0, .int 0, .int 0, .null, .null, .null, .null, .int 0, .int 0, .int 0]))]) hg dL_law_12 rfl li_L_12 rfl (by decide) (Nat.le_of_ble_eq_true rfl) (Nat.le_of_ble_eq_true rfl) c_X5_init rfl (Nat.le_of_ble_eq_true rfl) (fun w1 hw1 => ?_)
    obtain ⟨r, e1, rfl⟩ := hw1
    subst e1
    refine wx_astore_n (q := 16) (i := 2) (L' := [(0, _), (1, _), (2, _)]) hg dL_law_15 rfl rfl rfl rfl ?_
    refine wx_iconst (q := 17) 0 hg dL_law_16 rfl (by decide) ?_
    refine wx_istore_n (q := 18) (i := 3) (L' := [(0, _), (1, _), (2, _), (3, _)]) hg dL_law_17 rfl rfl rfl rfl ?_
    intro H locs ls hP hD hS hl2
    have hP2 : va_P Δ.2.1 vwCl (allW Δ a h i k cc pp t r F G E) H := hP
    have hD2 : va_D (fun q => s.heap.size ≤ q) (allW Δ a h i k cc pp t r F G E) := hD
    have hgok := mk_gok (base := s.heap.size) (tb := tb) hD2 (fun q hq => hq)
    have hGL : GL (GD Δ (adX a h i k cc pp t r F G E) s.heap.size tb) (p, e, room_1, s, m, #[Value.ref b], below, meth, c, lw_Z below #[Value.ref b] s) b L xs := ⟨⟨hx, hb, hml, hown, fun w hw => hts w (wsL_law_in w hw), hSX.1, hgok, ⟨va_Nw.of rfl (hts _ wn_pull), va_Nw.of rfl (hts _ wn_cos), va_Nw.of rfl (hts _ wn_wit)⟩, ⟨hZ, hT⟩, (Nat.le_of_ble_eq_true rfl : 20 ≤ 2048), (Nat.le_of_ble_eq_true rfl : 64 * 20 ≤ 84000)⟩, ⟨Nat.le_refl _, Nat.le_refl _⟩, hX, hbl, Nat.not_le.mpr hbl, hL⟩
    have hend : ∀ (M : Mem) (L' : List (Nat × Value)), WL (GD Δ (adX a h i k cc pp t r F G E) s.heap.size tb) (p, e, room_1, s, m, #[Value.ref b], below, meth, c, lw_Z below #[Value.ref b] s) M L' 783 [.int 1] := by
      intro M L' H2 locs2 ls2 hP3 hS3 hl3
      exact va_forget (fun q hq => hS3.2.2 q hq) (W.base (lw_ret (Drawn.sameBut.refl s.drawn lw_cs) hx hb hr hlocks dL_law_783))
    exact W.widen (Nat.le_of_ble_eq_true rfl) (Nat.le_of_ble_eq_true rfl) (law_loop hGL hend L 0 M0F (by omega) (by omega) RI_0 H locs ls (mk_mem hP2) hS hl2)
  exact h s.heap [] _ (fun k q hq => by simp at hq) ⟨fun i j x y hi => by simp at hi, fun k q hq => by simp at hq⟩ va_S.rf (by show lv_has _ c.maxLocals _; rw [hml]; exact hl)
