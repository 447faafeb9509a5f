/-! ===== constructors: worlds in the making ===== -/
abbrev DT : Type := Launch × va_G × (ClassId × ClassId × ClassId × ClassId)
def tyX (Δ : DT) : List (ClassId × FieldType) := [(Δ.2.2.1, .int), (Δ.2.2.2.1, .boolean), (Δ.2.2.2.2.1, .object RX2), (Δ.2.2.2.2.2, .object RX1)]
/-- the links to constructors of nest mates -/
def NIX (U : State) : Prop := va_Nw (.methodLinkNest RX4 9 yX2_init RX4) U ∧ va_Nw (.methodLinkNest RX2 18 yX0_init RX4) U ∧ va_Nw (.methodLinkNest RX4 33 yX3_init RX4) U
def SX (Δ : DT) (U : State) : Prop := va_K Δ.2.1 vwCl (tyX Δ) U ∧ (va_AO RX2 U ∧ va_AO RX1 U) ∧ NIX U
theorem SX.warm {Δ : DT} {s U : State} (hW : s.WarmedH U.vm) (h : SX Δ s) : SX Δ U := ⟨va_K.moved hW.alike h.1, ⟨va_AO.moved hW.alike h.2.1.1, va_AO.moved hW.alike h.2.1.2⟩, va_Nw.warmM hW h.2.2.1, va_Nw.warmM hW h.2.2.2.1, va_Nw.warmM hW h.2.2.2.2⟩
theorem SX.same {Δ : DT} {u U : State} (hu : u.vm = U.vm) (hvm : u.vm.Alike U.vm) (h : SX Δ u) : SX Δ U := ⟨va_K.moved hvm h.1, ⟨va_AO.moved hvm h.2.1.1, va_AO.moved hvm h.2.1.2⟩, va_Nw.same rfl hu h.2.2.1, va_Nw.same rfl hu h.2.2.2.1, va_Nw.same rfl hu h.2.2.2.2⟩
def WX (Δ : DT) (K : KT) (A : Nat → Prop) (ws : va_W) (c n : Nat) (L : List (Nat × Value)) (pc : Nat) (st : List Value) : Prop :=
  ∀ (H : Heap) (locs : List Loc) (ls : Array Slot), va_P Δ.2.1 vwCl ws H → va_D A ws → va_S A (kS K).heap H locs → lv_has ls (kC K).maxLocals L → W (kP K) Δ.1 (kE K) (kR K) (kS K) (kM K) (kArgs K) (kB K) (kMeth K) (kC K) H locs c n (kQ K) (F0 (kM K) pc ls st)
def GX (Δ : DT) (K : KT) (A : Nat → Prop) (cc : ByteArray) (own : String) (nL d mc ms : Nat) : Prop :=
  (kP K).tables.exec = Jvm.exec ∧ (kC K).code = cc ∧ (kC K).maxLocals = nL ∧ (kS K).vm.findClass own = some (kM K).cls ∧ (∀ w ∈ wsL_law, w.before (kArgs K) (kS K) = true) ∧ SX Δ (kS K) ∧ (∀ q : Nat, (kS K).heap.size ≤ q → A q) ∧ (d ≤ (kR K).frames ∧ 64 * d ≤ (kR K).locals) ∧ mc ≤ (kR K).cells ∧ ms ≤ (kR K).slots
abbrev QX (Δ : DT) (A : Nat → Prop) (P : va_W → Prop) : Array Value → State → Outcome → State → Prop := va_Qv P (fun ws t => va_P Δ.2.1 vwCl ws t.heap ∧ va_D A ws) A
def RKX (Δ : DT) (K : KT) (A : Nat → Prop) (P : va_W → Prop) (mc ms : Nat) : Prop := (kMeth K).sig.returnType = none ∧ (kMeth K).locks = false ∧ kQ K = MQ (kB K) (QX Δ A P) (kArgs K) (kS K) mc ms A
abbrev rmx (d mc ms : Nat) : Room := { frames := d, cells := mc, slots := ms, locals := 64 * d }
/-- the contract of a method that makes cells: from the cells wc it comes to cells with P -/
def CtX (Δ : DT) (y : MethodName) (cc : ByteArray) (nL d mc ms : Nat) (args : List Value) (wc : va_W) (P : va_W → Prop) : Prop :=
  ∀ sz : Nat, Met Δ.1 y (.code y cc nL none :: wsL_law) (rmx d mc ms) (va_Pc args (fun U => U.heap.size = sz ∧ va_P Δ.2.1 vwCl wc U.heap ∧ SX Δ U ∧ va_D (fun _ => True) wc)) (QX Δ (va_A wc sz) P) mc ms (va_A wc sz)
theorem ctx_of {Δ : DT} {y : MethodName} {cc : ByteArray} {nL d mc ms : Nat} {args : List Value} {wc : va_W} {P : va_W → Prop} (hy : plainName y.cls = true) (hsz : (lg_sl args).length ≤ nL)
    (body : ∀ (K : KT) (A : Nat → Prop), GX Δ K A cc y.cls nL d mc ms → (kMeth K).name = y.name → RKX Δ K A P mc ms → WX Δ K A wc 0 0 (lv_args 0 args) 0 []) : CtX Δ y cc nL d mc ms args wc P := by
  intro sz
  refine Met.ofW (cc := cc) (maxL := nL) (ret := none) hy rfl ?_
  intro p e s m a below meth c s₁ B hml hv
  obtain ⟨rfl, hs, hP, hK, hD⟩ := hv
  subst hs
  have hts := atoms_spec (ws := Cond.code y cc nL none :: wsL_law) B.pre
  have hown : s.vm.findClass y.cls = some m.cls := findClass_of_methodNamed B.named
  have hl := lv_entry args (n := nL) hsz
  rw [lg_entry_eq]
  have h := body (p, e, rmx d mc ms, s, m, args.toArray, below, meth, c, MQ below (QX Δ (va_A wc s.heap.size) P) args.toArray s mc ms (va_A wc s.heap.size)) (va_A wc s.heap.size) ⟨B.exec, B.bytes, hml, hown, fun w hw => hts w (List.mem_cons_of_mem _ hw), hK, fun q h => Or.inr h, ⟨Nat.le_refl _, Nat.le_refl _⟩, Nat.le_refl _, Nat.le_refl _⟩ (name_of_methodNamed B.named B.method).1 ⟨B.returns, B.notSynchronized, rfl⟩
  exact h s.heap [] _ hP hD.self va_S.rf (by rw [hml]; exact hl)
theorem wx_join {A : Nat → Prop} {D : va_G} {cl : List vw_C} {wr wc w1 : va_W} {H H1 : Heap} (hP : va_P D cl (wr ++ wc) H) (hD : va_D A (wr ++ wc)) (hk : ∀ q : Nat, q < H.size → ¬ va_A wc H.size q → H1[q]? = H[q]?) (hF : ∀ q, va_A wc H.size q → A q) (hP1 : va_P D cl w1 H1) (hD1 : va_D (va_A wc H.size) w1) : va_P D cl (wr ++ w1) H1 ∧ va_D A (wr ++ w1) := by
  have hl : ∀ (k : Nat) (q : Nat × va_E), wr[k]? = some q → (wr ++ wc)[k]? = some q := fun k q h => by
    rw [List.getElem?_append_left (List.getElem?_eq_some_iff.mp h).1]; exact h
  have hr : ∀ (k : Nat) (q : Nat × va_E), wc[k]? = some q → (wr ++ wc)[wr.length + k]? = some q := fun k q h => by
    rw [List.getElem?_append_right (by omega), Nat.add_sub_cancel_left]; exact h
  have hap : ∀ (k : Nat) (q : Nat × va_E), wr[k]? = some q → ¬ va_A wc H.size q.1 := by
    intro k q h hz
    rcases hz with ⟨j, e, hj⟩ | hz
    · have := hD.1 _ _ _ _ (hl k q h) (hr j _ hj) rfl
      have := (List.getElem?_eq_some_iff.mp h).1
      omega
    · have := (hP k q (hl k q h)).lt
      omega
  have hsp : ∀ (k : Nat) (q : Nat × va_E), (wr ++ w1)[k]? = some q → (k < wr.length ∧ wr[k]? = some q) ∨ (wr.length ≤ k ∧ w1[k - wr.length]? = some q) := by
    intro k q h
    by_cases hlt : k < wr.length
    · rw [List.getElem?_append_left hlt] at h
      exact Or.inl ⟨hlt, h⟩
    · rw [List.getElem?_append_right (by omega)] at h
      exact Or.inr ⟨by omega, h⟩
  refine ⟨fun k q h => ?_, fun i j x y hi hj hxy => ?_, fun k q h => ?_⟩
  · rcases hsp k q h with ⟨-, h1⟩ | ⟨-, h1⟩
    · have h2 := hP k q (hl k q h1)
      exact h2.kept (hk q.1 h2.lt (hap k q h1))
    · exact hP1 _ q h1
  · rcases hsp i x hi with ⟨l1, h1⟩ | ⟨l1, h1⟩ <;> rcases hsp j y hj with ⟨l2, h2⟩ | ⟨l2, h2⟩
    · exact hD.1 i j x y (hl i x h1) (hl j y h2) hxy
    · exact absurd (by rw [hxy]; exact hD1.2 _ y h2) (hap i x h1)
    · exact absurd (by rw [← hxy]; exact hD1.2 _ x h1) (hap j y h2)
    · have := hD1.1 _ _ x y h1 h2 hxy
      omega
  · rcases hsp k q h with ⟨-, h1⟩ | ⟨-, h1⟩
    · exact hD.2 k q (hl k q h1)
    · exact hF _ (hD1.2 _ q h1)
theorem stL_has {ls' : Array Slot} {nL i : Nat} {v : Value} {L L' : List (Nat × Value)} (hl' : lv_has ls' nL ((i, v) :: L.filter (fun q => !(q.1 == i) && !(q.1 + 1 == i && q.2.category == 2)))) (hL : stL L i v = L') (hc : cat1 L = true) (ho : ordL L = true) : lv_has ls' nL L' := by
  refine ⟨hl'.1, hl'.2.1, fun q hq => ?_⟩
  subst hL
  refine hl'.2.2 q ?_
  rcases stL_in q (ordL_pw ho) hq with rfl | ⟨h1, h2⟩
  · exact List.mem_cons_self
  · refine List.mem_cons_of_mem _ (List.mem_filter.mpr ⟨h1, ?_⟩)
    have h3 : q.2.category = 1 := Nat.eq_of_beq_eq_true (List.all_eq_true.mp hc q h1)
    simp [h2, h3]
section XRows
variable {Δ : DT} {K : KT} {A : Nat → Prop} {cc : ByteArray} {own : String} {nL d mc ms : Nat} {ws ws' : va_W} {c n : Nat} {L : List (Nat × Value)} {pc q : Nat} {st : List Value} {P : va_W → Prop}
theorem wx_ws (h : ws = ws') (kk : WX Δ K A ws' c n L pc st) : WX Δ K A ws c n L pc st := h ▸ kk
theorem wx_L {L' : List (Nat × Value)} (ks : List Nat) (h : lv_pick L ks = L') (kk : WX Δ K A ws c n L' pc st) : WX Δ K A ws c n L pc st := fun H locs ls hP hD hS hl => kk H locs ls hP hD hS (lv_sub hl ks h)
theorem wx_st {st' : List Value} (h : st = st') (kk : WX Δ K A ws c n L pc st') : WX Δ K A ws c n L pc st := h ▸ kk
theorem wx_widen {c' n' : Nat} (h1 : c ≤ c') (h2 : n ≤ n') (kk : WX Δ K A ws c' n' L pc st) : WX Δ K A ws c n L pc st := fun H locs ls hP hD hS hl => W.widen h1 h2 (kk H locs ls hP hD hS hl)
theorem wx_iconst {z : Int} (v : Int32) (hg : GX Δ K A cc own nL d mc ms) (hd : decode cc pc = .ok (.iconst z, 1)) (hp : pc + 1 = q) (hv : Int32.ofInt z = v) (kk : WX Δ K A ws c n L q (.int v :: st)) : WX Δ K A ws c n L pc st := by
  subst hp
  exact fun H locs ls hP hD hS hl => lv_iconst hg.1 hg.2.1 hd hv (kk H locs ls hP hD hS hl)
theorem wx_bipush {z : Int} (v : Int32) (hg : GX Δ K A cc own nL d mc ms) (hd : decode cc pc = .ok (.bipush z, 2)) (hp : pc + 2 = q) (hv : (Int8.ofInt z).toInt32 = v) (kk : WX Δ K A ws c n L q (.int v :: st)) : WX Δ K A ws c n L pc st := by
  subst hp
  exact fun H locs ls hP hD hS hl => lv_bipush hg.1 hg.2.1 hd hv (kk H locs ls hP hD hS hl)
theorem wx_sipush {z : Int} (v : Int32) (hg : GX Δ K A cc own nL d mc ms) (hd : decode cc pc = .ok (.sipush z, 3)) (hp : pc + 3 = q) (hv : (Int16.ofInt z).toInt32 = v) (kk : WX Δ K A ws c n L q (.int v :: st)) : WX Δ K A ws c n L pc st := by
  subst hp
  exact fun H locs ls hP hD hS hl => lv_sipush hg.1 hg.2.1 hd hv (kk H locs ls hP hD hS hl)
theorem wx_ldc {ix : Nat} (v : Int32) (hg : GX Δ K A cc own nL d mc ms) (hd : decode cc pc = .ok (.ldc ix, 2)) (hp : pc + 2 = q) (hw : Cond.constant own ix v ∈ wsL_law) (kk : WX Δ K A ws c n L q (.int v :: st)) : WX Δ K A ws c n L pc st := by
  subst hp
  exact fun H locs ls hP hD hS hl => lv_ldc hg.1 hg.2.1 hg.2.2.2.1 (hg.2.2.2.2.1 _ hw) hd (kk H locs ls hP hD hS hl)
theorem wx_iload_n {k : Fin 4} {i : Nat} {x : Int32} (hg : GX Δ K A cc own nL d mc ms) (hd : decode cc pc = .ok (.iload_n k, 1)) (hp : pc + 1 = q) (hi : (k : Nat) = i) (hv : ldL L i = some (.int x)) (kk : WX Δ K A ws c n L q (.int x :: st)) : WX Δ K A ws c n L pc st := by
  subst hp
  exact fun H locs ls hP hD hS hl => lv_iload_n hg.1 hg.2.1 hd hi (hl.2.2 _ (ldL_has hv)) (kk H locs ls hP hD hS hl)
theorem wx_aload_n {k : Fin 4} {i : Nat} {x : Nat} (hg : GX Δ K A cc own nL d mc ms) (hd : decode cc pc = .ok (.aload_n k, 1)) (hp : pc + 1 = q) (hi : (k : Nat) = i) (hv : ldL L i = some (.ref x)) (kk : WX Δ K A ws c n L q (.ref x :: st)) : WX Δ K A ws c n L pc st := by
  subst hp
  exact fun H locs ls hP hD hS hl => lv_aload_n hg.1 hg.2.1 hd hi (hl.2.2 _ (ldL_has hv)) (kk H locs ls hP hD hS hl)
theorem wx_iadd {x y : Int32} (hg : GX Δ K A cc own nL d mc ms) (hd : decode cc pc = .ok (.iadd, 1)) (hp : pc + 1 = q) (kk : WX Δ K A ws c n L q (.int (x + y) :: st)) : WX Δ K A ws c n L pc (.int y :: .int x :: st) := by
  subst hp
  exact fun H locs ls hP hD hS hl => lv_iadd hg.1 hg.2.1 hd (kk H locs ls hP hD hS hl)
theorem wx_dup {va : Value} (hg : GX Δ K A cc own nL d mc ms) (hd : decode cc pc = .ok (.dup, 1)) (hp : pc + 1 = q) (hva : va.category = 1) (kk : WX Δ K A ws c n L q (va :: va :: st)) : WX Δ K A ws c n L pc (va :: st) := by
  subst hp
  exact fun H locs ls hP hD hS hl => lv_dup hg.1 hg.2.1 hd hva (kk H locs ls hP hD hS hl)
theorem wx_goto {off : Int} (hg : GX Δ K A cc own nL d mc ms) (hd : decode cc pc = .ok (.goto off, 3)) (hp : (pc : Int) + off = (q : Int)) (kk : WX Δ K A ws c n L q st) : WX Δ K A ws c n L pc st := fun H locs ls hP hD hS hl => lv_goto hg.1 hg.2.1 hd hp (kk H locs ls hP hD hS hl)
theorem wx_icmp_ge {x y : Int32} {off : Int} {q2 : Nat} (hg : GX Δ K A cc own nL d mc ms) (hd : decode cc pc = .ok (.if_icmp .ge off, 3)) (hp : (pc : Int) + off = (q : Int)) (hp2 : pc + 3 = q2) (kt : y ≤ x → WX Δ K A ws c n L q st) (kf : ¬ (y ≤ x) → WX Δ K A ws c n L q2 st) : WX Δ K A ws c n L pc (.int y :: .int x :: st) := by
  subst hp2
  exact fun H locs ls hP hD hS hl => lv_icmp_ge hg.1 hg.2.1 hd hp (fun h => kt h H locs ls hP hD hS hl) (fun h => kf h H locs ls hP hD hS hl)
theorem wx_istore_n {k : Fin 4} {i : Nat} {x : Int32} {L' : List (Nat × Value)} (hg : GX Δ K A cc own nL d mc ms) (hd : decode cc pc = .ok (.istore_n k, 1)) (hp : pc + 1 = q) (hi : (k : Nat) = i) (hL : stL L i (.int x) = L') (hc : (cat1 L && ordL L && Nat.blt i nL) = true) (kk : WX Δ K A ws c n L' q st) : WX Δ K A ws c n L pc (.int x :: st) := by
  subst hp
  intro H locs ls hP hD hS hl
  simp only [Bool.and_eq_true] at hc
  obtain ⟨⟨hc, ho⟩, hn⟩ := hc
  have hn : i < (kC K).maxLocals := by rw [hg.2.2.1]; exact Nat.blt_eq.mp hn
  exact lv_istore_n hg.1 hg.2.1 hd hi hl hn rfl (fun ls' hl' => kk H locs ls' hP hD hS (stL_has hl' hL hc ho))
theorem wx_iinc {i : Nat} {L' : List (Nat × Value)} {x : Int32} {z : Int} (v : Int32) (hg : GX Δ K A cc own nL d mc ms) (hd : decode cc pc = .ok (.iinc i z, 3)) (hp : pc + 3 = q) (hx : ldL L i = some (.int x)) (hv : x + Int32.ofInt z = v) (hL : stL L i (.int v) = L') (hc : (cat1 L && ordL L && Nat.blt i nL) = true) (kk : WX Δ K A ws c n L' q st) : WX Δ K A ws c n L pc st := by
  subst hp
  intro H locs ls hP hD hS hl
  simp only [Bool.and_eq_true] at hc
  obtain ⟨⟨hc, ho⟩, hn⟩ := hc
  have hn : i < (kC K).maxLocals := by rw [hg.2.2.1]; exact Nat.blt_eq.mp hn
  obtain ⟨k, hk⟩ := List.getElem?_of_mem (ldL_has hx)
  exact lv_iinc hg.1 hg.2.1 hd hl hk hv hn rfl (fun ls' hl' => kk H locs ls' hP hD hS (stL_has hl' hL hc ho))
theorem wx_return (hg : GX Δ K A cc own nL d mc ms) (hr : RKX Δ K A P mc ms) (hd : decode cc pc = .ok (.return_, 1)) (hc : c ≤ mc) (hn : n ≤ ms) (hP0 : P ws) : WX Δ K A ws c n L pc [] := by
  intro H locs ls hP hD hS hl
  obtain ⟨h1, h2, h3⟩ := hr
  rw [h3]
  exact W.widen hc hn (W.vret hg.1 hg.2.1 h1 (fun t ht hW => ⟨⟨ws, rfl, hP0, by rw [ht]; exact hP, hD⟩, hS.F ht⟩) hS.2.2 hd h2)
theorem wx_get {a ci j ix : Nat} {fs : List Value} {v : Value} (q0 : Nat) (hg : GX Δ K A cc own nL d mc ms) (hd : decode cc pc = .ok (.getfield ix, 3)) (hp : pc + 3 = q) (hf : FL own ix ci j) (he : ws[q0]? = some (a, .inr (ci, fs))) (hv : fs[j]? = some v) (kk : WX Δ K A ws c n L q (v :: st)) : WX Δ K A ws c n L pc (.ref a :: st) := by
  subst hp
  intro H locs ls hP hD hS hl
  obtain ⟨hw, hc, hj⟩ := hf
  exact va_get (D := Δ.2.1) (ci := ci) (v := v) (C := RR ci) (T := TT ci) (N := NN ci) hg.1 hg.2.1 hg.2.2.2.2.1 (inW hc) hg.2.2.2.1 hg.2.2.2.2.2.1.1 hP q0 he (clW hc) j hj (hg.2.2.2.2.1 _ hw) (fun _ h9 => h9) hv hd (kk H locs ls hP hD hS hl)
theorem wx_put {a ci j ix : Nat} {fs : List Value} {v : Value} {ty : FieldType} (q0 : Nat) (hg : GX Δ K A cc own nL d mc ms) (hd : decode cc pc = .ok (.putfield ix, 3)) (hp : pc + 3 = q) (hf : FL own ix ci j) (he : ws[q0]? = some (a, .inr (ci, fs))) (hfin : (TT ci j).2.2.2 = false) (hty : tyW ci j = ty) (hn : narrow ty v = v) (hfit : fits ty v = true) (hl0 : j < fs.length) (hw0 : ws.set q0 (a, .inr (ci, fs.set j v)) = ws') (kk : WX Δ K A ws' c n L q st) : WX Δ K A ws c n L pc (v :: .ref a :: st) := by
  subst hp
  subst hw0
  intro H locs ls hP hD hS hl
  obtain ⟨hw, hc, hjn⟩ := hf
  exact va_put (D := Δ.2.1) (ci := ci) (v := v) (ty := ty) (C := RR ci) (T := TT ci) (N := NN ci) hg.1 hg.2.1 hg.2.2.2.2.1 (inW hc) (tyW ci) (tyW_ok hc) (nmW hc) hg.2.2.2.1 hg.2.2.2.2.2.1.1 hP hD hS q0 he (clW hc) j hjn (hg.2.2.2.2.1 _ hw) (fun _ h9 => h9) hfin (by rw [tyW_ok hc j hjn, hty]) hn hfit hl0 hd (fun H1 locs1 hP1 hD1 hS1 => kk H1 locs1 ls hP1 hD1 hS1 hl)
theorem wx_putF {a ci j ix : Nat} {fs : List Value} {v : Value} {ty : FieldType} (q0 : Nat) (hg : GX Δ K A cc own nL d mc ms) (hin : (kMeth K).name = "<init>") (hd : decode cc pc = .ok (.putfield ix, 3)) (hp : pc + 3 = q) (hf : FL own ix ci j) (he : ws[q0]? = some (a, .inr (ci, fs))) (hfin : (TT ci j).2.2.2 = true) (hdecl : (TT ci j).1 = own) (hty : tyW ci j = ty) (hn : narrow ty v = v) (hfit : fits ty v = true) (hl0 : j < fs.length) (hw0 : ws.set q0 (a, .inr (ci, fs.set j v)) = ws') (kk : WX Δ K A ws' c n L q st) : WX Δ K A ws c n L pc (v :: .ref a :: st) := by
  subst hp
  subst hw0
  intro H locs ls hP hD hS hl
  obtain ⟨hw, hc, hjn⟩ := hf
  exact va_putF (D := Δ.2.1) (ci := ci) (v := v) (ty := ty) (C := RR ci) (T := TT ci) (N := NN ci) hg.1 hg.2.1 hg.2.2.2.2.1 (inW hc) (tyW ci) (tyW_ok hc) (nmW hc) hg.2.2.2.1 hg.2.2.2.2.2.1.1 hP hD hS q0 he (clW hc) j hjn (hg.2.2.2.2.1 _ hw) (fun _ h9 => h9) hfin hin hdecl (by rw [tyW_ok hc j hjn, hty]) hn hfit hl0 hd (fun H1 locs1 hP1 hD1 hS1 => kk H1 locs1 ls hP1 hD1 hS1 hl)
theorem wx_newi {x : Int32} {N : Nat} (hg : GX Δ K A cc own nL d mc ms) (hd : decode cc pc = .ok (.newarray .int, 2)) (hp : pc + 2 = q) (h0 : ¬ x < 0) (hN : x.toNatClampNeg = N) (hb : N * 4 ≤ 536870912) (hc : c + 1 ≤ mc) (hn : n + N ≤ ms) (hw : Cond.arrayClass .int ∈ wsL_law) (kk : ∀ a : Nat, WX Δ K A (ws ++ [(a, .inl (Δ.2.2.1, N, .inl (fun _ => 0)))]) (c + 1) (n + N) L q (.ref a :: st)) : WX Δ K A ws c n L pc (.int x :: st) := by
  subst hp
  intro H locs ls hP hD hS hl
  have hK := hg.2.2.2.2.2.1.1
  refine va_newa (atype := .int) (ty := .int) (a0 := (N, .inl (fun _ => 0))) hg.1 hg.2.1 (hg.2.2.2.2.1 _ hw) rfl hK hP hD hS hg.2.2.2.2.2.2.1 (fun cA => rfl) h0 hN hb (Nat.le_trans hc hg.2.2.2.2.2.2.2.2.1) (Nat.le_trans hn hg.2.2.2.2.2.2.2.2.2) hd (fun a cA H1 hK1 hP1 hD1 hS1 => ?_)
  have e1 : (kS K).vm.findClass ("[" ++ FieldType.int.toString) = some cA := (hK1.2 (tyX Δ).length (cA, .int) (by rw [List.getElem?_append_right (Nat.le_refl _), Nat.sub_self]; rfl)).2
  have e2 : (kS K).vm.findClass ("[" ++ FieldType.int.toString) = some Δ.2.2.1 := (hK.2 0 (Δ.2.2.1, .int) rfl).2
  have e : cA = Δ.2.2.1 := Option.some.inj (e1.symm.trans e2)
  subst e
  exact kk a H1 locs ls hP1 hD1 hS1 hl
theorem wx_newz {x : Int32} {N : Nat} (hg : GX Δ K A cc own nL d mc ms) (hd : decode cc pc = .ok (.newarray .boolean, 2)) (hp : pc + 2 = q) (h0 : ¬ x < 0) (hN : x.toNatClampNeg = N) (hb : N * componentBytes .boolean ≤ 536870912) (hc : c + 1 ≤ mc) (hn : n + N ≤ ms) (hw : Cond.arrayClass .boolean ∈ wsL_law) (kk : ∀ a : Nat, WX Δ K A (ws ++ [(a, .inl (Δ.2.2.2.1, N, .inl (fun _ => 0)))]) (c + 1) (n + N) L q (.ref a :: st)) : WX Δ K A ws c n L pc (.int x :: st) := by
  subst hp
  intro H locs ls hP hD hS hl
  have hK := hg.2.2.2.2.2.1.1
  refine va_newa (atype := .boolean) (ty := .boolean) (a0 := (N, .inl (fun _ => 0))) hg.1 hg.2.1 (hg.2.2.2.2.1 _ hw) rfl hK hP hD hS hg.2.2.2.2.2.2.1 (fun cA => rfl) h0 hN hb (Nat.le_trans hc hg.2.2.2.2.2.2.2.2.1) (Nat.le_trans hn hg.2.2.2.2.2.2.2.2.2) hd (fun a cA H1 hK1 hP1 hD1 hS1 => ?_)
  have e1 : (kS K).vm.findClass ("[" ++ FieldType.boolean.toString) = some cA := (hK1.2 (tyX Δ).length (cA, .boolean) (by rw [List.getElem?_append_right (Nat.le_refl _), Nat.sub_self]; rfl)).2
  have e2 : (kS K).vm.findClass ("[" ++ FieldType.boolean.toString) = some Δ.2.2.2.1 := (hK.2 1 (Δ.2.2.2.1, .boolean) rfl).2
  have e : cA = Δ.2.2.2.1 := Option.some.inj (e1.symm.trans e2)
  subst e
  exact kk a H1 locs ls hP1 hD1 hS1 hl
theorem wx_newq {x : Int32} {N ix t0 : Nat} {C : String} {cQ : ClassId} (hg : GX Δ K A cc own nL d mc ms) (hd : decode cc pc = .ok (.anewarray ix, 3)) (hp : pc + 3 = q) (h0 : ¬ x < 0) (hN : x.toNatClampNeg = N) (hb : N * 4 ≤ 536870912) (hc : c + 1 ≤ mc) (hn : n + N ≤ ms) (hw : Cond.classLink own ix C ∈ wsL_law) (ho : va_AO C (kS K)) (ht : (tyX Δ)[t0]? = some (cQ, .object C)) (kk : ∀ a : Nat, WX Δ K A (ws ++ [(a, .inl (cQ, N, .inr (.inr (.inr (.inr (fun _ => none))))))]) (c + 1) (n + N) L q (.ref a :: st)) : WX Δ K A ws c n L pc (.int x :: st) := by
  subst hp
  intro H locs ls hP hD hS hl
  have hK := hg.2.2.2.2.2.1.1
  refine va_newq hg.1 hg.2.1 hg.2.2.2.1 (hg.2.2.2.2.1 _ hw) ho hK hP hD hS hg.2.2.2.2.2.2.1 h0 hN hb (Nat.le_trans hc hg.2.2.2.2.2.2.2.2.1) (Nat.le_trans hn hg.2.2.2.2.2.2.2.2.2) hd (fun a cA H1 hK1 hP1 hD1 hS1 => ?_)
  obtain ⟨-, -, -, -, -, e1⟩ := (hK1.2 (tyX Δ).length (cA, .object C) (by rw [List.getElem?_append_right (Nat.le_refl _), Nat.sub_self]; rfl)).2
  obtain ⟨-, -, -, -, -, e2⟩ := (hK.2 t0 (cQ, .object C) ht).2
  have e : cA = cQ := Option.some.inj (e1.symm.trans e2)
  subst e
  exact kk a H1 locs ls hP1 hD1 hS1 hl
theorem wx_new {ix ci kN : Nat} {fs : List Value} (hg : GX Δ K A cc own nL d mc ms) (hd : decode cc pc = .ok (.new ix, 3)) (hp : pc + 3 = q) (hci : ci < 6) (hw1 : Cond.classLink own ix (RR ci) ∈ wsL_law) (hw2 : Cond.instantiable (RR ci) (NN ci) ∈ wsL_law) (hw3 : Cond.initialized (RR ci) ∈ wsL_law) (hfs : ∀ j, j < NN ci → defaultValue (tyW ci j) = vp_V fs j) (hkN : NN ci = kN) (hc : c + 1 ≤ mc) (hn : n + kN ≤ ms) (kk : ∀ a : Nat, WX Δ K A (ws ++ [(a, .inr (ci, fs))]) (c + 1) (n + kN) L q (.ref a :: st)) : WX Δ K A ws c n L pc st := by
  subst hkN
  subst hp
  intro H locs ls hP hD hS hl
  exact va_new (D := Δ.2.1) (ci := ci) (fs := fs) (C := RR ci) (T := TT ci) (N := NN ci) hg.1 hg.2.1 hg.2.2.2.2.1 (inW hci) (tyW ci) (tyW_ok hci) hg.2.2.2.1 (hg.2.2.2.2.1 _ hw1) (hg.2.2.2.2.1 _ hw2) (hg.2.2.2.2.1 _ hw3) hg.2.2.2.2.2.1.1 hP hD hS hg.2.2.2.2.2.2.1 (clW hci) hfs (Nat.le_trans hc hg.2.2.2.2.2.2.2.2.1) (Nat.le_trans hn hg.2.2.2.2.2.2.2.2.2) hd (fun a H1 hP1 hD1 hS1 => kk a H1 locs ls hP1 hD1 hS1 hl)
theorem wx_objInit {ix a : Nat} (hg : GX Δ K A cc own nL d mc ms) (hd : decode cc pc = .ok (.invokespecial ix, 3)) (hp : pc + 3 = q) (hw1 : Cond.methodLink own ix objectInit ∈ wsL_law) (hw2 : Cond.instanceMethod objectInit ∈ wsL_law) (hw3 : Cond.code objectInit ⟨#[0xb1]⟩ 1 none ∈ wsL_law) (hdd : 1 ≤ d) (hst : (st.map fun v => v.category).sum ≤ 8) (kk : WX Δ K A ws c n L q st) : WX Δ K A ws c n L pc (.ref a :: st) := by
  subst hp
  intro H locs ls hP hD hS hl
  have hr := hg.2.2.2.2.2.2.2.1
  refine W.objInit hg.1 hg.2.1 hg.2.2.2.1 (hg.2.2.2.2.1 _ hw1) (hg.2.2.2.2.1 _ hw2) (hg.2.2.2.2.1 _ hw3) rfl hl.1 rfl hd (by omega) ?_ ?_
  · show 2 * 0 + _ + 12 ≤ _
    omega
  · exact kk H locs ls hP hD hS hl
theorem wx_astq {i : Int32} {a v ci qk t0 N : Nat} {C : String} {cQ : ClassId} {vs : List Value} {f : Nat → Option Nat} (q0 : Nat) (hg : GX Δ K A cc own nL d mc ms) (hd : decode cc pc = .ok (.aastore, 1)) (hp : pc + 1 = q) (ha : ws[q0]? = some (a, .inl (cQ, N, .inr (.inr (.inr (.inr f)))))) (ht : (tyX Δ)[t0]? = some (cQ, .object C)) (hv : ws[qk]? = some (v, .inr (ci, vs))) (hci : ci < 6) (hC : RR ci = C) (hin : vp_in i N) (hw0 : ws.set q0 (a, .inl (cQ, N, .inr (.inr (.inr (.inr (va_up f i.toNatClampNeg (some v))))))) = ws') (kk : WX Δ K A ws' c n L q st) : WX Δ K A ws c n L pc (.ref v :: .int i :: .ref a :: st) := by
  subst hp
  subst hw0
  subst hC
  intro H locs ls hP hD hS hl
  exact va_astq hg.1 hg.2.1 hg.2.2.2.2.2.1.1 hP hD hS q0 t0 qk ci ha ht hv (clW hci) hin hd (fun H1 locs1 hP1 hD1 hS1 => kk H1 locs1 ls hP1 hD1 hS1 hl)
theorem wx_iast {i x : Int32} {a N : Nat} {f : Nat → Int32} (q0 : Nat) (hg : GX Δ K A cc own nL d mc ms) (hd : decode cc pc = .ok (.iastore, 1)) (hp : pc + 1 = q) (ha : ws[q0]? = some (a, .inl (Δ.2.2.1, N, .inl f))) (hin : vp_in i N) (hw0 : ws.set q0 (a, .inl (Δ.2.2.1, N, .inl (upd f i.toNatClampNeg x))) = ws') (kk : WX Δ K A ws' c n L q st) : WX Δ K A ws c n L pc (.int x :: .int i :: .ref a :: st) := by
  subst hp
  subst hw0
  intro H locs ls hP hD hS hl
  exact va_iast hg.1 hg.2.1 hg.2.2.2.2.2.1.1 hP hD hS q0 0 ha rfl hin hd (fun H1 locs1 hP1 hD1 hS1 => kk H1 locs1 ls hP1 hD1 hS1 hl)
theorem wx_alen {a t0 : Nat} {cA : ClassId} {x : vp_A} {ty : FieldType} {v : Int32} (q0 : Nat) (hg : GX Δ K A cc own nL d mc ms) (hd : decode cc pc = .ok (.arraylength, 1)) (hp : pc + 1 = q) (ha : ws[q0]? = some (a, .inl (cA, x))) (ht : (tyX Δ)[t0]? = some (cA, ty)) (hv : Int32.ofNat x.1 = v) (kk : WX Δ K A ws c n L q (.int v :: st)) : WX Δ K A ws c n L pc (.ref a :: st) := by
  subst hp
  intro H locs ls hP hD hS hl
  exact va_alen hg.1 hg.2.1 hg.2.2.2.2.2.1.1 hP q0 t0 ha ht hv hd (kk H locs ls hP hD hS hl)
end XRows
/-! ===== calls ===== -/
def LnkI (own : String) (ix : Nat) (y : MethodName) (cc : ByteArray) (nL n : Nat) : Prop := GoodIn wsL_law (Cond.code y cc nL none :: wsL_law) ∧ (Cond.initialized y.cls ∈ wsL_law ∧ Cond.methodLink own ix y ∈ wsL_law ∧ Cond.instanceMethod y ∈ wsL_law) ∧ (y.cls ≠ "java/lang/invoke/MethodHandle" ∧ y.cls ≠ "java/lang/invoke/VarHandle" ∧ (parseMethodDescriptor y.desc).map (fun d => d.parameters.length) = some n) ∧ nL ≤ 45
theorem lnkI_of {own : String} {ix : Nat} {y : MethodName} {cc : ByteArray} {nL n : Nat} (h1 : ([.initialized y.cls, .methodLink own ix y, .instanceMethod y, .code y cc nL none] : List Cond).all (fun w => decide (w ∈ wsL_law) && goodWord w) = true) (h2 : (y.cls ≠ "java/lang/invoke/MethodHandle" ∧ y.cls ≠ "java/lang/invoke/VarHandle" ∧ (parseMethodDescriptor y.desc).map (fun d => d.parameters.length) = some n) ∧ nL ≤ 45) : LnkI own ix y cc nL n := by
  have h := goodIn_of _ h1
  exact ⟨fun w hw => by
    rcases List.mem_cons.mp hw with rfl | hw
    · exact h _ (List.mem_cons_of_mem _ (List.mem_cons_of_mem _ (List.mem_cons_of_mem _ List.mem_cons_self)))
    · exact wsAll w hw, ⟨(h _ List.mem_cons_self).1, (h _ (List.mem_cons_of_mem _ List.mem_cons_self)).1, (h _ (List.mem_cons_of_mem _ (List.mem_cons_of_mem _ List.mem_cons_self))).1⟩, h2⟩
section XCalls
variable {Δ : DT} {K : KT} {A : Nat → Prop} {cc : ByteArray} {own : String} {nL d mc ms : Nat} {ws ws' wr wc : va_W} {c n : Nat} {L : List (Nat × Value)} {pc q : Nat} {st : List Value} {P Pc : va_W → Prop}
theorem roomX {nLy d' : Nat} (hg : GX Δ K A cc own nL d mc ms) (hdd : d' < d) (h : nLy ≤ 45) : d' + 1 ≤ (kR K).frames ∧ 8 + (nLy + 11) + 64 * d' ≤ (kR K).locals := by
  have h1 := hg.2.2.2.2.2.2.2.1
  omega
theorem sx_blind (Δ : DT) (av : List Value) (sz : Nat) (wc : va_W) : FrameBlind (va_Pc av (fun U => U.heap.size = sz ∧ va_P Δ.2.1 vwCl wc U.heap ∧ SX Δ U ∧ va_D (fun _ => True) wc)) := fun a U g mk h => ⟨h.1, h.2.1, h.2.2.1, SX.same (u := U) (U := U.calling g mk a) rfl (Vm.Alike.refl U.vm) h.2.2.2.1, h.2.2.2.2⟩
theorem wx_sub {D : va_G} {cl : List vw_C} {wr wc : va_W} {H : Heap} (hP : va_P D cl (wr ++ wc) H) : va_P D cl wc H := fun k q hk => hP (wr.length + k) q (by rw [List.getElem?_append_right (by omega), Nat.add_sub_cancel_left]; exact hk)
theorem wx_subD {A : Nat → Prop} {wr wc : va_W} (hD : va_D A (wr ++ wc)) : va_D A wc := ⟨fun i j x y hi hj hxy => by
  have := hD.1 (wr.length + i) (wr.length + j) x y (by rw [List.getElem?_append_right (by omega), Nat.add_sub_cancel_left]; exact hi) (by rw [List.getElem?_append_right (by omega), Nat.add_sub_cancel_left]; exact hj) hxy
  omega, fun k q hk => hD.2 (wr.length + k) q (by rw [List.getElem?_append_right (by omega), Nat.add_sub_cancel_left]; exact hk)⟩
theorem wx_fr {A : Nat → Prop} {wr wc : va_W} {H0 H : Heap} {locs : List Loc} (hD : va_D A (wr ++ wc)) (hS : va_S A H0 H locs) (hA : ∀ q : Nat, H0.size ≤ q → A q) : ∀ q, va_A wc H.size q → A q := by
  intro q h
  rcases h with ⟨k, e, h⟩ | h
  · exact (wx_subD hD).2 k (q, e) h
  · exact hA q (Nat.le_trans hS.1 h)
theorem wx_back {H : Heap} {locs : List Loc} {ls : Array Slot} {mc' ms' : Nat} {a : Array Value} (hg : GX Δ K A cc own nL d mc ms) (hr : va_Run (kP K) Δ.1 (kE K) (kR K) (kS K) (kM K) (kArgs K) (kB K) (kMeth K) (kC K) H locs c n mc' ms' (F0 (kM K) pc ls st) st.tail (QX Δ (va_A wc H.size) Pc a) (va_A wc H.size)) (hP : va_P Δ.2.1 vwCl (wr ++ wc) H) (hD : va_D A (wr ++ wc)) (hS : va_S A (kS K).heap H locs) (hl : lv_has ls (kC K).maxLocals L) (kk : ∀ w1, Pc w1 → WX Δ K A (wr ++ w1) (c + mc') (n + ms') L (pc + 3) st.tail) : W (kP K) Δ.1 (kE K) (kR K) (kS K) (kM K) (kArgs K) (kB K) (kMeth K) (kC K) H locs c n (kQ K) (F0 (kM K) pc ls st) := by
  have hF := wx_fr hD hS hg.2.2.2.2.2.2.1
  refine va_callv hr hS (fun q _ h => hF q h) hF (fun w1 t H1 locs1 ht hvm hw hB hz1 hk1 hS1 => ?_)
  rw [ht] at hB
  obtain ⟨hP2, hD2⟩ := wx_join hP hD hk1 hF hB.1 hB.2
  exact kk w1 hw H1 locs1 ls hP2 hD2 hS1 hl
theorem wx_callI {b ix nLy d' mc' ms' : Nat} {y : MethodName} {ccy : ByteArray} (hg : GX Δ K A cc own nL d mc ms) (hd : decode cc pc = .ok (.invokespecial ix, 3)) (hp : pc + 3 = q) (hk : LnkI own ix y ccy nLy 0) (hy : y.name = "<init>") (hdd : d' < d) (hc : c + mc' ≤ mc) (hn : n + ms' ≤ ms) (hC : CtX Δ y ccy nLy d' mc' ms' [.ref b] wc Pc) (hw : ws = wr ++ wc) (hcat : (st.map fun v => v.category).sum ≤ 8) (kk : ∀ w1, Pc w1 → WX Δ K A (wr ++ w1) (c + mc') (n + ms') L q st) : WX Δ K A ws c n L pc (.ref b :: st) := by
  subst hp
  subst hw
  intro H locs ls hP hD hS hl
  have ht := hg.2.2.2.2.1
  refine wx_back (st := .ref b :: st) hg (va_runI (As := []) (rest := st) ⟨hg.1, hg.2.1, hg.2.2.1, hg.2.2.2.1, ht⟩ (hC H.size) (cwI 0 ht hk.1 rfl rfl rfl (ht _ hk.2.1.1) (ht _ hk.2.1.2.1) (ht _ hk.2.1.2.2) hy hk.2.2.1 (roomX hg hdd hk.2.2.2)) ⟨sx_blind Δ _ _ _, fun U hU hW => ⟨rfl, by rw [hU], by rw [hU]; exact wx_sub hP, SX.warm hW hg.2.2.2.2.2.1, (wx_subD hD).weaken (fun _ _ _ _ => trivial)⟩⟩ rfl rfl (by rw [← hg.2.2.1]; exact hl.1) rfl (lv_room hcat) hd ⟨Nat.le_trans hc hg.2.2.2.2.2.2.2.2.1, Nat.le_trans hn hg.2.2.2.2.2.2.2.2.2⟩) hP hD hS hl kk
/-- the constructor of a nest mate -/
def LnkJ (y : MethodName) (cc : ByteArray) (nL n : Nat) : Prop := GoodIn wsL_law (Cond.code y cc nL none :: wsL_law) ∧ (Cond.initialized y.cls ∈ wsL_law ∧ Cond.instanceMethod y ∈ wsL_law) ∧ (y.cls ≠ "java/lang/invoke/MethodHandle" ∧ y.cls ≠ "java/lang/invoke/VarHandle" ∧ (parseMethodDescriptor y.desc).map (fun d => d.parameters.length) = some n) ∧ nL ≤ 45
theorem lnkJ_of {y : MethodName} {cc : ByteArray} {nL n : Nat} (h1 : ([.initialized y.cls, .instanceMethod y, .code y cc nL none] : List Cond).all (fun w => decide (w ∈ wsL_law) && goodWord w) = true) (h2 : (y.cls ≠ "java/lang/invoke/MethodHandle" ∧ y.cls ≠ "java/lang/invoke/VarHandle" ∧ (parseMethodDescriptor y.desc).map (fun d => d.parameters.length) = some n) ∧ nL ≤ 45) : LnkJ y cc nL n := by
  have h := goodIn_of _ h1
  exact ⟨fun w hw => by
    rcases List.mem_cons.mp hw with rfl | hw
    · exact h _ (List.mem_cons_of_mem _ (List.mem_cons_of_mem _ List.mem_cons_self))
    · exact wsAll w hw, ⟨(h _ List.mem_cons_self).1, (h _ (List.mem_cons_of_mem _ List.mem_cons_self)).1⟩, h2⟩
theorem wx_callJ {b ix nLy d' mc' ms' : Nat} {y : MethodName} {ccy : ByteArray} (hg : GX Δ K A cc own nL d mc ms) (hd : decode cc pc = .ok (.invokespecial ix, 3)) (hp : pc + 3 = q) (hk : LnkJ y ccy nLy 0) (hnw : NIX (kS K) → va_Nw (.methodLinkNest own ix y RX4) (kS K)) (hy : y.name = "<init>") (hdd : d' < d) (hc : c + mc' ≤ mc) (hn : n + ms' ≤ ms) (hC : CtX Δ y ccy nLy d' mc' ms' [.ref b] wc Pc) (hw : ws = wr ++ wc) (hcat : (st.map fun v => v.category).sum ≤ 8) (kk : ∀ w1, Pc w1 → WX Δ K A (wr ++ w1) (c + mc') (n + ms') L q st) : WX Δ K A ws c n L pc (.ref b :: st) := by
  subst hp
  subst hw
  intro H locs ls hP hD hS hl
  have ht := hg.2.2.2.2.1
  refine wx_back (st := .ref b :: st) hg (va_runIN (As := []) (rest := st) ⟨hg.1, hg.2.1, hg.2.2.1, hg.2.2.2.1, ht⟩ (hC H.size) ⟨va_cnB 0 ht hk.1 rfl rfl rfl (hnw hg.2.2.2.2.2.1.2.2) (ht _ hk.2.1.1) hk.2.2.1 (roomX hg hdd hk.2.2.2), hy, ht _ hk.2.1.2⟩ ⟨sx_blind Δ _ _ _, fun U hU hW => ⟨rfl, by rw [hU], by rw [hU]; exact wx_sub hP, SX.warm hW hg.2.2.2.2.2.1, (wx_subD hD).weaken (fun _ _ _ _ => trivial)⟩⟩ rfl rfl (by rw [← hg.2.2.1]; exact hl.1) rfl (lv_room hcat) hd ⟨Nat.le_trans hc hg.2.2.2.2.2.2.2.2.1, Nat.le_trans hn hg.2.2.2.2.2.2.2.2.2⟩) hP hD hS hl kk
theorem wx_callS {ix n' nLy d' mc' ms' : Nat} {y : MethodName} {ccy : ByteArray} {As rest : List Value} (hg : GX Δ K A cc own nL d mc ms) (hd : decode cc pc = .ok (.invokestatic ix, 3)) (hp : pc + 3 = q) (hk : LnkS own ix y ccy nLy none n') (hdd : d' < d) (hc : c + mc' ≤ mc) (hn : n + ms' ≤ ms) (hC : CtX Δ y ccy nLy d' mc' ms' As wc Pc) (hw : ws = wr ++ wc) (hnn : As.length = n') (hst : st = As.reverse ++ rest) (hcat : (rest.map fun v => v.category).sum ≤ 8) (kk : ∀ w1, Pc w1 → WX Δ K A (wr ++ w1) (c + mc') (n + ms') L q rest) : WX Δ K A ws c n L pc st := by
  subst hp
  subst hw
  intro H locs ls hP hD hS hl
  have hF := wx_fr hD hS hg.2.2.2.2.2.2.1
  refine va_callv (va_runS (As := As) (rest := rest) ⟨hg.1, hg.2.1, hg.2.2.1, hg.2.2.2.1, hg.2.2.2.2.1⟩ (hC H.size) (va_cwS n' hg.2.2.2.2.1 hk.1 rfl rfl rfl hk.2.1 (roomX hg hdd hk.2.2)) ⟨sx_blind Δ _ _ _, fun U hU hW => ⟨rfl, by rw [hU], by rw [hU]; exact wx_sub hP, SX.warm hW hg.2.2.2.2.2.1, (wx_subD hD).weaken (fun _ _ _ _ => trivial)⟩⟩ rfl hnn (by rw [← hg.2.2.1]; exact hl.1) hst (lv_room hcat) hd ⟨Nat.le_trans hc hg.2.2.2.2.2.2.2.2.1, Nat.le_trans hn hg.2.2.2.2.2.2.2.2.2⟩) hS (fun q _ h => hF q h) hF (fun w1 t H1 locs1 ht hvm hw hB hz1 hk1 hS1 => ?_)
  rw [ht] at hB
  obtain ⟨hP2, hD2⟩ := wx_join hP hD hk1 hF hB.1 hB.2
  exact kk w1 hw H1 locs1 ls hP2 hD2 hS1 hl
theorem wx_callV {b ci qb ix n' nLy d' mc' ms' : Nat} {y : MethodName} {ccy : ByteArray} {As rest : List Value} {fs : List Value} (hg : GX Δ K A cc own nL d mc ms) (hd : decode cc pc = .ok (.invokevirtual ix, 3)) (hp : pc + 3 = q) (hk : LnkV own ix y ccy nLy none n') (hdd : d' < d) (hc : c + mc' ≤ mc) (hn : n + ms' ≤ ms) (hC : CtX Δ y ccy nLy d' mc' ms' (.ref b :: As) wc Pc) (hw : ws = wr ++ wc) (hb : ws[qb]? = some (b, .inr (ci, fs))) (hcl : RR ci = y.cls ∧ ci < 6) (hnn : As.length = n') (hst : st = As.reverse ++ .ref b :: rest) (hcat : (rest.map fun v => v.category).sum ≤ 8) (kk : ∀ w1, Pc w1 → WX Δ K A (wr ++ w1) (c + mc') (n + ms') L q rest) : WX Δ K A ws c n L pc st := by
  subst hp
  subst hw
  intro H locs ls hP hD hS hl
  have hrecv := va_recv hg.2.2.2.2.2.1.1 hP (clW hcl.2) hb
  have hF := wx_fr hD hS hg.2.2.2.2.2.2.1
  refine va_callv (va_runV (C := y.cls) (As := As) (rest := rest) ⟨hg.1, hg.2.1, hg.2.2.1, hg.2.2.2.1, hg.2.2.2.2.1⟩ (hC H.size) (cwV n' hg.2.2.2.2.1 hk.1 rfl rfl rfl ⟨rfl, hk.2.1⟩ (roomX hg hdd hk.2.2)) ⟨sx_blind Δ _ _ _, by rw [← hcl.1]; exact hrecv, fun U hU hW => ⟨rfl, by rw [hU], by rw [hU]; exact wx_sub hP, SX.warm hW hg.2.2.2.2.2.1, (wx_subD hD).weaken (fun _ _ _ _ => trivial)⟩⟩ rfl hnn (by rw [← hg.2.2.1]; exact hl.1) hst (lv_room hcat) hd ⟨Nat.le_trans hc hg.2.2.2.2.2.2.2.2.1, Nat.le_trans hn hg.2.2.2.2.2.2.2.2.2⟩) hS (fun q _ h => hF q h) hF (fun w1 t H1 locs1 ht hvm hw hB hz1 hk1 hS1 => ?_)
  rw [ht] at hB
  obtain ⟨hP2, hD2⟩ := wx_join hP hD hk1 hF hB.1 hB.2
  exact kk w1 hw H1 locs1 ls hP2 hD2 hS1 hl
end XCalls
