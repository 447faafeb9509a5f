/-! ===== a method's walk over the memory ===== -/
abbrev KT : Type := Program × Env × Room × State × MethodId × Array Value × List Frame × Method × Code × (State → Prop)
abbrev kP (K : KT) : Program := K.1
abbrev kE (K : KT) : Env := K.2.1
abbrev kR (K : KT) : Room := K.2.2.1
abbrev kS (K : KT) : State := K.2.2.2.1
abbrev kM (K : KT) : MethodId := K.2.2.2.2.1
abbrev kArgs (K : KT) : Array Value := K.2.2.2.2.2.1
abbrev kB (K : KT) : List Frame := K.2.2.2.2.2.2.1
abbrev kMeth (K : KT) : Method := K.2.2.2.2.2.2.2.1
abbrev kC (K : KT) : Code := K.2.2.2.2.2.2.2.2.1
abbrev kQ (K : KT) : State → Prop := K.2.2.2.2.2.2.2.2.2
def WM (Γ : GT) (K : KT) (M : Mem) (L : List (Nat × Value)) (pc : Nat) (st : List Value) : Prop :=
  ∀ (H : Heap) (locs : List Loc) (ls : Array Slot), va_P Γ.2.1 vwCl (mem Γ M) H → va_S (gA Γ) (kS K).heap H locs → lv_has ls (kC K).maxLocals L → W (kP K) Γ.1 (kE K) (kR K) (kS K) (kM K) (kArgs K) (kB K) (kMeth K) (kC K) H locs 0 0 (kQ K) (F0 (kM K) pc ls st)
/-- the links between nest mates -/
def NWF (U : State) : Prop := va_Nw (.methodLinkNest RX1 72 yX4_pull RX4) U ∧ va_Nw (.methodLinkNest RX1 75 yX4_cosine RX4) U ∧ va_Nw (.methodLinkNest RX3 31 yX4_isWithin RX4) U
def cosV (k : Nat) : Int32 := ([10, 7, 0, -7, -10, -7, 0, 7] : List Int32).getD k 0
def COSF (Γ : GT) (U : State) (H : Heap) : Prop := va_Z RX4 "COSINES" "[I" (.ref Γ.2.2.2.2.2) (gA Γ) U H ∧ va_T .int Γ.2.2.2.2.2 8 (fun k => .int (cosV k)) (gA Γ) U H
def HW (Γ : GT) (M : Mem) (U : State) : Prop := GOK Γ ∧ va_P Γ.2.1 vwCl (mem Γ M) U.heap ∧ va_K Γ.2.1 vwCl (tys Γ) U ∧ NWF U ∧ COSF Γ U U.heap
theorem NWF.same {u U : State} (h : u.vm = U.vm) (hn : NWF u) : NWF U := ⟨va_Nw.same rfl h hn.1, va_Nw.same rfl h hn.2.1, va_Nw.same rfl h hn.2.2⟩
theorem NWF.warm {s U : State} (hW : s.WarmedH U.vm) (hn : NWF s) : NWF U := ⟨va_Nw.warmM hW hn.1, va_Nw.warmM hW hn.2.1, va_Nw.warmM hW hn.2.2⟩
theorem HW.blind (Γ : GT) (M : Mem) (a : Array Value) (U : State) (g : JFrame) (mk : MethodId) (h : HW Γ M U) : HW Γ M (U.calling g mk a) :=
  ⟨h.1, h.2.1, va_K.moved (u := U) (U := U.calling g mk a) (Vm.Alike.refl U.vm) h.2.2.1, NWF.same rfl h.2.2.2.1, va_Z.moved (u := U) (U := U.calling g mk a) (Vm.Alike.refl U.vm) h.2.2.2.2.1, va_T.moved (u := U) (U := U.calling g mk a) (Vm.Alike.refl U.vm) h.2.2.2.2.2⟩
def Gd (Γ : GT) (K : KT) (cc : ByteArray) (own : String) (nL d : Nat) : Prop :=
  (kP K).tables.exec = Jvm.exec ∧ (kC K).code = cc ∧ (kC K).maxLocals = nL ∧ (kS K).vm.findClass own = some (kM K).cls ∧ (∀ w ∈ wsL_law, w.before (kArgs K) (kS K) = true) ∧ va_K Γ.2.1 vwCl (tys Γ) (kS K) ∧ GOK Γ ∧ NWF (kS K) ∧ COSF Γ (kS K) (kS K).heap ∧ d ≤ (kR K).frames ∧ 64 * d ≤ (kR K).locals
def QC (Γ : GT) (o : Option Value) (M : Mem) : Array Value → State → Outcome → State → Prop := fun _ st oc t => (oc = .returned o ∧ va_P Γ.2.1 vwCl (mem Γ M) t.heap) ∧ va_F (gA Γ) st t
/-- the end that the walk is to reach: the answer o, the memory M -/
def RK (Γ : GT) (K : KT) (ret : Option FieldType) (o : Option Value) (M : Mem) : Prop := (kMeth K).sig.returnType = ret ∧ (kMeth K).locks = false ∧ kQ K = MQ (kB K) (QC Γ o M) (kArgs K) (kS K) 0 0 (gA Γ)
abbrev rmd (d : Nat) : Room := { frames := d, cells := 0, slots := 0, locals := 64 * d }
/-- a method's contract: from the memory M it returns o, and the memory is M' -/
def Ct (Γ : GT) (y : MethodName) (cc : ByteArray) (nL : Nat) (ret : Option FieldType) (d : Nat) (args : List Value) (M : Mem) (o : Option Value) (M' : Mem) : Prop :=
  Met Γ.1 y (.code y cc nL ret :: wsL_law) (rmd d) (va_Pc args (HW Γ M)) (QC Γ o M') 0 0 (gA Γ)
theorem ct_of {Γ : GT} {y : MethodName} {cc : ByteArray} {nL : Nat} {ret : Option FieldType} {d : Nat} {args : List Value} {M : Mem} {o : Option Value} {M' : Mem} (hy : plainName y.cls = true) (hsz : (lg_sl args).length ≤ nL)
    (body : ∀ K : KT, Gd Γ K cc y.cls nL d → RK Γ K ret o M' → WM Γ K M (lv_args 0 args) 0 []) : Ct Γ y cc nL ret d args M o M' := by
  refine Met.ofW (cc := cc) (maxL := nL) (ret := ret) hy rfl ?_
  intro p e s m a below meth c s₁ B hml hv
  obtain ⟨rfl, hG, hP, hK, hN, hC⟩ := hv
  have hts := atoms_spec (ws := Cond.code y cc nL ret :: wsL_law) B.pre
  have hown : s.vm.findClass y.cls = some m.cls := findClass_of_methodNamed B.named
  have hl := lv_entry args (n := nL) hsz
  rw [lg_entry_eq]
  have h := body (p, e, rmd d, s, m, args.toArray, below, meth, c, MQ below (QC Γ o M') args.toArray s 0 0 (gA Γ)) ⟨B.exec, B.bytes, hml, hown, fun w hw => hts w (List.mem_cons_of_mem _ hw), hK, hG, hN, hC, Nat.le_refl _, Nat.le_refl _⟩ ⟨B.returns, B.notSynchronized, rfl⟩
  exact h s.heap [] _ hP va_S.rf (by rw [hml]; exact hl)
/-! ===== the end of a walk ===== -/
section Rows
variable {Γ : GT} {K : KT} {cc : ByteArray} {own : String} {nL d : Nat} {M : Mem} {L : List (Nat × Value)} {pc : Nat} {st : List Value}
theorem wm_ireturn {v : Int32} (hg : Gd Γ K cc own nL d) (hr : RK Γ K (some .int) (some (.int v)) M) (hd : decode cc pc = .ok (.ireturn, 1)) : WM Γ K M L pc [.int v] := by
  intro H locs ls hP hS hl
  obtain ⟨hx, hb, -⟩ := hg
  obtain ⟨h1, h2, h3⟩ := hr
  rw [h3]
  exact W.iret hx hb h1 (fun t ht hW => ⟨⟨rfl, by rw [ht]; exact hP⟩, hS.F ht⟩) hS.2.2 hd h2
theorem wm_zreturn {v : Int32} (hg : Gd Γ K cc own nL d) (hr : RK Γ K (some .boolean) (some (.int v)) M) (hn : v = 0 ∨ v = 1) (hd : decode cc pc = .ok (.ireturn, 1)) : WM Γ K M L pc [.int v] := by
  intro H locs ls hP hS hl
  obtain ⟨hx, hb, -⟩ := hg
  obtain ⟨h1, h2, h3⟩ := hr
  rw [h3]
  exact W.zret hx hb h1 (by rcases hn with rfl | rfl <;> rfl) (fun t ht hW => ⟨⟨rfl, by rw [ht]; exact hP⟩, hS.F ht⟩) hS.2.2 hd h2
theorem wm_return (hg : Gd Γ K cc own nL d) (hr : RK Γ K none none M) (hd : decode cc pc = .ok (.return_, 1)) : WM Γ K M L pc [] := by
  intro H locs ls hP hS hl
  obtain ⟨hx, hb, -⟩ := hg
  obtain ⟨h1, h2, h3⟩ := hr
  rw [h3]
  exact W.vret hx hb h1 (fun t ht hW => ⟨⟨rfl, by rw [ht]; exact hP⟩, hS.F ht⟩) hS.2.2 hd h2
theorem wm_freturn {v : UInt32} (hg : Gd Γ K cc own nL d) (hr : RK Γ K (some .float) (some (.float v)) M) (hd : decode cc pc = .ok (.freturn, 1)) : WM Γ K M L pc [.float v] := by
  intro H locs ls hP hS hl
  obtain ⟨hx, hb, -⟩ := hg
  obtain ⟨h1, h2, h3⟩ := hr
  rw [h3]
  exact W.fret hx hb h1 (fun t ht hW => ⟨⟨rfl, by rw [ht]; exact hP⟩, hS.F ht⟩) hS.2.2 hd h2
/-- another way to write the same memory -/
theorem wm_mem {M' : Mem} (h : M = M') (kk : WM Γ K M' L pc st) : WM Γ K M L pc st := h ▸ kk
/-- another way to write the same cells -/
theorem wm_cells {M' : Mem} (h : ∀ H, va_P Γ.2.1 vwCl (mem Γ M) H → va_P Γ.2.1 vwCl (mem Γ M') H) (kk : WM Γ K M' L pc st) : WM Γ K M L pc st := fun H locs ls hP hS hl => kk H locs ls (h H hP) hS hl
theorem wm_st {st' : List Value} (h : st = st') (kk : WM Γ K M L pc st') : WM Γ K M L pc st := h ▸ kk
/-- fewer locals, in any order -/
theorem wm_L {L' : List (Nat × Value)} (ks : List Nat) (h : lv_pick L ks = L') (kk : WM Γ K M L' pc st) : WM Γ K M L pc st := fun H locs ls hP hS hl => kk H locs ls hP hS (lv_sub hl ks h)
theorem wm_Leq {L' : List (Nat × Value)} (h : L = L') (kk : WM Γ K M L' pc st) : WM Γ K M L pc st := h ▸ kk
/-! ===== locals ===== -/
def ldL : List (Nat × Value) → Nat → Option Value
  | [], _ => none
  | (j, v) :: l, i => bif Nat.beq j i then some v else ldL l i
theorem ldL_has {i : Nat} {v : Value} : ∀ {L : List (Nat × Value)}, ldL L i = some v → (i, v) ∈ L
  | [], h => by cases h
  | (j, w) :: l, h => by
    unfold ldL at h
    cases hb : Nat.beq j i with
    | true =>
      rw [hb] at h
      have hj : j = i := Nat.eq_of_beq_eq_true hb
      cases h
      rw [hj]
      exact List.mem_cons_self
    | false =>
      rw [hb] at h
      exact List.mem_cons_of_mem _ (ldL_has h)
/-- a value of one slot put at its place, the list in the order of the places -/
def stL : List (Nat × Value) → Nat → Value → List (Nat × Value)
  | [], i, v => [(i, v)]
  | (j, w) :: l, i, v => bif Nat.blt i j then (i, v) :: (j, w) :: l else bif Nat.beq i j then (i, v) :: l else (j, w) :: stL l i v
def cat1 (L : List (Nat × Value)) : Bool := L.all fun q => Nat.beq q.2.category 1
theorem stL_in {i : Nat} {v : Value} : ∀ {L : List (Nat × Value)} (q : Nat × Value), (L.map (·.1)).Pairwise (· < ·) → q ∈ stL L i v → q = (i, v) ∨ (q ∈ L ∧ q.1 ≠ i)
  | [], q, _, h => by
    simp [stL] at h
    exact Or.inl h
  | (j, w) :: l, q, hp, h => by
    have hp1 := (List.pairwise_cons.mp hp)
    unfold stL at h
    cases hb : Nat.blt i j with
    | true =>
      rw [hb] at h
      have hij : i < j := Nat.blt_eq.mp hb
      rcases List.mem_cons.mp h with h | h
      · exact Or.inl h
      · refine Or.inr ⟨h, ?_⟩
        rcases List.mem_cons.mp h with h | h
        · rw [h]; exact Nat.ne_of_gt hij
        · have h9 : j < q.1 := hp1.1 q.1 (List.mem_map.mpr ⟨q, h, rfl⟩)
          omega
    | false =>
      rw [hb] at h
      cases he : Nat.beq i j with
      | true =>
        rw [he] at h
        have hij : i = j := Nat.eq_of_beq_eq_true he
        rcases List.mem_cons.mp h with h | h
        · exact Or.inl h
        · refine Or.inr ⟨List.mem_cons_of_mem _ h, ?_⟩
          have h9 : j < q.1 := hp1.1 q.1 (List.mem_map.mpr ⟨q, h, rfl⟩)
          omega
      | false =>
        rw [he] at h
        have hij : i ≠ j := fun z => by rw [z, Nat.beq_refl] at he; cases he
        rcases List.mem_cons.mp h with h | h
        · refine Or.inr ⟨by rw [h]; exact List.mem_cons_self, by rw [h]; exact Ne.symm hij⟩
        · rcases stL_in q hp1.2 h with h | ⟨h, h2⟩
          · exact Or.inl h
          · exact Or.inr ⟨List.mem_cons_of_mem _ h, h2⟩
/-- the places of a list of locals, in order: decided -/
def ordL : List (Nat × Value) → Bool
  | [] => true
  | (j, _) :: l => (l.all fun q => Nat.blt j q.1) && ordL l
theorem ordL_pw : ∀ {L : List (Nat × Value)}, ordL L = true → (L.map (·.1)).Pairwise (· < ·)
  | [], _ => List.Pairwise.nil
  | (j, w) :: l, h => by
    unfold ordL at h
    rw [Bool.and_eq_true] at h
    refine List.Pairwise.cons (fun a ha => ?_) (ordL_pw h.2)
    obtain ⟨q, hq, rfl⟩ := List.mem_map.mp ha
    exact Nat.blt_eq.mp (List.all_eq_true.mp h.1 q hq)
theorem wm_store {i : Nat} {v : Value} {L' : List (Nat × Value)} {len : Nat} (hg : Gd Γ K cc own nL d) (hL : stL L i v = L') (hc : (cat1 L && ordL L && Nat.blt i nL) = true)
    (hrow : ∀ (H : Heap) (locs : List Loc) (ls : Array Slot) (lv' : List (Nat × Value)), lv_has ls (kC K).maxLocals L → i < (kC K).maxLocals → (i, v) :: L.filter (fun q => !(q.1 == i) && !(q.1 + 1 == i && q.2.category == 2)) = lv' → (∀ ls' : Array Slot, lv_has ls' (kC K).maxLocals lv' → W (kP K) Γ.1 (kE K) (kR K) (kS K) (kM K) (kArgs K) (kB K) (kMeth K) (kC K) H locs 0 0 (kQ K) (F0 (kM K) (pc + len) ls' st)) → W (kP K) Γ.1 (kE K) (kR K) (kS K) (kM K) (kArgs K) (kB K) (kMeth K) (kC K) H locs 0 0 (kQ K) (F0 (kM K) pc ls (v :: st)))
    (kk : WM Γ K M L' (pc + len) st) : WM Γ K M L pc (v :: st) := by
  intro H locs ls hP hS hl
  simp only [Bool.and_eq_true] at hc
  obtain ⟨⟨hc, ho⟩, hn⟩ := hc
  have hn : i < (kC K).maxLocals := by rw [hg.2.2.1]; exact Nat.blt_eq.mp hn
  refine hrow H locs ls _ hl hn rfl (fun ls' hl' => kk H locs ls' hP hS ⟨hl'.1, hl'.2.1, fun q hq => ?_⟩)
  subst hL
  refine hl'.2.2 q ?_
  rcases stL_in q (ordL_pw ho) hq with rfl | ⟨h1, h2⟩
  · exact List.mem_cons_self
  · refine List.mem_cons_of_mem _ (List.mem_filter.mpr ⟨h1, ?_⟩)
    have h3 : q.2.category = 1 := Nat.eq_of_beq_eq_true (List.all_eq_true.mp hc q h1)
    simp [h2, h3]
end Rows
