/-! ===== contracts whose end is said by a property of the memory ===== -/
def QP (Γ : GT) (o : Option Value) (P : Mem → Prop) : Array Value → State → Outcome → State → Prop := fun _ st oc t => (oc = .returned o ∧ ∃ M, P M ∧ va_P Γ.2.1 vwCl (mem Γ M) t.heap) ∧ va_F (gA Γ) st t
def RKP (Γ : GT) (K : KT) (ret : Option FieldType) (o : Option Value) (P : Mem → Prop) : Prop := (kMeth K).sig.returnType = ret ∧ (kMeth K).locks = false ∧ kQ K = MQ (kB K) (QP Γ o P) (kArgs K) (kS K) 0 0 (gA Γ)
def CtP (Γ : GT) (y : MethodName) (cc : ByteArray) (nL : Nat) (ret : Option FieldType) (d : Nat) (args : List Value) (M : Mem) (o : Option Value) (P : Mem → Prop) : Prop :=
  Met Γ.1 y (.code y cc nL ret :: wsL_law) (rmd d) (va_Pc args (HW Γ M)) (QP Γ o P) 0 0 (gA Γ)
theorem ctp_of {Γ : GT} {y : MethodName} {cc : ByteArray} {nL : Nat} {ret : Option FieldType} {d : Nat} {args : List Value} {M : Mem} {o : Option Value} {P : Mem → Prop} (hy : plainName y.cls = true) (hsz : (lg_sl args).length ≤ nL)
    (body : ∀ K : KT, Gd Γ K cc y.cls nL d → RKP Γ K ret o P → WM Γ K M (lv_args 0 args) 0 []) : CtP Γ y cc nL ret d args M o P := by
  refine Met.ofW (cc := cc) (maxL := nL) (ret := ret) hy rfl ?_
  intro p e s m a below meth c s₁ B hml hv
  obtain ⟨rfl, hG, hP, hK, hN, hC⟩ := hv
  have hts := atoms_spec (ws := Cond.code y cc nL ret :: wsL_law) B.pre
  have hown : s.vm.findClass y.cls = some m.cls := findClass_of_methodNamed B.named
  have hl := lv_entry args (n := nL) hsz
  rw [lg_entry_eq]
  have h := body (p, e, rmd d, s, m, args.toArray, below, meth, c, MQ below (QP Γ o P) args.toArray s 0 0 (gA Γ)) ⟨B.exec, B.bytes, hml, hown, fun w hw => hts w (List.mem_cons_of_mem _ hw), hK, hG, hN, hC, Nat.le_refl _, Nat.le_refl _⟩ ⟨B.returns, B.notSynchronized, rfl⟩
  exact h s.heap [] _ hP va_S.rf (by rw [hml]; exact hl)
section PRows
variable {Γ : GT} {K : KT} {cc : ByteArray} {own : String} {nL d : Nat} {M : Mem} {L : List (Nat × Value)} {pc q : Nat} {st : List Value} {P : Mem → Prop}
theorem wm_ipret {v r : Int32} (hg : Gd Γ K cc own nL d) (hr : RKP Γ K (some .int) (some (.int r)) P) (hd : decode cc pc = .ok (.ireturn, 1)) (hv : v = r) (hM : P M) : WM Γ K M L pc [.int v] := by
  subst hv
  intro H locs ls hP hS hl
  obtain ⟨hx, hb, -⟩ := hg
  obtain ⟨h1, h2, h3⟩ := hr
  rw [h3]
  exact W.iret hx hb h1 (fun t ht hW => ⟨⟨rfl, M, hM, by rw [ht]; exact hP⟩, hS.F ht⟩) hS.2.2 hd h2
theorem wm_zpret {v r : Int32} (hg : Gd Γ K cc own nL d) (hr : RKP Γ K (some .boolean) (some (.int r)) P) (hd : decode cc pc = .ok (.ireturn, 1)) (hv : v = r) (hM : P M) (hz : v = 0 ∨ v = 1) : WM Γ K M L pc [.int v] := by
  subst hv
  intro H locs ls hP hS hl
  obtain ⟨hx, hb, -⟩ := hg
  obtain ⟨h1, h2, h3⟩ := hr
  rw [h3]
  exact W.zret hx hb h1 (by rcases hz with rfl | rfl <;> rfl) (fun t ht hW => ⟨⟨rfl, M, hM, by rw [ht]; exact hP⟩, hS.F ht⟩) hS.2.2 hd h2
theorem wm_vpret (hg : Gd Γ K cc own nL d) (hr : RKP Γ K none none P) (hd : decode cc pc = .ok (.return_, 1)) (hM : P M) : WM Γ K M L pc [] := by
  intro H locs ls hP hS hl
  obtain ⟨hx, hb, -⟩ := hg
  obtain ⟨h1, h2, h3⟩ := hr
  rw [h3]
  exact W.vret hx hb h1 (fun t ht hW => ⟨⟨rfl, M, hM, by rw [ht]; exact hP⟩, hS.F ht⟩) hS.2.2 hd h2
theorem wm_finP {H : Heap} {locs : List Loc} {ls : Array Slot} {o : Option Value} {rest : List Value} {a : Array Value} (hr : va_Run (kP K) Γ.1 (kE K) (kR K) (kS K) (kM K) (kArgs K) (kB K) (kMeth K) (kC K) H locs 0 0 0 0 (F0 (kM K) pc ls st) rest (QP Γ o P a) (gA Γ)) (hS : va_S (gA Γ) (kS K).heap H locs) (hl : lv_has ls (kC K).maxLocals L)
    (kk : ∀ M', P M' → WM Γ K M' L (pc + 3) (o.toList ++ rest)) : W (kP K) Γ.1 (kE K) (kR K) (kS K) (kM K) (kArgs K) (kB K) (kMeth K) (kC K) H locs 0 0 (kQ K) (F0 (kM K) pc ls st) := by
  intro T hT X
  obtain ⟨v, st₀, t, T', L', h0, X', hL, e1, e2, ⟨⟨hv, M', hM', hp⟩, hz, hk⟩, hst⟩ := hr T hT X
  cases hv
  rw [h0] at hz hk
  obtain ⟨t2, a1, b1⟩ := kk M' hM' T'.heap (locs ++ L') ls (by rw [e1]; exact hp) ⟨Nat.le_trans hS.1 (by rw [e1]; exact hz), fun q h1 h2 => by rw [e1, hk q (Nat.lt_of_lt_of_le h1 hS.1) h2]; exact hS.2.1 q h1 h2, fun q hq => by
    rcases List.mem_append.mp hq with h | h
    · exact hS.2.2 q h
    · exact hL q h⟩ hl T' rfl X'
  exact ⟨t2, hst t2 a1, b1⟩
theorem wm_callVP {ci i ix n nLy d' : Nat} {y : MethodName} {ccy : ByteArray} {ret : Option FieldType} {As rest : List Value} {o : Option Value} (hg : Gd Γ K cc own nL d) (hd : decode cc pc = .ok (.invokevirtual ix, 3)) (hp : pc + 3 = q) (hk : LnkV own ix y ccy nLy ret n) (hdd : d' < d) (hC : CtP Γ y ccy nLy ret d' (.ref (ad Γ ci i 0) :: As) M o P) (hi : i < nO ci) (hcl : RR ci = y.cls ∧ ci < 6) (hn : As.length = n) (hst : st = As.reverse ++ .ref (ad Γ ci i 0) :: rest) (hcat : (rest.map fun v => v.category).sum ≤ 8) (kk : ∀ M', P M' → WM Γ K M' L q (o.toList ++ rest)) : WM Γ K M L pc st := by
  subst hp
  intro H locs ls hP hS hl
  obtain ⟨q0, hq0⟩ := mem_at Γ M (mem_keys (j := 0) hcl.2 hi (by decide) rfl)
  have hrecv := va_recv hg.2.2.2.2.2.1 hP (clW hcl.2) hq0
  refine wm_finP (va_runV (C := y.cls) (As := As) (rest := rest) ⟨hg.1, hg.2.1, hg.2.2.1, hg.2.2.2.1, hg.2.2.2.2.1⟩ hC (cwV n hg.2.2.2.2.1 hk.1 rfl rfl rfl ⟨rfl, hk.2.1⟩ (roomR hg hdd hk.2.2)) ⟨hw_blind Γ M _, ?_, fun U hU hW => ⟨rfl, hw_at hg hP hS hU hW⟩⟩ rfl hn (by rw [← hg.2.2.1]; exact hl.1) hst (lv_room hcat) hd ⟨Nat.zero_le _, Nat.zero_le _⟩) hS hl kk
  rw [← hcl.1]
  exact hrecv
theorem wm_callVP1 {ci i ix n nLy d' : Nat} {y : MethodName} {ccy : ByteArray} {ret : Option FieldType} {As rest : List Value} {v : Value} (hg : Gd Γ K cc own nL d) (hd : decode cc pc = .ok (.invokevirtual ix, 3)) (hp : pc + 3 = q) (hk : LnkV own ix y ccy nLy ret n) (hdd : d' < d) (hC : CtP Γ y ccy nLy ret d' (.ref (ad Γ ci i 0) :: As) M (some v) P) (hi : i < nO ci) (hcl : RR ci = y.cls ∧ ci < 6) (hn : As.length = n) (hst : st = As.reverse ++ .ref (ad Γ ci i 0) :: rest) (hcat : (rest.map fun v => v.category).sum ≤ 8) (kk : ∀ M', P M' → WM Γ K M' L q (v :: rest)) : WM Γ K M L pc st := wm_callVP hg hd hp hk hdd hC hi hcl hn hst hcat kk
theorem wm_callVP0 {ci i ix n nLy d' : Nat} {y : MethodName} {ccy : ByteArray} {ret : Option FieldType} {As rest : List Value} (hg : Gd Γ K cc own nL d) (hd : decode cc pc = .ok (.invokevirtual ix, 3)) (hp : pc + 3 = q) (hk : LnkV own ix y ccy nLy ret n) (hdd : d' < d) (hC : CtP Γ y ccy nLy ret d' (.ref (ad Γ ci i 0) :: As) M none P) (hi : i < nO ci) (hcl : RR ci = y.cls ∧ ci < 6) (hn : As.length = n) (hst : st = As.reverse ++ .ref (ad Γ ci i 0) :: rest) (hcat : (rest.map fun v => v.category).sum ≤ 8) (kk : ∀ M', P M' → WM Γ K M' L q rest) : WM Γ K M L pc st := wm_callVP hg hd hp hk hdd hC hi hcl hn hst hcat kk
end PRows
/-! ===== what the reference's row w holds ===== -/
/-- the chain's numbers in their ranges -/
def rgX (X : OV) : Prop := ok10 X ∧ 1 ≤ szN X ∧ ∀ k, k < szN X → (∃ a : Nat, a < 8 ∧ X.2 1 k = nI a) ∧ (X.2 2 k = 0 ∨ X.2 2 k = 1) ∧ (X.2 3 k = -1000000009 ∨ ∃ a : Nat, a < 8 ∧ X.2 3 k = nI a)
def rwC (w : Nat → Int32) (X : OV) : Prop := w 0 = X.1 0 ∧ (∀ k, k < szN X → w (1 + k) = X.2 1 k ∧ w (11 + k) = X.2 2 k ∧ w (21 + k) = X.2 3 k) ∧ w 31 = X.1 4 ∧ w 32 = X.1 5 ∧ ∀ a, -(w 33) * cosI (a - w 34) * 10 = pof X a
def rwG (w : Nat → Int32) (X : OV) : Prop := w 33 = X.1 6 ∧ w 34 = X.1 7
def rwB (w : Nat → Int32) (B : OV) : Prop := okB B ∧ w 35 = B.1 0 ∧ w 36 = B.1 1 ∧ w 37 = B.1 2 ∧ w 38 = B.1 3 ∧ w 39 = B.1 4 ∧ ∀ j, j < lgN B → w (40 + 3 * j) = B.2 5 j ∧ w (40 + 3 * j + 1) = B.2 6 j ∧ w (40 + 3 * j + 2) = B.2 7 j
def RWs (w : Nat → Int32) (X B : OV) : Prop := rgX X ∧ rwC w X ∧ rwB w B
def RW (w : Nat → Int32) (X B : OV) : Prop := RWs w X B ∧ rwG w X
theorem rwG_C {w : Nat → Int32} {X : OV} (h : rwG w X) (a : Int32) : -(w 33) * cosI (a - w 34) * 10 = pof X a := by rw [h.1, h.2]; rfl
/-! ===== arithmetic modulo 8 ===== -/
theorem toNat_nI {n : Nat} (h : n < 2 ^ 32) : (nI n).toBitVec.toNat = n := pk_tn h
theorem cosI_congr {x y : Int32} (h : x.toBitVec.toNat % 2 ^ 3 = y.toBitVec.toNat % 2 ^ 3) : cosI x = cosI y := by unfold cosI; rw [h]
theorem m8_sub {x y b : Int32} (h : x.toBitVec.toNat % 2 ^ 3 = y.toBitVec.toNat % 2 ^ 3) : (x - b).toBitVec.toNat % 2 ^ 3 = (y - b).toBitVec.toNat % 2 ^ 3 := by
  simp only [Int32.toBitVec_sub, BitVec.toNat_sub]
  have h1 := x.toBitVec.isLt
  have h2 := y.toBitVec.isLt
  have h3 := b.toBitVec.isLt
  omega
theorem m8_and (x : Int32) : (x &&& 7).toBitVec.toNat % 2 ^ 3 = x.toBitVec.toNat % 2 ^ 3 := by
  have h := pk_and x (m := 7) 3 rfl
  rw [h, toNat_nI (by omega)]
  omega
theorem pull_m8 {x y : Int32} (b : Int32) (h : x.toBitVec.toNat % 2 ^ 3 = y.toBitVec.toNat % 2 ^ 3) : pull x b = pull y b := by
  unfold pull
  rw [cosI_congr (m8_sub (b := b) h), cosI_congr h]
theorem pOn_m8 {X : OV} {x y : Int32} (p : Int32) (h : x.toBitVec.toNat % 2 ^ 3 = y.toBitVec.toNat % 2 ^ 3) : pOn X x p = pOn X y p := by
  unfold pOn
  rw [pull_m8 _ h]
theorem pof_m8 {X : OV} {x y : Int32} (h : x.toBitVec.toNat % 2 ^ 3 = y.toBitVec.toNat % 2 ^ 3) : pof X x = pof X y := by
  unfold pof
  rw [cosI_congr (m8_sub h)]
theorem part_m8 {X : OV} {x y : Int32} (i : Int32) (h : x.toBitVec.toNat % 2 ^ 3 = y.toBitVec.toNat % 2 ^ 3) : part X i x = part X i y := by
  unfold part
  rw [pOn_m8 (i - 1) h, pOn_m8 (i + 1) h, pOn_m8 (i - 2) h, pOn_m8 (i + 2) h, pof_m8 h]
/-- Java's remainder by 8 -/
def rem8 (x : Int32) : Int32 := x - x / 8 * 8
theorem bm32 {z : Int} (h1 : -(2 ^ 31) ≤ z) (h2 : z < 2 ^ 31) : z.bmod (2 ^ 32) = z := Int.bmod_eq_of_le (by omega) (by omega)
theorem rem8_toInt (x : Int32) : (rem8 x).toInt = x.toInt.tmod 8 := by
  have h8 : (8 : Int32).toInt = 8 := by decide
  have b1 := Int32.le_toInt x
  have b2 := Int32.toInt_lt x
  have hd := Int.mul_tdiv_add_tmod x.toInt 8
  have hm1 : x.toInt.tmod 8 < 8 := Int.tmod_lt_of_pos _ (by decide)
  have hm2 : -8 < x.toInt.tmod 8 := by
    have := Int.lt_tmod_of_pos x.toInt (by decide : (0 : Int) < 8)
    omega
  have hq : (x / 8).toInt = x.toInt.tdiv 8 := by
    rw [Int32.toInt_div, h8, bm32 (by omega) (by omega)]
  have hp : (x / 8 * 8).toInt = 8 * x.toInt.tdiv 8 := by
    rw [Int32.toInt_mul, hq, h8, Int.mul_comm, bm32]
    · by_cases h0 : 0 ≤ x.toInt
      · have := Int.tmod_nonneg 8 h0
        omega
      · have : x.toInt.tmod 8 ≤ 0 := by
          have h := Int.tmod_nonneg (a := -x.toInt) 8 (by omega)
          rw [Int.neg_tmod] at h
          omega
        omega
    · by_cases h0 : 0 ≤ x.toInt
      · have := Int.tmod_nonneg 8 h0
        omega
      · have : x.toInt.tmod 8 ≤ 0 := by
          have h := Int.tmod_nonneg (a := -x.toInt) 8 (by omega)
          rw [Int.neg_tmod] at h
          omega
        omega
  unfold rem8
  rw [Int32.toInt_sub, hp, bm32 (by omega) (by omega)]
  omega
theorem rem8_n {n : Nat} (h : n < 2 ^ 31) : rem8 (nI n) = nI (n % 8) := pk_rem h (by decide) (by decide)
/-- (a + b + 8) % 8 is a + b modulo 8 -/
theorem turned_and {a : Nat} {b : Int32} (ha : a < 8) (hb : -8 ≤ b.toInt ∧ b.toInt ≤ 8) : rem8 (nI a + b + 8) = (nI a + b) &&& 7 := by
  obtain ⟨n, hn, e⟩ : ∃ n : Nat, n < 32 ∧ nI a + b + 8 = nI n := by
    refine ⟨(a + b.toInt + 8).toNat, by omega, ?_⟩
    apply Int32.toInt_inj.mp
    have h1 : (nI a).toInt = a := nI_toInt (by omega)
    have h8 : (8 : Int32).toInt = 8 := by decide
    rw [nI_toInt (by omega), Int32.toInt_add, Int32.toInt_add, h1, h8, bm32 (z := (a : Int) + b.toInt) (by omega) (by omega), bm32 (by omega) (by omega)]
    omega
  rw [e, rem8_n (by omega), pk_and (nI a + b) (m := 7) 3 rfl]
  have e2 : nI a + b = nI n - 8 := by rw [← e, Int32.add_sub_cancel]
  rw [e2]
  have h3 : (nI n - 8).toBitVec.toNat % 2 ^ 3 = (nI n).toBitVec.toNat % 2 ^ 3 := by
    simp only [Int32.toBitVec_sub, BitVec.toNat_sub]
    have h1 := (nI n).toBitVec.isLt
    have h2 : (8 : Int32).toBitVec.toNat = 8 := by decide
    rw [h2]
    omega
  rw [h3, toNat_nI (by omega)]
