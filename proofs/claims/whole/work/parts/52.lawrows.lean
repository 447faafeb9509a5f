/-! ===== the law's walk over the memory ===== -/
def WL (Γ : GT) (K : KT) (M : Mem) (L : List (Nat × Value)) (pc : Nat) (st : List Value) : Prop :=
  ∀ (H : Heap) (locs : List Loc) (ls : Array Slot), va_P Γ.2.1 vwCl (mem Γ M) H → va_S (gA Γ) (kS K).heap H locs → lv_has ls (kC K).maxLocals L → W (kP K) Γ.1 (kE K) (kR K) (kS K) (kM K) (kArgs K) (kB K) (kMeth K) (kC K) H locs 600000 7302250 (kQ K) (F0 (kM K) pc ls st)
def GL (Γ : GT) (K : KT) (b N : Nat) (xs : Nat → Int32) : Prop := Gd Γ K cL_law RL 8 20 ∧ (600000 ≤ (kR K).cells ∧ 7302250 ≤ (kR K).slots) ∧ va_X b N xs (kS K) (kS K).heap ∧ b < (kS K).heap.size ∧ ¬ gA Γ b ∧ N ≤ 2048
section LRows
variable {Γ : GT} {K : KT} {b N : Nat} {xs : Nat → Int32} {M : Mem} {L : List (Nat × Value)} {pc q : Nat} {st : List Value}
theorem wl_mem {M' : Mem} (h : M = M') (kk : WL Γ K M' L pc st) : WL Γ K M L pc st := h ▸ kk
theorem wl_st {st' : List Value} (h : st = st') (kk : WL Γ K M L pc st') : WL Γ K M L pc st := h ▸ kk
theorem wl_L {L' : List (Nat × Value)} (ks : List Nat) (h : lv_pick L ks = L') (kk : WL Γ K M L' pc st) : WL Γ K M L pc st := fun H locs ls hP hS hl => kk H locs ls hP hS (lv_sub hl ks h)
theorem wl_iconst {z : Int} (v : Int32) (hg : GL Γ K b N xs) (hd : decode cL_law pc = .ok (.iconst z, 1)) (hp : pc + 1 = q) (hv : Int32.ofInt z = v) (kk : WL Γ K M L q (.int v :: st)) : WL Γ K M L pc st := by
  subst hp
  exact fun H locs ls hP hS hl => lv_iconst hg.1.1 hg.1.2.1 hd hv (kk H locs ls hP hS hl)
theorem wl_bipush {z : Int} (v : Int32) (hg : GL Γ K b N xs) (hd : decode cL_law pc = .ok (.bipush z, 2)) (hp : pc + 2 = q) (hv : (Int8.ofInt z).toInt32 = v) (kk : WL Γ K M L q (.int v :: st)) : WL Γ K M L pc st := by
  subst hp
  exact fun H locs ls hP hS hl => lv_bipush hg.1.1 hg.1.2.1 hd hv (kk H locs ls hP hS hl)
theorem wl_iload_n {k : Fin 4} {i : Nat} {x : Int32} (hg : GL Γ K b N xs) (hd : decode cL_law pc = .ok (.iload_n k, 1)) (hp : pc + 1 = q) (hi : (k : Nat) = i) (hv : ldL L i = some (.int x)) (kk : WL Γ K M L q (.int x :: st)) : WL Γ K M L pc st := by
  subst hp
  exact fun H locs ls hP hS hl => lv_iload_n hg.1.1 hg.1.2.1 hd hi (hl.2.2 _ (ldL_has hv)) (kk H locs ls hP hS hl)
theorem wl_aload_n {k : Fin 4} {i : Nat} {x : Nat} (hg : GL Γ K b N xs) (hd : decode cL_law pc = .ok (.aload_n k, 1)) (hp : pc + 1 = q) (hi : (k : Nat) = i) (hv : ldL L i = some (.ref x)) (kk : WL Γ K M L q (.ref x :: st)) : WL Γ K M L pc st := by
  subst hp
  exact fun H locs ls hP hS hl => lv_aload_n hg.1.1 hg.1.2.1 hd hi (hl.2.2 _ (ldL_has hv)) (kk H locs ls hP hS hl)
theorem wl_iadd {x y : Int32} (hg : GL Γ K b N xs) (hd : decode cL_law pc = .ok (.iadd, 1)) (hp : pc + 1 = q) (kk : WL Γ K M L q (.int (x + y) :: st)) : WL Γ K M L pc (.int y :: .int x :: st) := by
  subst hp
  exact fun H locs ls hP hS hl => lv_iadd hg.1.1 hg.1.2.1 hd (kk H locs ls hP hS hl)
theorem wl_isub {x y : Int32} (hg : GL Γ K b N xs) (hd : decode cL_law pc = .ok (.isub, 1)) (hp : pc + 1 = q) (kk : WL Γ K M L q (.int (x - y) :: st)) : WL Γ K M L pc (.int y :: .int x :: st) := by
  subst hp
  exact fun H locs ls hP hS hl => lv_isub hg.1.1 hg.1.2.1 hd (kk H locs ls hP hS hl)
theorem wl_iand {x y : Int32} (hg : GL Γ K b N xs) (hd : decode cL_law pc = .ok (.iand, 1)) (hp : pc + 1 = q) (kk : WL Γ K M L q (.int (x &&& y) :: st)) : WL Γ K M L pc (.int y :: .int x :: st) := by
  subst hp
  exact fun H locs ls hP hS hl => lv_iand hg.1.1 hg.1.2.1 hd (kk H locs ls hP hS hl)
theorem wl_goto {off : Int} (hg : GL Γ K b N xs) (hd : decode cL_law pc = .ok (.goto off, 3)) (hp : (pc : Int) + off = (q : Int)) (kk : WL Γ K M L q st) : WL Γ K M L pc st := fun H locs ls hP hS hl => lv_goto hg.1.1 hg.1.2.1 hd hp (kk H locs ls hP hS hl)
theorem wl_icmp_gt {x y : Int32} {off : Int} {q2 : Nat} (hg : GL Γ K b N xs) (hd : decode cL_law pc = .ok (.if_icmp .gt off, 3)) (hp : (pc : Int) + off = (q : Int)) (hp2 : pc + 3 = q2) (kt : y < x → WL Γ K M L q st) (kf : ¬ (y < x) → WL Γ K M L q2 st) : WL Γ K M L pc (.int y :: .int x :: st) := by
  subst hp2
  exact fun H locs ls hP hS hl => lv_icmp_gt hg.1.1 hg.1.2.1 hd hp (fun h => kt h H locs ls hP hS hl) (fun h => kf h H locs ls hP hS hl)
theorem wl_icmp_eq {x y : Int32} {off : Int} (hg : GL Γ K b N xs) (hd : decode cL_law pc = .ok (.if_icmp .eq off, 3)) (hp : (pc : Int) + off = (q : Int)) (he : x = y) (kt : WL Γ K M L q st) : WL Γ K M L pc (.int y :: .int x :: st) := fun H locs ls hP hS hl => lv_icmp_eq hg.1.1 hg.1.2.1 hd hp (fun _ => kt H locs ls hP hS hl) (fun h => absurd he h)
theorem wl_if_eq {off : Int} (hg : GL Γ K b N xs) (hd : decode cL_law pc = .ok (.ifCond .eq off, 3)) (hp : (pc : Int) + off = (q : Int)) (kt : WL Γ K M L q st) : WL Γ K M L pc (.int 0 :: st) := fun H locs ls hP hS hl => lv_if_eq hg.1.1 hg.1.2.1 hd hp (fun _ => kt H locs ls hP hS hl) (fun h => absurd rfl h)
theorem wl_istore_n {k : Fin 4} {i : Nat} {x : Int32} {L' : List (Nat × Value)} (hg : GL Γ K b N xs) (hd : decode cL_law pc = .ok (.istore_n k, 1)) (hp : pc + 1 = q) (hi : (k : Nat) = i) (hL : stL L i (.int x) = L') (hc : (cat1 L && ordL L && Nat.blt i 8) = true) (kk : WL Γ K M L' q st) : WL Γ K M L pc (.int x :: st) := by
  subst hp
  intro H locs ls hP hS hl
  simp only [Bool.and_eq_true] at hc
  obtain ⟨⟨hc, ho⟩, hn⟩ := hc
  have hn : i < (kC K).maxLocals := by rw [hg.1.2.2.1]; exact Nat.blt_eq.mp hn
  exact lv_istore_n hg.1.1 hg.1.2.1 hd hi hl hn rfl (fun ls' hl' => kk H locs ls' hP hS (stL_has hl' hL hc ho))
theorem wl_iinc {i : Nat} {L' : List (Nat × Value)} {x : Int32} {z : Int} (v : Int32) (hg : GL Γ K b N xs) (hd : decode cL_law pc = .ok (.iinc i z, 3)) (hp : pc + 3 = q) (hx : ldL L i = some (.int x)) (hv : x + Int32.ofInt z = v) (hL : stL L i (.int v) = L') (hc : (cat1 L && ordL L && Nat.blt i 8) = true) (kk : WL Γ K M L' q st) : WL Γ K M L pc st := by
  subst hp
  intro H locs ls hP hS hl
  simp only [Bool.and_eq_true] at hc
  obtain ⟨⟨hc, ho⟩, hn⟩ := hc
  have hn : i < (kC K).maxLocals := by rw [hg.1.2.2.1]; exact Nat.blt_eq.mp hn
  obtain ⟨k, hk⟩ := List.getElem?_of_mem (ldL_has hx)
  exact lv_iinc hg.1.1 hg.1.2.1 hd hl hk hv hn rfl (fun ls' hl' => kk H locs ls' hP hS (stL_has hl' hL hc ho))
theorem wl_dstore {i : Nat} {x : UInt64} {L' : List (Nat × Value)} (hg : GL Γ K b N xs) (hd : decode cL_law pc = .ok (.dstore i, 2)) (hp : pc + 2 = q) (hn : i + 1 < 8) (hL : (i, Value.double x) :: L.filter (fun q => !(q.1 == i) && (!(q.1 == i + 1) && !(q.1 + 1 == i && q.2.category == 2))) = L') (kk : WL Γ K M L' q st) : WL Γ K M L pc (.double x :: st) := by
  subst hp
  exact fun H locs ls hP hS hl => lv_dstore hg.1.1 hg.1.2.1 hd hl (by rw [hg.1.2.2.1]; exact hn) hL (fun ls' hl' => kk H locs ls' hP hS hl')
theorem wl_dload {i : Nat} {x : UInt64} (k : Nat) (hg : GL Γ K b N xs) (hd : decode cL_law pc = .ok (.dload i, 2)) (hp : pc + 2 = q) (hv : L[k]? = some (i, .double x)) (kk : WL Γ K M L q (.double x :: st)) : WL Γ K M L pc st := by
  subst hp
  exact fun H locs ls hP hS hl => lv_dload hg.1.1 hg.1.2.1 hd (lv_at hl k hv) (kk H locs ls hP hS hl)
theorem wl_f2d {x : UInt32} (hg : GL Γ K b N xs) (hd : decode cL_law pc = .ok (.f2d, 1)) (hp : pc + 1 = q) (hn : vf_n64 (FP.f2d x)) (kk : WL Γ K M L q (.double (FP.f2d x) :: st)) : WL Γ K M L pc (.float x :: st) := by
  subst hp
  exact fun H locs ls hP hS hl => lv_f2d hg.1.1 hg.1.2.1 hd hn (kk H locs ls hP hS hl)
theorem wl_dcmp {x y : UInt64} {op : CmpOp} (hg : GL Γ K b N xs) (hd : decode cL_law pc = .ok (.dcmp op, 1)) (hp : pc + 1 = q) (kk : WL Γ K M L q (.int (Op.cmpValue (FP.dcmp x y) op) :: st)) : WL Γ K M L pc (.double y :: .double x :: st) := by
  subst hp
  exact fun H locs ls hP hS hl => lv_dcmp hg.1.1 hg.1.2.1 hd (kk H locs ls hP hS hl)
theorem wl_slen (hg : GL Γ K b N xs) (hd : decode cL_law pc = .ok (.arraylength, 1)) (hp : pc + 1 = q) (kk : WL Γ K M L q (.int (nI N) :: st)) : WL Γ K M L pc (.ref b :: st) := by
  subst hp
  exact fun H locs ls hP hS hl => va_slen hg.1.1 hg.1.2.1 hg.2.2.1 hg.2.2.2.1 hg.2.2.2.2.1 hS hd (kk H locs ls hP hS hl)
theorem wl_sld {i : Nat} {x : Int32} (hg : GL Γ K b N xs) (hd : decode cL_law pc = .ok (.iaload, 1)) (hp : pc + 1 = q) (hx : x = nI i) (hi : i < N) (kk : WL Γ K M L q (.int (xs i) :: st)) : WL Γ K M L pc (.int x :: .ref b :: st) := by
  subst hp
  subst hx
  intro H locs ls hP hS hl
  have hN := hg.2.2.2.2.2
  refine va_sld hg.1.1 hg.1.2.1 hg.2.2.1 hg.2.2.2.1 hg.2.2.2.2.1 hS (vp_in_nI hi (by omega)) hd ?_
  rw [nI_clamp (by omega)]
  exact kk H locs ls hP hS hl
theorem wl_tableOut {dflt lo hi : Int} {offs : Array Int} {len : Nat} {x : Int32} (hg : GL Γ K b N xs) (hd : decode cL_law pc = .ok (.tableswitch dflt lo hi offs, len)) (h : x.toInt < lo ∨ hi < x.toInt) (hp : (pc : Int) + dflt = (q : Int)) (kk : WL Γ K M L q st) : WL Γ K M L pc (.int x :: st) := fun H locs ls hP hS hl => lv_tableOut hg.1.1 hg.1.2.1 hd h hp (kk H locs ls hP hS hl)
theorem wl_tableIn {dflt lo hi : Int} {offs : Array Int} {len : Nat} {x : Int32} {off : Int} (hg : GL Γ K b N xs) (hd : decode cL_law pc = .ok (.tableswitch dflt lo hi offs, len)) (h1 : ¬ x.toInt < lo) (h2 : ¬ hi < x.toInt) (ho : offs[(x.toInt - lo).toNat]? = some off) (hp : (pc : Int) + off = (q : Int)) (kk : WL Γ K M L q st) : WL Γ K M L pc (.int x :: st) := fun H locs ls hP hS hl => lv_tableIn hg.1.1 hg.1.2.1 hd h1 h2 ho hp (kk H locs ls hP hS hl)
/-- an argument of the script: aload_0, iload_3, iconst, iadd, iaload -/
theorem wl_arg {i k : Nat} {z : Int} (hg : GL Γ K b N xs) (d1 : decode cL_law pc = .ok (.aload_n 0, 1)) (d2 : decode cL_law (pc + 1) = .ok (.iload_n 3, 1)) (d3 : decode cL_law (pc + 2) = .ok (.iconst z, 1)) (d4 : decode cL_law (pc + 3) = .ok (.iadd, 1)) (d5 : decode cL_law (pc + 4) = .ok (.iaload, 1)) (hp : pc + 5 = q) (hz : Int32.ofInt z = nI k) (h0 : ldL L 0 = some (.ref b)) (h3 : ldL L 3 = some (.int (nI i))) (hi : i + k < N) (kk : WL Γ K M L q (.int (xs (i + k)) :: st)) : WL Γ K M L pc st := by
  subst hp
  refine wl_aload_n (q := pc + 1) (i := 0) hg d1 rfl rfl h0 ?_
  refine wl_iload_n (q := pc + 2) (i := 3) hg d2 rfl rfl h3 ?_
  refine wl_iconst (q := pc + 3) (nI k) hg d3 rfl hz ?_
  refine wl_iadd (q := pc + 4) hg d4 rfl ?_
  exact wl_sld (q := pc + 5) (i := i + k) hg d5 rfl (nadd rfl rfl) hi kk
theorem wl_fin {H : Heap} {locs : List Loc} {ls : Array Slot} {o : Option Value} {rest : List Value} {P : Mem → Prop} {a : Array Value} (hr : va_Run (kP K) Γ.1 (kE K) (kR K) (kS K) (kM K) (kArgs K) (kB K) (kMeth K) (kC K) H locs 600000 7302250 0 0 (F0 (kM K) pc ls st) rest (QP Γ o P a) (gA Γ)) (hS : va_S (gA Γ) (kS K).heap H locs) (hl : lv_has ls (kC K).maxLocals L)
    (kk : ∀ M', P M' → WL Γ K M' L (pc + 3) (o.toList ++ rest)) : W (kP K) Γ.1 (kE K) (kR K) (kS K) (kM K) (kArgs K) (kB K) (kMeth K) (kC K) H locs 600000 7302250 (kQ K) (F0 (kM K) pc ls st) := by
  intro T hT X
  obtain ⟨v, st₀, t, T', L', h0, X', hL, e1, e2, ⟨⟨hv, M', hM', hp⟩, hz, hk⟩, hst⟩ := hr T hT X
  cases hv
  rw [h0] at hz hk
  obtain ⟨t2, a1, b1⟩ := kk M' hM' T'.heap (locs ++ L') ls (by rw [e1]; exact hp) ⟨Nat.le_trans hS.1 (by rw [e1]; exact hz), fun q h1 h2 => by rw [e1, hk q (Nat.lt_of_lt_of_le h1 hS.1) h2]; exact hS.2.1 q h1 h2, fun q hq => by
    rcases List.mem_append.mp hq with h | h
    · exact hS.2.2 q h
    · exact hL q h⟩ hl T' rfl X'
  exact ⟨t2, hst t2 a1, b1⟩
theorem wl_finC {H : Heap} {locs : List Loc} {ls : Array Slot} {o : Option Value} {rest : List Value} {M' : Mem} {a : Array Value} (hr : va_Run (kP K) Γ.1 (kE K) (kR K) (kS K) (kM K) (kArgs K) (kB K) (kMeth K) (kC K) H locs 600000 7302250 0 0 (F0 (kM K) pc ls st) rest (QC Γ o M' a) (gA Γ)) (hS : va_S (gA Γ) (kS K).heap H locs) (hl : lv_has ls (kC K).maxLocals L)
    (kk : WL Γ K M' L (pc + 3) (o.toList ++ rest)) : W (kP K) Γ.1 (kE K) (kR K) (kS K) (kM K) (kArgs K) (kB K) (kMeth K) (kC K) H locs 600000 7302250 (kQ K) (F0 (kM K) pc ls st) := by
  intro T hT X
  obtain ⟨v, st₀, t, T', L', h0, X', hL, e1, e2, ⟨⟨hv, hp⟩, hz, hk⟩, hst⟩ := hr T hT X
  cases hv
  rw [h0] at hz hk
  obtain ⟨t2, a1, b1⟩ := kk T'.heap (locs ++ L') ls (by rw [e1]; exact hp) ⟨Nat.le_trans hS.1 (by rw [e1]; exact hz), fun q h1 h2 => by rw [e1, hk q (Nat.lt_of_lt_of_le h1 hS.1) h2]; exact hS.2.1 q h1 h2, fun q hq => by
    rcases List.mem_append.mp hq with h | h
    · exact hS.2.2 q h
    · exact hL q h⟩ hl T' rfl X'
  exact ⟨t2, hst t2 a1, b1⟩
theorem wl_callV {ci i ix n nLy d' : Nat} {y : MethodName} {ccy : ByteArray} {ret : Option FieldType} {As rest : List Value} {v : Value} {M' : Mem} (hg : GL Γ K b N xs) (hd : decode cL_law pc = .ok (.invokevirtual ix, 3)) (hp : pc + 3 = q) (hk : LnkV RL ix y ccy nLy ret n) (hdd : d' < 20) (hC : Ct Γ y ccy nLy ret d' (.ref (ad Γ ci i 0) :: As) M (some v) M') (hi : i < nO ci) (hcl : RR ci = y.cls ∧ ci < 6) (hn : As.length = n) (hst : st = As.reverse ++ .ref (ad Γ ci i 0) :: rest) (hcat : (rest.map fun v => v.category).sum ≤ 8) (kk : WL Γ K M' L q (v :: rest)) : WL Γ K M L pc st := by
  subst hp
  intro H locs ls hP hS hl
  obtain ⟨q0, hq0⟩ := mem_at Γ M (mem_keys (j := 0) hcl.2 hi (by decide) rfl)
  have hG := hg.1
  have hrecv := va_recv hG.2.2.2.2.2.1 hP (clW hcl.2) hq0
  refine wl_finC (va_runV (C := y.cls) (As := As) (rest := rest) ⟨hG.1, hG.2.1, hG.2.2.1, hG.2.2.2.1, hG.2.2.2.2.1⟩ hC (cwV n hG.2.2.2.2.1 hk.1 rfl rfl rfl ⟨rfl, hk.2.1⟩ (roomR hG hdd hk.2.2)) ⟨hw_blind Γ M _, ?_, fun U hU hW => ⟨rfl, hw_at hG hP hS hU hW⟩⟩ rfl hn (by rw [← hG.2.2.1]; exact hl.1) hst (lv_room hcat) hd ⟨hg.2.1.1, hg.2.1.2⟩) hS hl kk
  rw [← hcl.1]
  exact hrecv
theorem wl_callR {R : OV} {Q : OV → Prop} {ci i ix n nLy d' : Nat} {y : MethodName} {ccy : ByteArray} {ret : Option FieldType} {As rest : List Value} {v : Value} (hg : GL Γ K b N xs) (hd : decode cL_law pc = .ok (.invokevirtual ix, 3)) (hp : pc + 3 = q) (hk : LnkV RL ix y ccy nLy ret n) (hdd : d' < 20) (hC : CtR Γ y ccy nLy ret d' (.ref (ad Γ ci i 0) :: As) M R (some v) Q) (hi : i < nO ci) (hcl : RR ci = y.cls ∧ ci < 6) (hn : As.length = n) (hst : st = As.reverse ++ .ref (ad Γ ci i 0) :: rest) (hcat : (rest.map fun v => v.category).sum ≤ 8) (kk : ∀ R', Q R' → WL Γ K (sR M R') L q (v :: rest)) : WL Γ K (sR M R) L pc st := by
  subst hp
  intro H locs ls hP hS hl
  obtain ⟨q0, hq0⟩ := mem_at Γ (sR M R) (mem_keys (j := 0) hcl.2 hi (by decide) rfl)
  have hG := hg.1
  have hrecv := va_recv hG.2.2.2.2.2.1 hP (clW hcl.2) hq0
  refine wl_fin (va_runV (C := y.cls) (As := As) (rest := rest) ⟨hG.1, hG.2.1, hG.2.2.1, hG.2.2.2.1, hG.2.2.2.2.1⟩ hC (cwV n hG.2.2.2.2.1 hk.1 rfl rfl rfl ⟨rfl, hk.2.1⟩ (roomR hG hdd hk.2.2)) ⟨hw_blind Γ (sR M R) _, ?_, fun U hU hW => ⟨rfl, hw_at hG hP hS hU hW⟩⟩ rfl hn (by rw [← hG.2.2.1]; exact hl.1) hst (lv_room hcat) hd ⟨hg.2.1.1, hg.2.1.2⟩) hS hl (fun M' ⟨R', e, hQ⟩ => wl_mem e (kk R' hQ))
  rw [← hcl.1]
  exact hrecv
end LRows
theorem sR_k5 {M M1 : Mem} (h : K5 M M1) : M1 = sR M1 (M.1 5 0) := by
  unfold sR
  rw [← h]
  exact (sO_self M1 5 0).symm
theorem RI_end {N : Mem} {R : OV} (h : RI N R) : RI (sR N R) ((sR N R).1 5 0) := by
  rw [sR_o]
  exact RI_sR h R
