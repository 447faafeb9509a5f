/-! ===== calls ===== -/
def LnkV (own : String) (ix : Nat) (y : MethodName) (cc : ByteArray) (nL : Nat) (ret : Option FieldType) (n : Nat) : Prop := GoodIn wsL_law (wsV own ix y.cls y (Cond.code y cc nL ret :: wsL_law)) ∧ (y.cls ≠ "java/lang/invoke/MethodHandle" ∧ y.cls ≠ "java/lang/invoke/VarHandle" ∧ (parseMethodDescriptor y.desc).map (fun d => d.parameters.length) = some n) ∧ nL ≤ 45
def LnkS (own : String) (ix : Nat) (y : MethodName) (cc : ByteArray) (nL : Nat) (ret : Option FieldType) (n : Nat) : Prop := GoodIn wsL_law (va_wsS own ix y (Cond.code y cc nL ret :: wsL_law)) ∧ (y.cls ≠ "java/lang/invoke/MethodHandle" ∧ y.cls ≠ "java/lang/invoke/VarHandle" ∧ (parseMethodDescriptor y.desc).map (fun d => d.parameters.length) = some n) ∧ nL ≤ 45
/-- a static method of a nest mate: the link itself is a fact of the state -/
def LnkN (y : MethodName) (cc : ByteArray) (nL : Nat) (ret : Option FieldType) (n : Nat) : Prop := GoodIn wsL_law (Cond.code y cc nL ret :: wsL_law) ∧ (Cond.initialized y.cls ∈ wsL_law ∧ Cond.static y ∈ wsL_law) ∧ (y.cls ≠ "java/lang/invoke/MethodHandle" ∧ y.cls ≠ "java/lang/invoke/VarHandle" ∧ (parseMethodDescriptor y.desc).map (fun d => d.parameters.length) = some n) ∧ nL ≤ 45
theorem wsAll : GoodIn wsL_law wsL_law := goodIn_sub (fun _ h => h) (by decide +kernel)
theorem lnkV_of {own : String} {ix : Nat} {y : MethodName} {cc : ByteArray} {nL : Nat} {ret : Option FieldType} {n : Nat} (h1 : ([.methodLink own ix y, .instanceMethod y, .selects y.cls y y, .initialized y.cls, .code y cc nL ret] : List Cond).all (fun w => decide (w ∈ wsL_law) && goodWord w) = true) (h2 : (y.cls ≠ "java/lang/invoke/MethodHandle" ∧ y.cls ≠ "java/lang/invoke/VarHandle" ∧ (parseMethodDescriptor y.desc).map (fun d => d.parameters.length) = some n) ∧ nL ≤ 45) : LnkV own ix y cc nL ret n := by
  have h := goodIn_of _ h1
  exact ⟨fun w hw => by
    unfold wsV at hw
    rcases List.mem_append.mp hw with hw | hw
    · exact h w (show w ∈ ([Cond.methodLink own ix y, Cond.instanceMethod y, Cond.selects y.cls y y, Cond.initialized y.cls] : List Cond) ++ [Cond.code y cc nL ret] from List.mem_append_left _ hw)
    · rcases List.mem_cons.mp hw with rfl | hw
      · exact h _ (show _ ∈ ([Cond.methodLink own ix y, Cond.instanceMethod y, Cond.selects y.cls y y, Cond.initialized y.cls] : List Cond) ++ [Cond.code y cc nL ret] from List.mem_append_right _ List.mem_cons_self)
      · exact wsAll w hw, h2⟩
theorem lnkS_of {own : String} {ix : Nat} {y : MethodName} {cc : ByteArray} {nL : Nat} {ret : Option FieldType} {n : Nat} (h1 : ([.methodLink own ix y, .static y, .initialized y.cls, .code y cc nL ret] : List Cond).all (fun w => decide (w ∈ wsL_law) && goodWord w) = true) (h2 : (y.cls ≠ "java/lang/invoke/MethodHandle" ∧ y.cls ≠ "java/lang/invoke/VarHandle" ∧ (parseMethodDescriptor y.desc).map (fun d => d.parameters.length) = some n) ∧ nL ≤ 45) : LnkS own ix y cc nL ret n := by
  have h := goodIn_of _ h1
  exact ⟨fun w hw => by
    unfold va_wsS at hw
    rcases List.mem_append.mp hw with hw | hw
    · exact h w (show w ∈ ([Cond.methodLink own ix y, Cond.static y, Cond.initialized y.cls] : List Cond) ++ [Cond.code y cc nL ret] from List.mem_append_left _ hw)
    · rcases List.mem_cons.mp hw with rfl | hw
      · exact h _ (show _ ∈ ([Cond.methodLink own ix y, Cond.static y, Cond.initialized y.cls] : List Cond) ++ [Cond.code y cc nL ret] from List.mem_append_right _ List.mem_cons_self)
      · exact wsAll w hw, h2⟩
theorem lnkN_of {y : MethodName} {cc : ByteArray} {nL : Nat} {ret : Option FieldType} {n : Nat} (h1 : ([.static y, .initialized y.cls, .code y cc nL ret] : List Cond).all (fun w => decide (w ∈ wsL_law) && goodWord w) = true) (h2 : (y.cls ≠ "java/lang/invoke/MethodHandle" ∧ y.cls ≠ "java/lang/invoke/VarHandle" ∧ (parseMethodDescriptor y.desc).map (fun d => d.parameters.length) = some n) ∧ nL ≤ 45) : LnkN y cc nL ret n := by
  have h := goodIn_of _ h1
  exact ⟨fun w hw => by
    rcases List.mem_cons.mp hw with rfl | hw
    · exact h _ (List.mem_cons_of_mem _ (List.mem_cons_of_mem _ List.mem_cons_self))
    · exact wsAll w hw, ⟨(h _ (List.mem_cons_of_mem _ List.mem_cons_self)).1, (h _ List.mem_cons_self).1⟩, h2⟩
section Calls2
variable {Γ : GT} {K : KT} {cc : ByteArray} {own : String} {nL d : Nat} {M : Mem} {L : List (Nat × Value)} {pc q : Nat} {st : List Value}
theorem wm_fin {H : Heap} {locs : List Loc} {ls : Array Slot} {o : Option Value} {M' : Mem} {rest : List Value} {a : Array Value} (hr : va_Run (kP K) Γ.1 (kE K) (kR K) (kS K) (kM K) (kArgs K) (kB K) (kMeth K) (kC K) H locs 0 0 0 0 (F0 (kM K) pc ls st) rest (QC Γ o M' a) (gA Γ)) (hS : va_S (gA Γ) (kS K).heap H locs) (hl : lv_has ls (kC K).maxLocals L)
    (kk : WM Γ K M' L (pc + 3) (o.toList ++ rest)) : W (kP K) Γ.1 (kE K) (kR K) (kS K) (kM K) (kArgs K) (kB K) (kMeth K) (kC K) H locs 0 0 (kQ K) (F0 (kM K) pc ls st) := by
  intro T hT X
  obtain ⟨v, st₀, t, T', L', h0, X', hL, e1, e2, ⟨⟨hv, hp⟩, hz, hk⟩, hst⟩ := hr T hT X
  cases hv
  rw [h0] at hz hk
  obtain ⟨t2, a1, b1⟩ := kk T'.heap (locs ++ L') ls (by rw [e1]; exact hp) ⟨Nat.le_trans hS.1 (by rw [e1]; exact hz), fun q h1 h2 => by rw [e1, hk q (Nat.lt_of_lt_of_le h1 hS.1) h2]; exact hS.2.1 q h1 h2, fun q hq => by
    rcases List.mem_append.mp hq with h | h
    · exact hS.2.2 q h
    · exact hL q h⟩ hl T' rfl X'
  exact ⟨t2, hst t2 a1, b1⟩
theorem hw_at {H : Heap} {locs : List Loc} (hg : Gd Γ K cc own nL d) (hP : va_P Γ.2.1 vwCl (mem Γ M) H) (hS : va_S (gA Γ) (kS K).heap H locs) {U : State} (hU : U.heap = H) (hW : (kS K).WarmedH U.vm) : HW Γ M U := by
  obtain ⟨-, -, -, -, -, hK, hG, hN, hC, -⟩ := hg
  refine ⟨hG, by rw [hU]; exact hP, va_K.moved hW.alike hK, NWF.warm hW hN, ?_, ?_⟩
  · rw [hU]
    exact va_Z.moved hW.alike (hC.1.kept hS.2.1)
  · rw [hU]
    exact va_T.moved hW.alike (hC.2.kept hS.2.1)
theorem hw_blind (Γ : GT) (M : Mem) (av : List Value) : FrameBlind (va_Pc av (HW Γ M)) := fun a U g mk h => ⟨h.1, HW.blind Γ M a U g mk h.2⟩
theorem roomR {nLy d' : Nat} (hg : Gd Γ K cc own nL d) (hdd : d' < d) (h : nLy ≤ 45) : (rmd d').frames + 1 ≤ (kR K).frames ∧ 8 + (nLy + 11) + (rmd d').locals ≤ (kR K).locals := by
  have h1 := hg.2.2.2.2.2.2.2.2.2
  refine ⟨?_, ?_⟩
  · show d' + 1 ≤ _
    omega
  · show 8 + (nLy + 11) + 64 * d' ≤ _
    omega
theorem wm_callV {ci i ix n nLy d' : Nat} {y : MethodName} {ccy : ByteArray} {ret : Option FieldType} {As rest : List Value} {o : Option Value} {M' : Mem} (hg : Gd Γ K cc own nL d) (hd : decode cc pc = .ok (.invokevirtual ix, 3)) (hp : pc + 3 = q) (hk : LnkV own ix y ccy nLy ret n) (hdd : d' < d) (hC : Ct Γ y ccy nLy ret d' (.ref (ad Γ ci i 0) :: As) M o M') (hi : i < nO ci) (hcl : RR ci = y.cls ∧ ci < 6) (hn : As.length = n) (hst : st = As.reverse ++ .ref (ad Γ ci i 0) :: rest) (hcat : (rest.map fun v => v.category).sum ≤ 8) (kk : WM Γ K M' L q (o.toList ++ rest)) : WM Γ K M L pc st := by
  subst hp
  intro H locs ls hP hS hl
  obtain ⟨q0, hq0⟩ := mem_at Γ M (mem_keys (j := 0) hcl.2 hi (by decide) rfl)
  have hrecv := va_recv hg.2.2.2.2.2.1 hP (clW hcl.2) hq0
  refine wm_fin (va_runV (C := y.cls) (As := As) (rest := rest) ⟨hg.1, hg.2.1, hg.2.2.1, hg.2.2.2.1, hg.2.2.2.2.1⟩ hC (cwV n hg.2.2.2.2.1 hk.1 rfl rfl rfl ⟨rfl, hk.2.1⟩ (roomR hg hdd hk.2.2)) ⟨hw_blind Γ M _, ?_, fun U hU hW => ⟨rfl, hw_at hg hP hS hU hW⟩⟩ rfl hn (by rw [← hg.2.2.1]; exact hl.1) hst (lv_room hcat) hd ⟨Nat.zero_le _, Nat.zero_le _⟩) hS hl kk
  rw [← hcl.1]
  exact hrecv
theorem wm_callS {ix n nLy d' : Nat} {y : MethodName} {ccy : ByteArray} {ret : Option FieldType} {As rest : List Value} {o : Option Value} {M' : Mem} (hg : Gd Γ K cc own nL d) (hd : decode cc pc = .ok (.invokestatic ix, 3)) (hp : pc + 3 = q) (hk : LnkS own ix y ccy nLy ret n) (hdd : d' < d) (hC : Ct Γ y ccy nLy ret d' As M o M') (hn : As.length = n) (hst : st = As.reverse ++ rest) (hcat : (rest.map fun v => v.category).sum ≤ 8) (kk : WM Γ K M' L q (o.toList ++ rest)) : WM Γ K M L pc st := by
  subst hp
  intro H locs ls hP hS hl
  exact wm_fin (va_runS (As := As) (rest := rest) ⟨hg.1, hg.2.1, hg.2.2.1, hg.2.2.2.1, hg.2.2.2.2.1⟩ hC (va_cwS n hg.2.2.2.2.1 hk.1 rfl rfl rfl hk.2.1 (roomR hg hdd hk.2.2)) ⟨hw_blind Γ M _, fun U hU hW => ⟨rfl, hw_at hg hP hS hU hW⟩⟩ rfl hn (by rw [← hg.2.2.1]; exact hl.1) hst (lv_room hcat) hd ⟨Nat.zero_le _, Nat.zero_le _⟩) hS hl kk
theorem wm_callN {ix n nLy d' : Nat} {y : MethodName} {ccy : ByteArray} {ret : Option FieldType} {As rest : List Value} {o : Option Value} {M' : Mem} (hg : Gd Γ K cc own nL d) (hd : decode cc pc = .ok (.invokestatic ix, 3)) (hp : pc + 3 = q) (hk : LnkN y ccy nLy ret n) (hnw : NWF (kS K) → va_Nw (.methodLinkNest own ix y RX4) (kS K)) (hdd : d' < d) (hC : Ct Γ y ccy nLy ret d' As M o M') (hn : As.length = n) (hst : st = As.reverse ++ rest) (hcat : (rest.map fun v => v.category).sum ≤ 8) (kk : WM Γ K M' L q (o.toList ++ rest)) : WM Γ K M L pc st := by
  subst hp
  intro H locs ls hP hS hl
  have ht := hg.2.2.2.2.1
  exact wm_fin (va_runSN (As := As) (rest := rest) ⟨hg.1, hg.2.1, hg.2.2.1, hg.2.2.2.1, hg.2.2.2.2.1⟩ hC ⟨va_cnB n ht hk.1 rfl rfl rfl (hnw hg.2.2.2.2.2.2.2.1) (ht _ hk.2.1.1) hk.2.2.1 (roomR hg hdd hk.2.2.2), ht _ hk.2.1.2, trivial⟩ ⟨hw_blind Γ M _, fun U hU hW => ⟨rfl, hw_at hg hP hS hU hW⟩⟩ rfl hn (by rw [← hg.2.2.1]; exact hl.1) hst (lv_room hcat) hd ⟨Nat.zero_le _, Nat.zero_le _⟩) hS hl kk
/-- the same, by what comes back: a value .. -/
theorem wm_callV1 {ci i ix n nLy d' : Nat} {y : MethodName} {ccy : ByteArray} {ret : Option FieldType} {As rest : List Value} {v : Value} {M' : Mem} (hg : Gd Γ K cc own nL d) (hd : decode cc pc = .ok (.invokevirtual ix, 3)) (hp : pc + 3 = q) (hk : LnkV own ix y ccy nLy ret n) (hdd : d' < d) (hC : Ct Γ y ccy nLy ret d' (.ref (ad Γ ci i 0) :: As) M (some v) M') (hi : i < nO ci) (hcl : RR ci = y.cls ∧ ci < 6) (hn : As.length = n) (hst : st = As.reverse ++ .ref (ad Γ ci i 0) :: rest) (hcat : (rest.map fun v => v.category).sum ≤ 8) (kk : WM Γ K M' L q (v :: rest)) : WM Γ K M L pc st := wm_callV hg hd hp hk hdd hC hi hcl hn hst hcat kk
theorem wm_callS1 {ix n nLy d' : Nat} {y : MethodName} {ccy : ByteArray} {ret : Option FieldType} {As rest : List Value} {v : Value} {M' : Mem} (hg : Gd Γ K cc own nL d) (hd : decode cc pc = .ok (.invokestatic ix, 3)) (hp : pc + 3 = q) (hk : LnkS own ix y ccy nLy ret n) (hdd : d' < d) (hC : Ct Γ y ccy nLy ret d' As M (some v) M') (hn : As.length = n) (hst : st = As.reverse ++ rest) (hcat : (rest.map fun v => v.category).sum ≤ 8) (kk : WM Γ K M' L q (v :: rest)) : WM Γ K M L pc st := wm_callS hg hd hp hk hdd hC hn hst hcat kk
theorem wm_callN1 {ix n nLy d' : Nat} {y : MethodName} {ccy : ByteArray} {ret : Option FieldType} {As rest : List Value} {v : Value} {M' : Mem} (hg : Gd Γ K cc own nL d) (hd : decode cc pc = .ok (.invokestatic ix, 3)) (hp : pc + 3 = q) (hk : LnkN y ccy nLy ret n) (hnw : NWF (kS K) → va_Nw (.methodLinkNest own ix y RX4) (kS K)) (hdd : d' < d) (hC : Ct Γ y ccy nLy ret d' As M (some v) M') (hn : As.length = n) (hst : st = As.reverse ++ rest) (hcat : (rest.map fun v => v.category).sum ≤ 8) (kk : WM Γ K M' L q (v :: rest)) : WM Γ K M L pc st := wm_callN hg hd hp hk hnw hdd hC hn hst hcat kk
/-- .. or none -/
theorem wm_callV0 {ci i ix n nLy d' : Nat} {y : MethodName} {ccy : ByteArray} {ret : Option FieldType} {As rest : List Value} {M' : Mem} (hg : Gd Γ K cc own nL d) (hd : decode cc pc = .ok (.invokevirtual ix, 3)) (hp : pc + 3 = q) (hk : LnkV own ix y ccy nLy ret n) (hdd : d' < d) (hC : Ct Γ y ccy nLy ret d' (.ref (ad Γ ci i 0) :: As) M none M') (hi : i < nO ci) (hcl : RR ci = y.cls ∧ ci < 6) (hn : As.length = n) (hst : st = As.reverse ++ .ref (ad Γ ci i 0) :: rest) (hcat : (rest.map fun v => v.category).sum ≤ 8) (kk : WM Γ K M' L q rest) : WM Γ K M L pc st := wm_callV hg hd hp hk hdd hC hi hcl hn hst hcat kk
theorem wm_callS0 {ix n nLy d' : Nat} {y : MethodName} {ccy : ByteArray} {ret : Option FieldType} {As rest : List Value} {M' : Mem} (hg : Gd Γ K cc own nL d) (hd : decode cc pc = .ok (.invokestatic ix, 3)) (hp : pc + 3 = q) (hk : LnkS own ix y ccy nLy ret n) (hdd : d' < d) (hC : Ct Γ y ccy nLy ret d' As M none M') (hn : As.length = n) (hst : st = As.reverse ++ rest) (hcat : (rest.map fun v => v.category).sum ≤ 8) (kk : WM Γ K M' L q rest) : WM Γ K M L pc st := wm_callS hg hd hp hk hdd hC hn hst hcat kk
theorem wsMxS : Cond.static Lib.Math.max.name ∈ wsL_law := by decide +kernel
theorem wsMxI : Cond.initialized "java/lang/Math" ∈ wsL_law := by decide +kernel
theorem wsMxC : Cond.code Lib.Math.max.name Lib.Math.max.code 2 (some .int) ∈ wsL_law := by decide +kernel
theorem wm_max {x y : Int32} {ix : Nat} (hg : Gd Γ K cc own nL d) (hd : decode cc pc = .ok (.invokestatic ix, 3)) (hp : pc + 3 = q) (hw : Cond.methodLink own ix Lib.Math.max.name ∈ wsL_law) (hdd : 1 ≤ d) (hcat : (st.map fun v => v.category).sum ≤ 8) (kk : WM Γ K M L q (.int (if x < y then y else x) :: st)) : WM Γ K M L pc (.int y :: .int x :: st) := by
  subst hp
  intro H locs ls hP hS hl
  have ht := hg.2.2.2.2.1
  have hr := hg.2.2.2.2.2.2.2.2.2
  exact va_mmax hg.1 hg.2.1 (by rw [hl.1]) hg.2.2.2.1 (ht _ hw) (ht _ wsMxS) (ht _ wsMxI) (ht _ wsMxC) (by omega) (by omega) (Nat.zero_le _) (Nat.zero_le _) hd (kk H locs ls hP hS hl)
end Calls2
