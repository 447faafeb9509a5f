/-! ===== the reference's walk: the memory with its object R ===== -/
def sR (M : Mem) (R : OV) : Mem := sO M 5 0 R
theorem sR_o (M : Mem) (R : OV) : (sR M R).1 5 0 = R := sO_same _ _ _ _
theorem sR_sR (M : Mem) (R S : OV) : sR (sR M R) S = sR M S := sO_sO _ _ _ _ _
def CtR (Γ : GT) (y : MethodName) (cc : ByteArray) (nL : Nat) (ret : Option FieldType) (d : Nat) (args : List Value) (M : Mem) (R : OV) (o : Option Value) (Q : OV → Prop) : Prop := CtP Γ y cc nL ret d args (sR M R) o (fun M' => ∃ R', M' = sR M R' ∧ Q R')
section RRows
variable {Γ : GT} {K : KT} {cc : ByteArray} {own : String} {nL d : Nat} {M : Mem} {R : OV} {L : List (Nat × Value)} {pc q : Nat} {st : List Value} {Q : OV → Prop}
theorem wm_rload {s : Nat} {x : Int32} (t : Nat) (hg : Gd Γ K cc own nL d) (hd : decode cc pc = .ok (.iaload, 1)) (hp : pc + 1 = q) (h : isA 5 s = true) (hx : x = nI t) (ht : t < alen 5 s) (kk : WM Γ K (sR M R) L q (.int (R.2 s t) :: st)) : WM Γ K (sR M R) L pc (.int x :: .ref (ad Γ 5 0 (s + 1)) :: st) := by
  refine wm_iaload t hg hd hp (by decide) h hx ht ?_
  rw [sR_o]
  exact kk
theorem wm_rstore {s : Nat} {x v : Int32} (t : Nat) (hg : Gd Γ K cc own nL d) (hd : decode cc pc = .ok (.iastore, 1)) (hp : pc + 1 = q) (h : isA 5 s = true) (hx : x = nI t) (ht : t < alen 5 s) (kk : WM Γ K (sR M (oA R s (upd (R.2 s) t v))) L q st) : WM Γ K (sR M R) L pc (.int v :: .int x :: .ref (ad Γ 5 0 (s + 1)) :: st) := by
  refine wm_iastore t hg hd hp (by decide) h hx ht ?_
  rw [sA, sR_o]
  exact wm_mem (sR_sR M R _) kk
theorem wm_rget {j ix : Nat} (hg : Gd Γ K cc own nL d) (hd : decode cc pc = .ok (.getfield ix, 3)) (hp : pc + 3 = q) (hf : FL own ix 5 j) (h : isI 5 j = true) (kk : WM Γ K (sR M R) L q (.int (R.1 j) :: st)) : WM Γ K (sR M R) L pc (.ref (ad Γ 5 0 0) :: st) := by
  refine wm_get (v := .int (R.1 j)) hg hd hp hf (by decide) ?_ kk
  have e := sR_o M R
  simp only [isI, Bool.or_eq_true, Nat.beq_eq] at h
  rcases h with (((((((((rfl | rfl) | rfl) | rfl) | rfl) | rfl) | rfl) | rfl) | rfl) | rfl) | rfl <;> simp [flds, e]
theorem wm_rput {j ix : Nat} {v : Int32} (hg : Gd Γ K cc own nL d) (hd : decode cc pc = .ok (.putfield ix, 3)) (hp : pc + 3 = q) (hf : FL own ix 5 j) (h : isI 5 j = true) (kk : WM Γ K (sR M (oI R j v)) L q st) : WM Γ K (sR M R) L pc (.int v :: .ref (ad Γ 5 0 0) :: st) := by
  refine wm_put hg hd hp hf (by decide) h ?_
  rw [sI, sR_o]
  exact wm_mem (sR_sR M R _) kk
/-- another way to write the object -/
theorem wm_R {R' : OV} (h : R = R') (kk : WM Γ K (sR M R') L pc st) : WM Γ K (sR M R) L pc st := h ▸ kk
theorem ctr_of {y : MethodName} {cc : ByteArray} {nL : Nat} {ret : Option FieldType} {d : Nat} {args : List Value} {o : Option Value} (hy : plainName y.cls = true) (hsz : (lg_sl args).length ≤ nL)
    (body : ∀ K : KT, Gd Γ K cc y.cls nL d → RKP Γ K ret o (fun M' => ∃ R', M' = sR M R' ∧ Q R') → WM Γ K (sR M R) (lv_args 0 args) 0 []) : CtR Γ y cc nL ret d args M R o Q := ctp_of hy hsz body
theorem wm_irret {v r : Int32} (hg : Gd Γ K cc own nL d) (hr : RKP Γ K (some .int) (some (.int r)) (fun M' => ∃ R', M' = sR M R' ∧ Q R')) (hd : decode cc pc = .ok (.ireturn, 1)) (hv : v = r) (hQ : Q R) : WM Γ K (sR M R) L pc [.int v] := wm_ipret hg hr hd hv ⟨R, rfl, hQ⟩
theorem wm_zrret {v r : Int32} (hg : Gd Γ K cc own nL d) (hr : RKP Γ K (some .boolean) (some (.int r)) (fun M' => ∃ R', M' = sR M R' ∧ Q R')) (hd : decode cc pc = .ok (.ireturn, 1)) (hv : v = r) (hQ : Q R) (hz : v = 0 ∨ v = 1) : WM Γ K (sR M R) L pc [.int v] := wm_zpret hg hr hd hv ⟨R, rfl, hQ⟩ hz
theorem wm_vrret (hg : Gd Γ K cc own nL d) (hr : RKP Γ K none none (fun M' => ∃ R', M' = sR M R' ∧ Q R')) (hd : decode cc pc = .ok (.return_, 1)) (hQ : Q R) : WM Γ K (sR M R) L pc [] := wm_vpret hg hr hd ⟨R, rfl, hQ⟩
theorem wm_callR1 {ci i ix n nLy d' : Nat} {y : MethodName} {ccy : ByteArray} {ret : Option FieldType} {As rest : List Value} {v : Value} (hg : Gd Γ K cc own nL d) (hd : decode cc pc = .ok (.invokevirtual ix, 3)) (hp : pc + 3 = q) (hk : LnkV own ix y ccy nLy ret n) (hdd : d' < d) (hC : CtR Γ y ccy nLy ret d' (.ref (ad Γ ci i 0) :: As) M R (some v) Q) (hi : i < nO ci) (hcl : RR ci = y.cls ∧ ci < 6) (hn : As.length = n) (hst : st = As.reverse ++ .ref (ad Γ ci i 0) :: rest) (hcat : (rest.map fun v => v.category).sum ≤ 8) (kk : ∀ R', Q R' → WM Γ K (sR M R') L q (v :: rest)) : WM Γ K (sR M R) L pc st := wm_callVP1 hg hd hp hk hdd hC hi hcl hn hst hcat (fun M' ⟨R', e, hQ⟩ => wm_mem e (kk R' hQ))
theorem wm_callR0 {ci i ix n nLy d' : Nat} {y : MethodName} {ccy : ByteArray} {ret : Option FieldType} {As rest : List Value} (hg : Gd Γ K cc own nL d) (hd : decode cc pc = .ok (.invokevirtual ix, 3)) (hp : pc + 3 = q) (hk : LnkV own ix y ccy nLy ret n) (hdd : d' < d) (hC : CtR Γ y ccy nLy ret d' (.ref (ad Γ ci i 0) :: As) M R none Q) (hi : i < nO ci) (hcl : RR ci = y.cls ∧ ci < 6) (hn : As.length = n) (hst : st = As.reverse ++ .ref (ad Γ ci i 0) :: rest) (hcat : (rest.map fun v => v.category).sum ≤ 8) (kk : ∀ R', Q R' → WM Γ K (sR M R') L q rest) : WM Γ K (sR M R) L pc st := wm_callVP0 hg hd hp hk hdd hC hi hcl hn hst hcat (fun M' ⟨R', e, hQ⟩ => wm_mem e (kk R' hQ))
end RRows
theorem oA_w (R : OV) (s : Nat) (f : Nat → Int32) : (oA R s f).2 s = f := updA_same _ _ _
theorem oA_oA (R : OV) (s : Nat) (f g : Nat → Int32) : oA (oA R s f) s g = oA R s g := by
  simp only [oA, updA_updA]
theorem oA_self (R : OV) (s : Nat) : oA R s (R.2 s) = R := by
  simp only [oA, updA_self]
