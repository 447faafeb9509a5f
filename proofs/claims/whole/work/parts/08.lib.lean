/-! ===== small rows ===== -/
theorem nadd {x y : Int32} {a b : Nat} (hx : x = nI a) (hy : y = nI b) : x + y = nI (a + b) := by rw [hx, hy]; exact nI_add a b
theorem nmul {x y : Int32} {a b : Nat} (hx : x = nI a) (hy : y = nI b) : x * y = nI (a * b) := by rw [hx, hy]; exact pk_mul a b
theorem nsub {x y : Int32} {a b : Nat} (hx : x = nI a) (hy : y = nI b) (h : b ≤ a) : x - y = nI (a - b) := by rw [hx, hy]; exact pk_sub h
theorem ndec {x : Int32} {a : Nat} (hx : x = nI a) (h : 1 ≤ a) : x + Int32.ofInt (-1) = nI (a - 1) := by
  rw [hx]
  obtain ⟨b, rfl⟩ : ∃ b, a = b + 1 := ⟨a - 1, by omega⟩
  exact pk_m1 b
section Ends
variable {Γ : GT} {K : KT} {cc : ByteArray} {own : String} {nL d : Nat} {M M' : Mem} {L : List (Nat × Value)} {pc : Nat}
theorem wm_iret {v r : Int32} (hg : Gd Γ K cc own nL d) (hr : RK Γ K (some .int) (some (.int r)) M') (hd : decode cc pc = .ok (.ireturn, 1)) (hv : v = r) (hM : M = M') : WM Γ K M L pc [.int v] := by
  subst hv; subst hM
  exact wm_ireturn hg hr hd
theorem wm_zret {v r : Int32} (hg : Gd Γ K cc own nL d) (hr : RK Γ K (some .boolean) (some (.int r)) M') (hd : decode cc pc = .ok (.ireturn, 1)) (hv : v = r) (hM : M = M') (hz : v = 0 ∨ v = 1) : WM Γ K M L pc [.int v] := by
  subst hv; subst hM
  exact wm_zreturn hg hr hz hd
theorem wm_vret (hg : Gd Γ K cc own nL d) (hr : RK Γ K none none M') (hd : decode cc pc = .ok (.return_, 1)) (hM : M = M') : WM Γ K M L pc [] := by
  subst hM
  exact wm_return hg hr hd
theorem wm_fret {v r : UInt32} (hg : Gd Γ K cc own nL d) (hr : RK Γ K (some .float) (some (.float r)) M') (hd : decode cc pc = .ok (.freturn, 1)) (hv : v = r) (hM : M = M') : WM Γ K M L pc [.float v] := by
  subst hv; subst hM
  exact wm_freturn hg hr hd
end Ends
/-! ===== numbers of the class: cosines and pulls ===== -/
def cosI (x : Int32) : Int32 := cosV (x.toBitVec.toNat % 2 ^ 3)
def pull (a b : Int32) : Int32 := 10 * cosI (a - b) - 3 * cosI a * cosI b
theorem lpLe {x : Int32} {N i : Nat} (hx : x = nI N) (hN : N < 2 ^ 31 ∧ i < 2 ^ 31) (h : N ≤ i) : x ≤ nI i := by rw [hx]; exact nI_le h hN.2
theorem lpLt {x : Int32} {N i : Nat} (hx : x = nI N) (hN : N < 2 ^ 31 ∧ i < 2 ^ 31) (h : i < N) : ¬ x ≤ nI i := by rw [hx]; exact nI_ge h hN.1
theorem nI_self {x : Int32} (h : ¬ x < 0) : x = nI x.toNatClampNeg := by
  obtain ⟨j, hj, rfl⟩ := nI_of h
  rw [nI_clamp hj]
theorem clampLt {x y : Int32} {n : Nat} (hy : y = nI n) (hn : n < 2 ^ 31) (h0 : ¬ x < 0) (h : ¬ y ≤ x) : x.toNatClampNeg < n := by
  obtain ⟨j, hj, rfl⟩ := nI_of h0
  rw [nI_clamp hj]
  rw [hy] at h
  rcases Nat.lt_or_ge j n with q | q
  · exact q
  · exact absurd (nI_le q hj) h
/-! ===== chains: pure ===== -/
def szN (X : OV) : Nat := (X.1 0).toNatClampNeg
def ok10 (X : OV) : Prop := X.1 0 = nI (szN X) ∧ szN X ≤ 10
def pOn (X : OV) (a p : Int32) : Int32 := if p < 0 then 0 else if X.1 0 ≤ p then 0 else pull a (X.2 1 p.toNatClampNeg)
def pof (X : OV) (a : Int32) : Int32 := -(X.1 6) * cosI (a - X.1 7) * 10
def part (X : OV) (i a : Int32) : Int32 := X.1 4 * (pOn X a (i - 1) + pOn X a (i + 1)) + X.1 4 / 8 * (pOn X a (i - 2) + pOn X a (i + 2)) + pof X a
def freed (X : OV) (t : Nat) (d : Int32) : Int32 := part X (nI t) (X.2 1 t) - part X (nI t) (X.2 1 t + d)
def pNb (X : OV) (t : Nat) : Int32 := X.1 4 * (pOn X (X.2 1 t) (nI t - 1) + pOn X (X.2 1 t) (nI t + 1))
def enS (X : OV) : Nat → Int32
  | 0 => 0
  | i + 1 => enS X i + (X.1 4 * pOn X (X.2 1 i) (nI i + 1) + X.1 4 / 8 * pOn X (X.2 1 i) (nI i + 2) + pof X (X.2 1 i))
def energy (X : OV) : Int32 := enS X (szN X)
def ptS (X : OV) (s : Int32) : Nat → Int32
  | 0 => 0
  | i + 1 => ptS X s i + cosI (X.2 1 i - s)
def waS (X : OV) : Nat → Int32
  | 0 => 0
  | i + 1 => waS X i + (if X.2 1 i = X.2 1 (i + 1) then 0 else 1)
def gmS (X : OV) : Nat → Int32
  | 0 => 0
  | i + 1 => gmS X i + (if X.2 3 i = -1000000009 then 0 else if X.2 3 i = X.2 1 i then 0 else 1)
def heS (X : OV) : Nat → Int32
  | 0 => 0
  | i + 1 => heS X i + X.2 2 i
def dfS (X Y : OV) : Nat → Int32
  | 0 => 0
  | i + 1 => dfS X Y i + (if X.2 1 i = Y.2 1 i then 0 else 1)
