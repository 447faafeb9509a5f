/-! ===== the memory of class and reference: objects by (class, number), each with ints by slot and int arrays by slot ===== -/
abbrev OV : Type := (Nat → Int32) × (Nat → Nat → Int32)
abbrev Mem : Type := (Nat → Nat → OV) × (Nat → Nat)
/-- what stays the same over a run: the launch, the classes, the array classes (int, boolean, State, Chain), the addresses, where the world begins, the table's address -/
abbrev GT : Type := Launch × va_G × (ClassId × ClassId × ClassId × ClassId) × (Nat → Nat → Nat → Nat) × Nat × Nat
def ad (Γ : GT) (ci i j : Nat) : Nat := Γ.2.2.2.1 ci i j
def gA (Γ : GT) : Nat → Prop := fun q => Γ.2.2.2.2.1 ≤ q
def tys (Γ : GT) : List (ClassId × FieldType) := [(Γ.2.2.1.1, .int), (Γ.2.2.1.2.1, .boolean), (Γ.2.2.1.2.2.1, .object RX2), (Γ.2.2.1.2.2.2, .object RX1)]
def alen (ci s : Nat) : Nat := match ci with
  | 0 => 30
  | 1 => 10
  | 3 => 40
  | _ => match s with
    | 0 => 130
    | 1 => 1040
    | 3 => 260
    | 4 => 2
    | 5 => 40
    | 9 => 130
    | 14 => 30
    | 15 => 3
    | _ => 10
/-- how many objects of a class -/
abbrev nO (ci : Nat) : Nat := match ci with
  | 0 => 11
  | 1 => 15
  | 2 => 11
  | _ => 1
/-- which slots of a class are int arrays -/
def isA (ci s : Nat) : Bool := match ci with
  | 0 => Nat.beq s 5 || Nat.beq s 6 || Nat.beq s 7
  | 1 => Nat.beq s 1 || Nat.beq s 2 || Nat.beq s 3
  | 3 => Nat.beq s 0
  | 5 => Nat.beq s 0 || Nat.beq s 1 || Nat.beq s 3 || Nat.beq s 4 || Nat.beq s 5 || Nat.beq s 9 || Nat.beq s 14 || Nat.beq s 15 || Nat.beq s 16 || Nat.beq s 17
  | _ => false
/-- which slots of a class are ints -/
def isI (ci s : Nat) : Bool := match ci with
  | 0 => Nat.blt s 5
  | 1 => Nat.beq s 0 || Nat.beq s 4 || Nat.beq s 5 || Nat.beq s 6 || Nat.beq s 7
  | 3 => Nat.beq s 1 || Nat.beq s 2 || Nat.beq s 3
  | 4 => Nat.beq s 2
  | 5 => Nat.beq s 2 || Nat.beq s 6 || Nat.beq s 7 || Nat.beq s 8 || Nat.beq s 10 || Nat.beq s 11 || Nat.beq s 12 || Nat.beq s 13 || Nat.beq s 18 || Nat.beq s 19 || Nat.beq s 20
  | _ => false
/-- which slots of the main object are arrays of another kind -/
def isR (ci s : Nat) : Bool := Nat.beq ci 4 && (Nat.beq s 1 || Nat.beq s 3 || Nat.beq s 4 || Nat.beq s 6)
def okJ (ci j : Nat) : Bool := match j with
  | 0 => true
  | s + 1 => isA ci s || isR ci s
def keys : List (Nat × Nat × Nat) := (List.range 6).flatMap fun ci => (List.range (nO ci)).flatMap fun i => ((List.range 19).filter (okJ ci)).map fun j => (ci, i, j)
theorem mem_keys {ci i j : Nat} (h1 : ci < 6) (h2 : i < nO ci) (h3 : j < 19) (h4 : okJ ci j = true) : (ci, i, j) ∈ keys := by
  unfold keys
  refine List.mem_flatMap.mpr ⟨ci, List.mem_range.mpr h1, List.mem_flatMap.mpr ⟨i, List.mem_range.mpr h2, List.mem_map.mpr ⟨j, List.mem_filter.mpr ⟨List.mem_range.mpr h3, h4⟩, rfl⟩⟩⟩
theorem keys_nodup : keys.Nodup := by decide +kernel
def flds (Γ : GT) (M : Mem) (ci i : Nat) : List Value := match ci with
  | 0 => [.int ((M.1 0 i).1 0), .int ((M.1 0 i).1 1), .int ((M.1 0 i).1 2), .int ((M.1 0 i).1 3), .int ((M.1 0 i).1 4), .ref (ad Γ 0 i 6), .ref (ad Γ 0 i 7), .ref (ad Γ 0 i 8)]
  | 1 => [.int ((M.1 1 i).1 0), .ref (ad Γ 1 i 2), .ref (ad Γ 1 i 3), .ref (ad Γ 1 i 4), .int ((M.1 1 i).1 4), .int ((M.1 1 i).1 5), .int ((M.1 1 i).1 6), .int ((M.1 1 i).1 7)]
  | 2 => [.ref (ad Γ 1 i 0), .ref (ad Γ 0 i 0)]
  | 3 => [.ref (ad Γ 3 i 1), .int ((M.1 3 i).1 1), .int ((M.1 3 i).1 2), .int ((M.1 3 i).1 3)]
  | 4 => [.ref (ad Γ 2 0 0), .ref (ad Γ 4 i 2), .int ((M.1 4 i).1 2), .ref (ad Γ 4 i 4), .ref (ad Γ 4 i 5), .ref (ad Γ 3 0 0), .ref (ad Γ 4 i 7)]
  | ci => [.ref (ad Γ ci i 1), .ref (ad Γ ci i 2), .int ((M.1 ci i).1 2), .ref (ad Γ ci i 4), .ref (ad Γ ci i 5), .ref (ad Γ ci i 6), .int ((M.1 ci i).1 6), .int ((M.1 ci i).1 7), .int ((M.1 ci i).1 8), .ref (ad Γ ci i 10), .int ((M.1 ci i).1 10), .int ((M.1 ci i).1 11), .int ((M.1 ci i).1 12), .int ((M.1 ci i).1 13), .ref (ad Γ ci i 15), .ref (ad Γ ci i 16), .ref (ad Γ ci i 17), .ref (ad Γ ci i 18), .int ((M.1 ci i).1 18), .int ((M.1 ci i).1 19), .int ((M.1 ci i).1 20)]
def acell (Γ : GT) (M : Mem) (ci i s : Nat) : va_E := match ci with
  | 4 => (match s with
    | 1 => .inl (Γ.2.2.1.2.2.1, 8, .inr (.inr (.inr (.inr (fun k => some (ad Γ 2 (M.2 k) 0))))))
    | 3 => .inl (Γ.2.2.1.2.2.1, 2, .inr (.inr (.inr (.inr (fun k => some (ad Γ 2 (9 + k) 0))))))
    | 4 => .inl (Γ.2.2.1.2.1, 2, .inl ((M.1 4 i).2 4))
    | _ => .inl (Γ.2.2.1.2.2.2, 4, .inr (.inr (.inr (.inr (fun k => some (ad Γ 1 (11 + k) 0)))))))
  | ci => .inl (Γ.2.2.1.1, alen ci s, .inl ((M.1 ci i).2 s))
def cell (Γ : GT) (M : Mem) (ci i j : Nat) : va_E := match j with
  | 0 => .inr (ci, flds Γ M ci i)
  | s + 1 => acell Γ M ci i s
def mem (Γ : GT) (M : Mem) : va_W := keys.map fun k => (ad Γ k.1 k.2.1 k.2.2, cell Γ M k.1 k.2.1 k.2.2)
/-- the addresses are apart, and in the world -/
def GOK (Γ : GT) : Prop := (∀ k ∈ keys, ∀ k' ∈ keys, ad Γ k.1 k.2.1 k.2.2 = ad Γ k'.1 k'.2.1 k'.2.2 → k = k') ∧ ∀ k ∈ keys, gA Γ (ad Γ k.1 k.2.1 k.2.2)
theorem mem_at (Γ : GT) (M : Mem) {k : Nat × Nat × Nat} (hk : k ∈ keys) : ∃ q : Nat, (mem Γ M)[q]? = some (ad Γ k.1 k.2.1 k.2.2, cell Γ M k.1 k.2.1 k.2.2) := by
  obtain ⟨q, hq⟩ := List.getElem?_of_mem hk
  exact ⟨q, by simp [mem, hq]⟩
theorem mem_inv {Γ : GT} {M : Mem} {q : Nat} {x : Nat × va_E} (h : (mem Γ M)[q]? = some x) : ∃ k, keys[q]? = some k ∧ x = (ad Γ k.1 k.2.1 k.2.2, cell Γ M k.1 k.2.1 k.2.2) := by
  unfold mem at h
  rw [List.getElem?_map] at h
  cases hq : keys[q]? with
  | none => rw [hq] at h; cases h
  | some k => rw [hq] at h; exact ⟨k, rfl, (Option.some.inj h).symm⟩
theorem memD {Γ : GT} (hG : GOK Γ) (M : Mem) : va_D (gA Γ) (mem Γ M) := by
  refine ⟨fun i j x y hi hj hxy => ?_, fun q x hq => ?_⟩
  · obtain ⟨k, hk, rfl⟩ := mem_inv hi
    obtain ⟨k', hk', rfl⟩ := mem_inv hj
    have e := hG.1 k (List.mem_of_getElem? hk) k' (List.mem_of_getElem? hk') hxy
    subst e
    have hl : i < keys.length := (List.getElem?_eq_some_iff.mp hk).1
    exact (List.getElem?_inj hl keys_nodup).mp (hk.trans hk'.symm)
  · obtain ⟨k, hk, rfl⟩ := mem_inv hq
    exact hG.2 k (List.mem_of_getElem? hk)
theorem mem_set {Γ : GT} (hG : GOK Γ) {M M' : Mem} {k : Nat × Nat × Nat} (hk : k ∈ keys) {q : Nat} {e0 e : va_E} (hq : (mem Γ M)[q]? = some (ad Γ k.1 k.2.1 k.2.2, e0)) (he : cell Γ M' k.1 k.2.1 k.2.2 = e) (ho : ∀ k' ∈ keys, k' ≠ k → cell Γ M' k'.1 k'.2.1 k'.2.2 = cell Γ M k'.1 k'.2.1 k'.2.2) : (mem Γ M).set q (ad Γ k.1 k.2.1 k.2.2, e) = mem Γ M' := by
  obtain ⟨k0, hk0, e1⟩ := mem_inv hq
  have ek : k = k0 := hG.1 k hk k0 (List.mem_of_getElem? hk0) (by have := congrArg Prod.fst e1; exact this)
  subst ek
  have hl : q < keys.length := (List.getElem?_eq_some_iff.mp hk0).1
  apply List.ext_getElem?
  intro q'
  by_cases h : q' = q
  · subst h
    rw [List.getElem?_set_self (by unfold mem; rw [List.length_map]; exact hl)]
    unfold mem
    rw [List.getElem?_map, hk0]
    simp only [Option.map_some, he]
  · rw [List.getElem?_set_ne (Ne.symm h)]
    unfold mem
    rw [List.getElem?_map, List.getElem?_map]
    cases hq' : keys[q']? with
    | none => rfl
    | some k' =>
      have hne : k' ≠ k := by
        intro z
        subst z
        exact h ((List.getElem?_inj hl keys_nodup).mp (hk0.trans hq'.symm)).symm
      simp only [Option.map_some, ho k' (List.mem_of_getElem? hq') hne]
/-! ===== writes ===== -/
def sO (M : Mem) (ci i : Nat) (X : OV) : Mem := (fun c' i' => if c' = ci ∧ i' = i then X else M.1 c' i', M.2)
abbrev oI (X : OV) (j : Nat) (v : Int32) : OV := (upd X.1 j v, X.2)
def updA (F : Nat → Nat → Int32) (s : Nat) (f : Nat → Int32) : Nat → Nat → Int32 := fun s' => if s' = s then f else F s'
abbrev oA (X : OV) (s : Nat) (f : Nat → Int32) : OV := (X.1, updA X.2 s f)
abbrev sI (M : Mem) (ci i j : Nat) (v : Int32) : Mem := sO M ci i (oI (M.1 ci i) j v)
abbrev sA (M : Mem) (ci i s : Nat) (f : Nat → Int32) : Mem := sO M ci i (oA (M.1 ci i) s f)
abbrev sH (M : Mem) (g : Nat → Nat) : Mem := (M.1, g)
theorem sO_same (M : Mem) (ci i : Nat) (X : OV) : (sO M ci i X).1 ci i = X := by simp [sO]
theorem sO_kind (M : Mem) {ci ci' : Nat} (i i' : Nat) (X : OV) (h : ci' ≠ ci) : (sO M ci i X).1 ci' i' = M.1 ci' i' := by simp [sO, h]
theorem sO_idx (M : Mem) (ci ci' : Nat) {i i' : Nat} (X : OV) (h : i' ≠ i) : (sO M ci i X).1 ci' i' = M.1 ci' i' := by simp [sO, h]
theorem sO_hist (M : Mem) (ci i : Nat) (X : OV) : (sO M ci i X).2 = M.2 := rfl
theorem sO_sO (M : Mem) (ci i : Nat) (X Y : OV) : sO (sO M ci i X) ci i Y = sO M ci i Y := by
  unfold sO
  refine congrArg (fun f => (f, M.2)) ?_
  funext c' i'
  by_cases h : c' = ci ∧ i' = i <;> simp [h]
theorem sO_self (M : Mem) (ci i : Nat) : sO M ci i (M.1 ci i) = M := by
  unfold sO
  refine Prod.ext ?_ rfl
  funext c' i'
  by_cases h : c' = ci ∧ i' = i
  · simp [h]
  · simp [h]
theorem sO_comm (M : Mem) {ci ci' : Nat} (i i' : Nat) (X Y : OV) (h : ci ≠ ci' ∨ i ≠ i') : sO (sO M ci i X) ci' i' Y = sO (sO M ci' i' Y) ci i X := by
  unfold sO
  refine congrArg (fun f => (f, M.2)) ?_
  funext c i0
  show (if c = ci' ∧ i0 = i' then Y else if c = ci ∧ i0 = i then X else M.1 c i0) = (if c = ci ∧ i0 = i then X else if c = ci' ∧ i0 = i' then Y else M.1 c i0)
  by_cases h1 : c = ci ∧ i0 = i
  · have h2 : ¬ (c = ci' ∧ i0 = i') := by
      rintro ⟨h3, h4⟩
      rcases h with h | h
      · exact h (h1.1.symm.trans h3)
      · exact h (h1.2.symm.trans h4)
    rw [if_pos h1, if_neg h2, if_pos h1]
  · rw [if_neg h1, if_neg h1]
theorem upd_same (f : Nat → Int32) (k : Nat) (x : Int32) : upd f k x k = x := by simp [upd]
theorem upd_ne (f : Nat → Int32) {k j : Nat} (x : Int32) (h : j ≠ k) : upd f k x j = f j := by simp [upd, h]
theorem updA_same (F : Nat → Nat → Int32) (s : Nat) (f : Nat → Int32) : updA F s f s = f := by simp [updA]
theorem updA_ne (F : Nat → Nat → Int32) {s s' : Nat} (f : Nat → Int32) (h : s' ≠ s) : updA F s f s' = F s' := by simp [updA, h]
theorem updA_updA (F : Nat → Nat → Int32) (s : Nat) (f g : Nat → Int32) : updA (updA F s f) s g = updA F s g := by
  funext s'
  by_cases h : s' = s <;> simp [updA, h]
theorem flds_c (Γ : GT) {M M' : Mem} {ci i : Nat} (h : (M'.1 ci i).1 = (M.1 ci i).1) : flds Γ M' ci i = flds Γ M ci i := by
  unfold flds
  split <;> simp only [h]
theorem acell_c (Γ : GT) {M M' : Mem} {ci i s : Nat} (h : (M'.1 ci i).2 s = (M.1 ci i).2 s) (h2 : M'.2 = M.2) : acell Γ M' ci i s = acell Γ M ci i s := by
  unfold acell
  split
  · split
    · rw [h2]
    · rfl
    · rw [h]
    · rfl
  · rw [h]
theorem cell_c (Γ : GT) {M M' : Mem} {ci i j : Nat} (h1 : (M'.1 ci i).1 = (M.1 ci i).1) (h : (M'.1 ci i).2 = (M.1 ci i).2) (h2 : M'.2 = M.2) : cell Γ M' ci i j = cell Γ M ci i j := by
  cases j with
  | zero => exact congrArg (fun l => Sum.inr (ci, l)) (flds_c Γ h1)
  | succ s => exact acell_c Γ (by rw [h]) h2
theorem flds_put (Γ : GT) (M : Mem) {ci i j : Nat} (v : Int32) (h : isI ci j = true) : (flds Γ M ci i).set j (.int v) = flds Γ (sI M ci i j v) ci i := by
  have e : ((sI M ci i j v).1 ci i).1 = upd (M.1 ci i).1 j v := by rw [sI, sO_same]
  unfold isI at h
  split at h
  · have hj : j = 0 ∨ j = 1 ∨ j = 2 ∨ j = 3 ∨ j = 4 := by
      have := Nat.blt_eq.mp h
      omega
    rcases hj with rfl | rfl | rfl | rfl | rfl <;> simp [flds, e, upd]
  · simp only [Bool.or_eq_true, Nat.beq_eq] at h
    rcases h with (((rfl | rfl) | rfl) | rfl) | rfl <;> simp [flds, e, upd]
  · simp only [Bool.or_eq_true, Nat.beq_eq] at h
    rcases h with (rfl | rfl) | rfl <;> simp [flds, e, upd]
  · simp only [Nat.beq_eq] at h
    subst h
    simp [flds, e, upd]
  · simp only [Bool.or_eq_true, Nat.beq_eq] at h
    rcases h with (((((((((rfl | rfl) | rfl) | rfl) | rfl) | rfl) | rfl) | rfl) | rfl) | rfl) | rfl <;> simp [flds, e, upd]
  · cases h
theorem acell_isA (Γ : GT) (M : Mem) {ci i s : Nat} (h : isA ci s = true) : acell Γ M ci i s = .inl (Γ.2.2.1.1, alen ci s, .inl ((M.1 ci i).2 s)) := by
  unfold acell
  split
  · cases h
  · rfl
theorem mem_put {Γ : GT} (hG : GOK Γ) {M : Mem} {ci i j : Nat} (v : Int32) (hc : ci < 6) (hi : i < nO ci) (h : isI ci j = true) {q : Nat} {e0 : va_E} (hq : (mem Γ M)[q]? = some (ad Γ ci i 0, e0)) : (mem Γ M).set q (ad Γ ci i 0, .inr (ci, (flds Γ M ci i).set j (.int v))) = mem Γ (sI M ci i j v) := by
  refine mem_set (k := (ci, i, 0)) hG (mem_keys hc hi (by decide) rfl) hq ?_ ?_
  · show cell Γ _ ci i 0 = _
    exact congrArg (fun l => Sum.inr (ci, l)) (flds_put Γ M v h).symm
  · rintro ⟨ci', i', j'⟩ - hne
    show cell Γ _ ci' i' j' = cell Γ _ ci' i' j'
    by_cases hs : ci' = ci ∧ i' = i
    · obtain ⟨rfl, rfl⟩ := hs
      cases j' with
      | zero => exact absurd rfl hne
      | succ s => exact acell_c Γ (by rw [sI, sO_same]) rfl
    · have e : (sI M ci i j v).1 ci' i' = M.1 ci' i' := by simp only [sI, sO, if_neg hs]
      exact cell_c Γ (by rw [e]) (by rw [e]) rfl
theorem mem_aput {Γ : GT} (hG : GOK Γ) {M : Mem} {ci i s : Nat} (f : Nat → Int32) (hc : ci < 6) (hi : i < nO ci) (hs : s < 18) (h : isA ci s = true) {q : Nat} {e0 : va_E} (hq : (mem Γ M)[q]? = some (ad Γ ci i (s + 1), e0)) : (mem Γ M).set q (ad Γ ci i (s + 1), .inl (Γ.2.2.1.1, alen ci s, .inl f)) = mem Γ (sA M ci i s f) := by
  refine mem_set (k := (ci, i, s + 1)) hG (mem_keys hc hi (by omega) (by show (isA ci s || isR ci s) = true; rw [h]; rfl)) hq ?_ ?_
  · show acell Γ _ ci i s = _
    rw [acell_isA Γ _ h, sA, sO_same]
    simp only [oA, updA_same]
  · rintro ⟨ci', i', j'⟩ - hne
    show cell Γ _ ci' i' j' = cell Γ _ ci' i' j'
    by_cases hz : ci' = ci ∧ i' = i
    · obtain ⟨rfl, rfl⟩ := hz
      cases j' with
      | zero => exact congrArg (fun l => Sum.inr (ci', l)) (flds_c Γ (by rw [sA, sO_same]))
      | succ s' =>
        have hn : s' ≠ s := fun z => hne (by rw [z])
        exact acell_c Γ (by simp only [sA, sO_same, oA, updA_ne _ _ hn]) rfl
    · have e : (sA M ci i s f).1 ci' i' = M.1 ci' i' := by simp only [sA, sO, if_neg hz]
      exact cell_c Γ (by rw [e]) (by rw [e]) rfl
theorem mem_kput {Γ : GT} (hG : GOK Γ) {M : Mem} (f : Nat → Int32) {q : Nat} {e0 : va_E} (hq : (mem Γ M)[q]? = some (ad Γ 4 0 5, e0)) : (mem Γ M).set q (ad Γ 4 0 5, .inl (Γ.2.2.1.2.1, 2, .inl f)) = mem Γ (sA M 4 0 4 f) := by
  refine mem_set (k := (4, 0, 5)) hG (mem_keys (by decide) (by decide) (by decide) (by decide)) hq ?_ ?_
  · show acell Γ _ 4 0 4 = _
    simp only [acell, sO_same, oA, updA_same]
  · rintro ⟨ci', i', j'⟩ - hne
    show cell Γ _ ci' i' j' = cell Γ _ ci' i' j'
    by_cases hz : ci' = 4 ∧ i' = 0
    · obtain ⟨rfl, rfl⟩ := hz
      cases j' with
      | zero => exact congrArg (fun l => Sum.inr (4, l)) (flds_c Γ (by rw [sA, sO_same]))
      | succ s' =>
        have hn : s' ≠ 4 := fun z => hne (by rw [z])
        exact acell_c Γ (M := M) (M' := sA M 4 0 4 f) (ci := 4) (i := 0) (s := s') (by simp only [sA, sO_same, oA, updA_ne _ _ hn]) rfl
    · have e : (sA M 4 0 4 f).1 ci' i' = M.1 ci' i' := by simp only [sA, sO, if_neg hz]
      exact cell_c Γ (by rw [e]) (by rw [e]) rfl
theorem mem_hput {Γ : GT} (hG : GOK Γ) {M : Mem} (g : Nat → Nat) {q : Nat} {e0 : va_E} (hq : (mem Γ M)[q]? = some (ad Γ 4 0 2, e0)) : (mem Γ M).set q (ad Γ 4 0 2, .inl (Γ.2.2.1.2.2.1, 8, .inr (.inr (.inr (.inr (fun k => some (ad Γ 2 (g k) 0))))))) = mem Γ (sH M g) := by
  refine mem_set (k := (4, 0, 2)) hG (mem_keys (by decide) (by decide) (by decide) (by decide)) hq rfl ?_
  rintro ⟨ci', i', j'⟩ hk' hne
  show cell Γ _ ci' i' j' = cell Γ _ ci' i' j'
  cases j' with
  | zero => exact congrArg (fun l => Sum.inr (ci', l)) (flds_c Γ rfl)
  | succ s' =>
    show acell Γ _ ci' i' s' = acell Γ _ ci' i' s'
    by_cases hz : ci' = 4
    · subst hz
      have hi : i' = 0 := by
        unfold keys at hk'
        obtain ⟨a, -, h1⟩ := List.mem_flatMap.mp hk'
        obtain ⟨b, hb, h2⟩ := List.mem_flatMap.mp h1
        obtain ⟨c, -, h3⟩ := List.mem_map.mp h2
        cases h3
        have := List.mem_range.mp hb
        have h9 : nO 4 = 1 := rfl
        omega
      subst hi
      have hn : s' ≠ 1 := fun z => hne (by rw [z])
      unfold acell
      simp only
      split
      · exact absurd rfl hn
      · rfl
      · rfl
      · rfl
    · unfold acell
      split
      · exact absurd rfl hz
      · rfl
