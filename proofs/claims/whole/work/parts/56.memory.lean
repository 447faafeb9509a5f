/-! ===== the memory that the constructors leave ===== -/
def sbA (p : Nat → Nat) (F G : Nat → Nat → Nat) (q : Nat) : Nat → Nat := if q = 0 then p else if q < 9 then F (q - 1) else G (q - 9)
def adX (m h i k c : Nat) (p t r : Nat → Nat) (F G E : Nat → Nat → Nat) : Nat → Nat → Nat → Nat := fun ci q j => match ci with
  | 0 => sbA p F G q (if j = 0 then 5 else j)
  | 1 => if q < 11 then sbA p F G q (if j = 0 then 1 else j) else E (q - 11) (if j = 0 then 1 else j)
  | 2 => sbA p F G q 0
  | 3 => t j
  | 4 => (match j with
    | 0 => m
    | 2 => h
    | 4 => i
    | 5 => k
    | _ => c)
  | _ => r j
def M0F : Mem := (fun ci _ => match ci with
  | 1 => (fun j => match j with
    | 0 => 4
    | 4 => 10
    | 5 => 300
    | _ => 0, fun s => match s with
    | 3 => flF (fun _ => 0) (-1000000009) 10
    | _ => fun _ => 0)
  | 3 => (fun j => match j with
    | 2 => -1000000009
    | 3 => -1000000009
    | _ => 0, fun _ _ => 0)
  | 5 => (fun j => match j with
    | 7 => -1000000009
    | 8 => -1000000009
    | _ => 0, fun s => match s with
    | 0 => laF w0F 4 10
    | _ => fun _ => 0)
  | _ => (fun _ => 0, fun _ _ => 0), fun k => k + 1)
def sbP (q : Nat) : Nat := if q = 0 then 1 else if q < 9 then 16 + 9 * (q - 1) else 88 + 9 * (q - 9)
def posK (k : Nat × Nat × Nat) : Nat := match k.1 with
  | 0 => sbP k.2.1 + (if k.2.2 = 0 then 5 else k.2.2)
  | 1 => if k.2.1 < 11 then sbP k.2.1 + (if k.2.2 = 0 then 1 else k.2.2) else 106 + 4 * (k.2.1 - 11) + (if k.2.2 = 0 then 0 else k.2.2 - 1)
  | 2 => sbP k.2.1
  | 3 => 13 + k.2.2
  | 4 => (match k.2.2 with
    | 0 => 0
    | 2 => 10
    | 4 => 11
    | 5 => 12
    | _ => 15)
  | _ => (match k.2.2 with
    | 0 => 122
    | 1 => 123
    | 2 => 124
    | 4 => 125
    | 5 => 126
    | 6 => 127
    | 10 => 128
    | 15 => 129
    | 16 => 130
    | 17 => 131
    | _ => 132)
abbrev GD (Δ : DT) (ad : Nat → Nat → Nat → Nat) (base tb : Nat) : GT := (Δ.1, Δ.2.1, Δ.2.2, ad, base, tb)
def allW (Δ : DT) (m h i k c : Nat) (p t r : Nat → Nat) (F G E : Nat → Nat → Nat) : va_W := allC Δ m p t h i k c F G E ++ rfC Δ r (laF w0F 4 10)
def atK (Δ : DT) (m h i k c : Nat) (p t r : Nat → Nat) (F G E : Nat → Nat → Nat) (base tb : Nat) (x : Nat × Nat × Nat) : Prop := ∃ e, (allW Δ m h i k c p t r F G E)[posK x]? = some (adX m h i k c p t r F G E x.1 x.2.1 x.2.2, e) ∧ ∀ H, va_at Δ.2.1 vwCl (adX m h i k c p t r F G E x.1 x.2.1 x.2.2, e) H → va_at Δ.2.1 vwCl (adX m h i k c p t r F G E x.1 x.2.1 x.2.2, cell (GD Δ (adX m h i k c p t r F G E) base tb) M0F x.1 x.2.1 x.2.2) H
theorem vq_congr {cA : ClassId} {n : Nat} {f g : Nat → Option Nat} (h : ∀ j, j < n → f j = g j) : vp_cell cA (n, .inr (.inr (.inr (.inr f)))) = vp_cell cA (n, .inr (.inr (.inr (.inr g)))) := by
  rw [vp_cell_q, vp_cell_q, arrV_congr (fun j hj => by rw [h j hj])]
theorem posK_inj : ∀ k ∈ keys, ∀ k2 ∈ keys, posK k = posK k2 → k = k2 := by decide +kernel
set_option maxRecDepth 100000 in
set_option maxHeartbeats 4000000 in
theorem at_0 {Δ : DT} {m h i k c : Nat} {p t r : Nat → Nat} {F G E : Nat → Nat → Nat} {base tb : Nat} : ∀ x ∈ ([(0, 0, 0), (0, 0, 6), (0, 0, 7), (0, 0, 8), (0, 1, 0), (0, 1, 6), (0, 1, 7), (0, 1, 8), (0, 2, 0), (0, 2, 6), (0, 2, 7), (0, 2, 8)] : List (Nat × Nat × Nat)), atK Δ m h i k c p t r F G E base tb x :=
  List.forall_mem_cons.mpr ⟨⟨_, rfl, fun _ hx => hx⟩, List.forall_mem_cons.mpr ⟨⟨_, rfl, fun _ hx => hx⟩, List.forall_mem_cons.mpr ⟨⟨_, rfl, fun _ hx => hx⟩, List.forall_mem_cons.mpr ⟨⟨_, rfl, fun _ hx => hx⟩, List.forall_mem_cons.mpr ⟨⟨_, rfl, fun _ hx => hx⟩, List.forall_mem_cons.mpr ⟨⟨_, rfl, fun _ hx => hx⟩, List.forall_mem_cons.mpr ⟨⟨_, rfl, fun _ hx => hx⟩, List.forall_mem_cons.mpr ⟨⟨_, rfl, fun _ hx => hx⟩, List.forall_mem_cons.mpr ⟨⟨_, rfl, fun _ hx => hx⟩, List.forall_mem_cons.mpr ⟨⟨_, rfl, fun _ hx => hx⟩, List.forall_mem_cons.mpr ⟨⟨_, rfl, fun _ hx => hx⟩, List.forall_mem_cons.mpr ⟨⟨_, rfl, fun _ hx => hx⟩, fun _ hx => absurd hx List.not_mem_nil⟩⟩⟩⟩⟩⟩⟩⟩⟩⟩⟩⟩
set_option maxRecDepth 100000 in
set_option maxHeartbeats 4000000 in
theorem at_1 {Δ : DT} {m h i k c : Nat} {p t r : Nat → Nat} {F G E : Nat → Nat → Nat} {base tb : Nat} : ∀ x ∈ ([(0, 3, 0), (0, 3, 6), (0, 3, 7), (0, 3, 8), (0, 4, 0), (0, 4, 6), (0, 4, 7), (0, 4, 8), (0, 5, 0), (0, 5, 6), (0, 5, 7), (0, 5, 8)] : List (Nat × Nat × Nat)), atK Δ m h i k c p t r F G E base tb x :=
  List.forall_mem_cons.mpr ⟨⟨_, rfl, fun _ hx => hx⟩, List.forall_mem_cons.mpr ⟨⟨_, rfl, fun _ hx => hx⟩, List.forall_mem_cons.mpr ⟨⟨_, rfl, fun _ hx => hx⟩, List.forall_mem_cons.mpr ⟨⟨_, rfl, fun _ hx => hx⟩, List.forall_mem_cons.mpr ⟨⟨_, rfl, fun _ hx => hx⟩, List.forall_mem_cons.mpr ⟨⟨_, rfl, fun _ hx => hx⟩, List.forall_mem_cons.mpr ⟨⟨_, rfl, fun _ hx => hx⟩, List.forall_mem_cons.mpr ⟨⟨_, rfl, fun _ hx => hx⟩, List.forall_mem_cons.mpr ⟨⟨_, rfl, fun _ hx => hx⟩, List.forall_mem_cons.mpr ⟨⟨_, rfl, fun _ hx => hx⟩, List.forall_mem_cons.mpr ⟨⟨_, rfl, fun _ hx => hx⟩, List.forall_mem_cons.mpr ⟨⟨_, rfl, fun _ hx => hx⟩, fun _ hx => absurd hx List.not_mem_nil⟩⟩⟩⟩⟩⟩⟩⟩⟩⟩⟩⟩
set_option maxRecDepth 100000 in
set_option maxHeartbeats 4000000 in
theorem at_2 {Δ : DT} {m h i k c : Nat} {p t r : Nat → Nat} {F G E : Nat → Nat → Nat} {base tb : Nat} : ∀ x ∈ ([(0, 6, 0), (0, 6, 6), (0, 6, 7), (0, 6, 8), (0, 7, 0), (0, 7, 6), (0, 7, 7), (0, 7, 8), (0, 8, 0), (0, 8, 6), (0, 8, 7), (0, 8, 8)] : List (Nat × Nat × Nat)), atK Δ m h i k c p t r F G E base tb x :=
  List.forall_mem_cons.mpr ⟨⟨_, rfl, fun _ hx => hx⟩, List.forall_mem_cons.mpr ⟨⟨_, rfl, fun _ hx => hx⟩, List.forall_mem_cons.mpr ⟨⟨_, rfl, fun _ hx => hx⟩, List.forall_mem_cons.mpr ⟨⟨_, rfl, fun _ hx => hx⟩, List.forall_mem_cons.mpr ⟨⟨_, rfl, fun _ hx => hx⟩, List.forall_mem_cons.mpr ⟨⟨_, rfl, fun _ hx => hx⟩, List.forall_mem_cons.mpr ⟨⟨_, rfl, fun _ hx => hx⟩, List.forall_mem_cons.mpr ⟨⟨_, rfl, fun _ hx => hx⟩, List.forall_mem_cons.mpr ⟨⟨_, rfl, fun _ hx => hx⟩, List.forall_mem_cons.mpr ⟨⟨_, rfl, fun _ hx => hx⟩, List.forall_mem_cons.mpr ⟨⟨_, rfl, fun _ hx => hx⟩, List.forall_mem_cons.mpr ⟨⟨_, rfl, fun _ hx => hx⟩, fun _ hx => absurd hx List.not_mem_nil⟩⟩⟩⟩⟩⟩⟩⟩⟩⟩⟩⟩
set_option maxRecDepth 100000 in
set_option maxHeartbeats 4000000 in
theorem at_3 {Δ : DT} {m h i k c : Nat} {p t r : Nat → Nat} {F G E : Nat → Nat → Nat} {base tb : Nat} : ∀ x ∈ ([(0, 9, 0), (0, 9, 6), (0, 9, 7), (0, 9, 8), (0, 10, 0), (0, 10, 6), (0, 10, 7), (0, 10, 8), (1, 0, 0), (1, 0, 2), (1, 0, 3), (1, 0, 4)] : List (Nat × Nat × Nat)), atK Δ m h i k c p t r F G E base tb x :=
  List.forall_mem_cons.mpr ⟨⟨_, rfl, fun _ hx => hx⟩, List.forall_mem_cons.mpr ⟨⟨_, rfl, fun _ hx => hx⟩, List.forall_mem_cons.mpr ⟨⟨_, rfl, fun _ hx => hx⟩, List.forall_mem_cons.mpr ⟨⟨_, rfl, fun _ hx => hx⟩, List.forall_mem_cons.mpr ⟨⟨_, rfl, fun _ hx => hx⟩, List.forall_mem_cons.mpr ⟨⟨_, rfl, fun _ hx => hx⟩, List.forall_mem_cons.mpr ⟨⟨_, rfl, fun _ hx => hx⟩, List.forall_mem_cons.mpr ⟨⟨_, rfl, fun _ hx => hx⟩, List.forall_mem_cons.mpr ⟨⟨_, rfl, fun _ hx => hx⟩, List.forall_mem_cons.mpr ⟨⟨_, rfl, fun _ hx => hx⟩, List.forall_mem_cons.mpr ⟨⟨_, rfl, fun _ hx => hx⟩, List.forall_mem_cons.mpr ⟨⟨_, rfl, fun _ hx => hx⟩, fun _ hx => absurd hx List.not_mem_nil⟩⟩⟩⟩⟩⟩⟩⟩⟩⟩⟩⟩
set_option maxRecDepth 100000 in
set_option maxHeartbeats 4000000 in
theorem at_4 {Δ : DT} {m h i k c : Nat} {p t r : Nat → Nat} {F G E : Nat → Nat → Nat} {base tb : Nat} : ∀ x ∈ ([(1, 1, 0), (1, 1, 2), (1, 1, 3), (1, 1, 4), (1, 2, 0), (1, 2, 2), (1, 2, 3), (1, 2, 4), (1, 3, 0), (1, 3, 2), (1, 3, 3), (1, 3, 4)] : List (Nat × Nat × Nat)), atK Δ m h i k c p t r F G E base tb x :=
  List.forall_mem_cons.mpr ⟨⟨_, rfl, fun _ hx => hx⟩, List.forall_mem_cons.mpr ⟨⟨_, rfl, fun _ hx => hx⟩, List.forall_mem_cons.mpr ⟨⟨_, rfl, fun _ hx => hx⟩, List.forall_mem_cons.mpr ⟨⟨_, rfl, fun _ hx => hx⟩, List.forall_mem_cons.mpr ⟨⟨_, rfl, fun _ hx => hx⟩, List.forall_mem_cons.mpr ⟨⟨_, rfl, fun _ hx => hx⟩, List.forall_mem_cons.mpr ⟨⟨_, rfl, fun _ hx => hx⟩, List.forall_mem_cons.mpr ⟨⟨_, rfl, fun _ hx => hx⟩, List.forall_mem_cons.mpr ⟨⟨_, rfl, fun _ hx => hx⟩, List.forall_mem_cons.mpr ⟨⟨_, rfl, fun _ hx => hx⟩, List.forall_mem_cons.mpr ⟨⟨_, rfl, fun _ hx => hx⟩, List.forall_mem_cons.mpr ⟨⟨_, rfl, fun _ hx => hx⟩, fun _ hx => absurd hx List.not_mem_nil⟩⟩⟩⟩⟩⟩⟩⟩⟩⟩⟩⟩
set_option maxRecDepth 100000 in
set_option maxHeartbeats 4000000 in
theorem at_5 {Δ : DT} {m h i k c : Nat} {p t r : Nat → Nat} {F G E : Nat → Nat → Nat} {base tb : Nat} : ∀ x ∈ ([(1, 4, 0), (1, 4, 2), (1, 4, 3), (1, 4, 4), (1, 5, 0), (1, 5, 2), (1, 5, 3), (1, 5, 4), (1, 6, 0), (1, 6, 2), (1, 6, 3), (1, 6, 4)] : List (Nat × Nat × Nat)), atK Δ m h i k c p t r F G E base tb x :=
  List.forall_mem_cons.mpr ⟨⟨_, rfl, fun _ hx => hx⟩, List.forall_mem_cons.mpr ⟨⟨_, rfl, fun _ hx => hx⟩, List.forall_mem_cons.mpr ⟨⟨_, rfl, fun _ hx => hx⟩, List.forall_mem_cons.mpr ⟨⟨_, rfl, fun _ hx => hx⟩, List.forall_mem_cons.mpr ⟨⟨_, rfl, fun _ hx => hx⟩, List.forall_mem_cons.mpr ⟨⟨_, rfl, fun _ hx => hx⟩, List.forall_mem_cons.mpr ⟨⟨_, rfl, fun _ hx => hx⟩, List.forall_mem_cons.mpr ⟨⟨_, rfl, fun _ hx => hx⟩, List.forall_mem_cons.mpr ⟨⟨_, rfl, fun _ hx => hx⟩, List.forall_mem_cons.mpr ⟨⟨_, rfl, fun _ hx => hx⟩, List.forall_mem_cons.mpr ⟨⟨_, rfl, fun _ hx => hx⟩, List.forall_mem_cons.mpr ⟨⟨_, rfl, fun _ hx => hx⟩, fun _ hx => absurd hx List.not_mem_nil⟩⟩⟩⟩⟩⟩⟩⟩⟩⟩⟩⟩
set_option maxRecDepth 100000 in
set_option maxHeartbeats 4000000 in
theorem at_6 {Δ : DT} {m h i k c : Nat} {p t r : Nat → Nat} {F G E : Nat → Nat → Nat} {base tb : Nat} : ∀ x ∈ ([(1, 7, 0), (1, 7, 2), (1, 7, 3), (1, 7, 4), (1, 8, 0), (1, 8, 2), (1, 8, 3), (1, 8, 4), (1, 9, 0), (1, 9, 2), (1, 9, 3), (1, 9, 4)] : List (Nat × Nat × Nat)), atK Δ m h i k c p t r F G E base tb x :=
  List.forall_mem_cons.mpr ⟨⟨_, rfl, fun _ hx => hx⟩, List.forall_mem_cons.mpr ⟨⟨_, rfl, fun _ hx => hx⟩, List.forall_mem_cons.mpr ⟨⟨_, rfl, fun _ hx => hx⟩, List.forall_mem_cons.mpr ⟨⟨_, rfl, fun _ hx => hx⟩, List.forall_mem_cons.mpr ⟨⟨_, rfl, fun _ hx => hx⟩, List.forall_mem_cons.mpr ⟨⟨_, rfl, fun _ hx => hx⟩, List.forall_mem_cons.mpr ⟨⟨_, rfl, fun _ hx => hx⟩, List.forall_mem_cons.mpr ⟨⟨_, rfl, fun _ hx => hx⟩, List.forall_mem_cons.mpr ⟨⟨_, rfl, fun _ hx => hx⟩, List.forall_mem_cons.mpr ⟨⟨_, rfl, fun _ hx => hx⟩, List.forall_mem_cons.mpr ⟨⟨_, rfl, fun _ hx => hx⟩, List.forall_mem_cons.mpr ⟨⟨_, rfl, fun _ hx => hx⟩, fun _ hx => absurd hx List.not_mem_nil⟩⟩⟩⟩⟩⟩⟩⟩⟩⟩⟩⟩
set_option maxRecDepth 100000 in
set_option maxHeartbeats 4000000 in
theorem at_7 {Δ : DT} {m h i k c : Nat} {p t r : Nat → Nat} {F G E : Nat → Nat → Nat} {base tb : Nat} : ∀ x ∈ ([(1, 10, 0), (1, 10, 2), (1, 10, 3), (1, 10, 4), (1, 11, 0), (1, 11, 2), (1, 11, 3), (1, 11, 4), (1, 12, 0), (1, 12, 2), (1, 12, 3), (1, 12, 4)] : List (Nat × Nat × Nat)), atK Δ m h i k c p t r F G E base tb x :=
  List.forall_mem_cons.mpr ⟨⟨_, rfl, fun _ hx => hx⟩, List.forall_mem_cons.mpr ⟨⟨_, rfl, fun _ hx => hx⟩, List.forall_mem_cons.mpr ⟨⟨_, rfl, fun _ hx => hx⟩, List.forall_mem_cons.mpr ⟨⟨_, rfl, fun _ hx => hx⟩, List.forall_mem_cons.mpr ⟨⟨_, rfl, fun _ hx => hx⟩, List.forall_mem_cons.mpr ⟨⟨_, rfl, fun _ hx => hx⟩, List.forall_mem_cons.mpr ⟨⟨_, rfl, fun _ hx => hx⟩, List.forall_mem_cons.mpr ⟨⟨_, rfl, fun _ hx => hx⟩, List.forall_mem_cons.mpr ⟨⟨_, rfl, fun _ hx => hx⟩, List.forall_mem_cons.mpr ⟨⟨_, rfl, fun _ hx => hx⟩, List.forall_mem_cons.mpr ⟨⟨_, rfl, fun _ hx => hx⟩, List.forall_mem_cons.mpr ⟨⟨_, rfl, fun _ hx => hx⟩, fun _ hx => absurd hx List.not_mem_nil⟩⟩⟩⟩⟩⟩⟩⟩⟩⟩⟩⟩
set_option maxRecDepth 100000 in
set_option maxHeartbeats 4000000 in
theorem at_8 {Δ : DT} {m h i k c : Nat} {p t r : Nat → Nat} {F G E : Nat → Nat → Nat} {base tb : Nat} : ∀ x ∈ ([(1, 13, 0), (1, 13, 2), (1, 13, 3), (1, 13, 4), (1, 14, 0), (1, 14, 2), (1, 14, 3), (1, 14, 4), (2, 0, 0), (2, 1, 0), (2, 2, 0), (2, 3, 0)] : List (Nat × Nat × Nat)), atK Δ m h i k c p t r F G E base tb x :=
  List.forall_mem_cons.mpr ⟨⟨_, rfl, fun _ hx => hx⟩, List.forall_mem_cons.mpr ⟨⟨_, rfl, fun _ hx => hx⟩, List.forall_mem_cons.mpr ⟨⟨_, rfl, fun _ hx => hx⟩, List.forall_mem_cons.mpr ⟨⟨_, rfl, fun _ hx => hx⟩, List.forall_mem_cons.mpr ⟨⟨_, rfl, fun _ hx => hx⟩, List.forall_mem_cons.mpr ⟨⟨_, rfl, fun _ hx => hx⟩, List.forall_mem_cons.mpr ⟨⟨_, rfl, fun _ hx => hx⟩, List.forall_mem_cons.mpr ⟨⟨_, rfl, fun _ hx => hx⟩, List.forall_mem_cons.mpr ⟨⟨_, rfl, fun _ hx => hx⟩, List.forall_mem_cons.mpr ⟨⟨_, rfl, fun _ hx => hx⟩, List.forall_mem_cons.mpr ⟨⟨_, rfl, fun _ hx => hx⟩, List.forall_mem_cons.mpr ⟨⟨_, rfl, fun _ hx => hx⟩, fun _ hx => absurd hx List.not_mem_nil⟩⟩⟩⟩⟩⟩⟩⟩⟩⟩⟩⟩
set_option maxRecDepth 100000 in
set_option maxHeartbeats 4000000 in
theorem at_9 {Δ : DT} {m h i k c : Nat} {p t r : Nat → Nat} {F G E : Nat → Nat → Nat} {base tb : Nat} : ∀ x ∈ ([(2, 4, 0), (2, 5, 0), (2, 6, 0), (2, 7, 0), (2, 8, 0), (2, 9, 0), (2, 10, 0), (3, 0, 0), (3, 0, 1), (4, 0, 0), (4, 0, 2), (4, 0, 4)] : List (Nat × Nat × Nat)), atK Δ m h i k c p t r F G E base tb x :=
  List.forall_mem_cons.mpr ⟨⟨_, rfl, fun _ hx => hx⟩, List.forall_mem_cons.mpr ⟨⟨_, rfl, fun _ hx => hx⟩, List.forall_mem_cons.mpr ⟨⟨_, rfl, fun _ hx => hx⟩, List.forall_mem_cons.mpr ⟨⟨_, rfl, fun _ hx => hx⟩, List.forall_mem_cons.mpr ⟨⟨_, rfl, fun _ hx => hx⟩, List.forall_mem_cons.mpr ⟨⟨_, rfl, fun _ hx => hx⟩, List.forall_mem_cons.mpr ⟨⟨_, rfl, fun _ hx => hx⟩, List.forall_mem_cons.mpr ⟨⟨_, rfl, fun _ hx => hx⟩, List.forall_mem_cons.mpr ⟨⟨_, rfl, fun _ hx => hx⟩, List.forall_mem_cons.mpr ⟨⟨_, rfl, fun _ hx => hx⟩, List.forall_mem_cons.mpr ⟨⟨_, rfl, fun H hx => (show H[_]? = some (vp_cell _ _) from hx).trans (congrArg some (vq_congr (fun j hj => by rcases (show j = 0 ∨ j = 1 ∨ j = 2 ∨ j = 3 ∨ j = 4 ∨ j = 5 ∨ j = 6 ∨ j = 7 by omega) with rfl | rfl | rfl | rfl | rfl | rfl | rfl | rfl <;> rfl)))⟩, List.forall_mem_cons.mpr ⟨⟨_, rfl, fun H hx => (show H[_]? = some (vp_cell _ _) from hx).trans (congrArg some (vq_congr (fun j hj => by rcases (show j = 0 ∨ j = 1 by omega) with rfl | rfl <;> rfl)))⟩, fun _ hx => absurd hx List.not_mem_nil⟩⟩⟩⟩⟩⟩⟩⟩⟩⟩⟩⟩
set_option maxRecDepth 100000 in
set_option maxHeartbeats 4000000 in
theorem at_10 {Δ : DT} {m h i k c : Nat} {p t r : Nat → Nat} {F G E : Nat → Nat → Nat} {base tb : Nat} : ∀ x ∈ ([(4, 0, 5), (4, 0, 7), (5, 0, 0), (5, 0, 1), (5, 0, 2), (5, 0, 4), (5, 0, 5), (5, 0, 6), (5, 0, 10), (5, 0, 15), (5, 0, 16), (5, 0, 17)] : List (Nat × Nat × Nat)), atK Δ m h i k c p t r F G E base tb x :=
  List.forall_mem_cons.mpr ⟨⟨_, rfl, fun _ hx => hx⟩, List.forall_mem_cons.mpr ⟨⟨_, rfl, fun H hx => (show H[_]? = some (vp_cell _ _) from hx).trans (congrArg some (vq_congr (fun j hj => by rcases (show j = 0 ∨ j = 1 ∨ j = 2 ∨ j = 3 by omega) with rfl | rfl | rfl | rfl <;> rfl)))⟩, List.forall_mem_cons.mpr ⟨⟨_, rfl, fun _ hx => hx⟩, List.forall_mem_cons.mpr ⟨⟨_, rfl, fun _ hx => hx⟩, List.forall_mem_cons.mpr ⟨⟨_, rfl, fun _ hx => hx⟩, List.forall_mem_cons.mpr ⟨⟨_, rfl, fun _ hx => hx⟩, List.forall_mem_cons.mpr ⟨⟨_, rfl, fun _ hx => hx⟩, List.forall_mem_cons.mpr ⟨⟨_, rfl, fun _ hx => hx⟩, List.forall_mem_cons.mpr ⟨⟨_, rfl, fun _ hx => hx⟩, List.forall_mem_cons.mpr ⟨⟨_, rfl, fun _ hx => hx⟩, List.forall_mem_cons.mpr ⟨⟨_, rfl, fun _ hx => hx⟩, List.forall_mem_cons.mpr ⟨⟨_, rfl, fun _ hx => hx⟩, fun _ hx => absurd hx List.not_mem_nil⟩⟩⟩⟩⟩⟩⟩⟩⟩⟩⟩⟩
set_option maxRecDepth 100000 in
set_option maxHeartbeats 4000000 in
theorem at_11 {Δ : DT} {m h i k c : Nat} {p t r : Nat → Nat} {F G E : Nat → Nat → Nat} {base tb : Nat} : ∀ x ∈ ([(5, 0, 18)] : List (Nat × Nat × Nat)), atK Δ m h i k c p t r F G E base tb x :=
  List.forall_mem_cons.mpr ⟨⟨_, rfl, fun _ hx => hx⟩, fun _ hx => absurd hx List.not_mem_nil⟩
theorem keysE : keys = ([(0, 0, 0), (0, 0, 6), (0, 0, 7), (0, 0, 8), (0, 1, 0), (0, 1, 6), (0, 1, 7), (0, 1, 8), (0, 2, 0), (0, 2, 6), (0, 2, 7), (0, 2, 8)] : List (Nat × Nat × Nat)) ++ ([(0, 3, 0), (0, 3, 6), (0, 3, 7), (0, 3, 8), (0, 4, 0), (0, 4, 6), (0, 4, 7), (0, 4, 8), (0, 5, 0), (0, 5, 6), (0, 5, 7), (0, 5, 8)] : List (Nat × Nat × Nat)) ++ ([(0, 6, 0), (0, 6, 6), (0, 6, 7), (0, 6, 8), (0, 7, 0), (0, 7, 6), (0, 7, 7), (0, 7, 8), (0, 8, 0), (0, 8, 6), (0, 8, 7), (0, 8, 8)] : List (Nat × Nat × Nat)) ++ ([(0, 9, 0), (0, 9, 6), (0, 9, 7), (0, 9, 8), (0, 10, 0), (0, 10, 6), (0, 10, 7), (0, 10, 8), (1, 0, 0), (1, 0, 2), (1, 0, 3), (1, 0, 4)] : List (Nat × Nat × Nat)) ++ ([(1, 1, 0), (1, 1, 2), (1, 1, 3), (1, 1, 4), (1, 2, 0), (1, 2, 2), (1, 2, 3), (1, 2, 4), (1, 3, 0), (1, 3, 2), (1, 3, 3), (1, 3, 4)] : List (Nat × Nat × Nat)) ++ ([(1, 4, 0), (1, 4, 2), (1, 4, 3), (1, 4, 4), (1, 5, 0), (1, 5, 2), (1, 5, 3), (1, 5, 4), (1, 6, 0), (1, 6, 2), (1, 6, 3), (1, 6, 4)] : List (Nat × Nat × Nat)) ++ ([(1, 7, 0), (1, 7, 2), (1, 7, 3), (1, 7, 4), (1, 8, 0), (1, 8, 2), (1, 8, 3), (1, 8, 4), (1, 9, 0), (1, 9, 2), (1, 9, 3), (1, 9, 4)] : List (Nat × Nat × Nat)) ++ ([(1, 10, 0), (1, 10, 2), (1, 10, 3), (1, 10, 4), (1, 11, 0), (1, 11, 2), (1, 11, 3), (1, 11, 4), (1, 12, 0), (1, 12, 2), (1, 12, 3), (1, 12, 4)] : List (Nat × Nat × Nat)) ++ ([(1, 13, 0), (1, 13, 2), (1, 13, 3), (1, 13, 4), (1, 14, 0), (1, 14, 2), (1, 14, 3), (1, 14, 4), (2, 0, 0), (2, 1, 0), (2, 2, 0), (2, 3, 0)] : List (Nat × Nat × Nat)) ++ ([(2, 4, 0), (2, 5, 0), (2, 6, 0), (2, 7, 0), (2, 8, 0), (2, 9, 0), (2, 10, 0), (3, 0, 0), (3, 0, 1), (4, 0, 0), (4, 0, 2), (4, 0, 4)] : List (Nat × Nat × Nat)) ++ ([(4, 0, 5), (4, 0, 7), (5, 0, 0), (5, 0, 1), (5, 0, 2), (5, 0, 4), (5, 0, 5), (5, 0, 6), (5, 0, 10), (5, 0, 15), (5, 0, 16), (5, 0, 17)] : List (Nat × Nat × Nat)) ++ ([(5, 0, 18)] : List (Nat × Nat × Nat)) := by decide +kernel
theorem at_all {Δ : DT} {m h i k c : Nat} {p t r : Nat → Nat} {F G E : Nat → Nat → Nat} {base tb : Nat} : ∀ x ∈ keys, atK Δ m h i k c p t r F G E base tb x := by
  rw [keysE]
  exact (List.forall_mem_append.mpr ⟨(List.forall_mem_append.mpr ⟨(List.forall_mem_append.mpr ⟨(List.forall_mem_append.mpr ⟨(List.forall_mem_append.mpr ⟨(List.forall_mem_append.mpr ⟨(List.forall_mem_append.mpr ⟨(List.forall_mem_append.mpr ⟨(List.forall_mem_append.mpr ⟨(List.forall_mem_append.mpr ⟨(List.forall_mem_append.mpr ⟨at_0, at_1⟩), at_2⟩), at_3⟩), at_4⟩), at_5⟩), at_6⟩), at_7⟩), at_8⟩), at_9⟩), at_10⟩), at_11⟩)
theorem mk_mem {Δ : DT} {m h i k c : Nat} {p t r : Nat → Nat} {F G E : Nat → Nat → Nat} {base tb : Nat} {H : Heap} (hP : va_P Δ.2.1 vwCl (allW Δ m h i k c p t r F G E) H) : va_P Δ.2.1 vwCl (mem (GD Δ (adX m h i k c p t r F G E) base tb) M0F) H := by
  intro q x hq
  obtain ⟨y, hy, rfl⟩ := mem_inv hq
  obtain ⟨e, h1, h2⟩ := at_all (Δ := Δ) (m := m) (h := h) (i := i) (k := k) (c := c) (p := p) (t := t) (r := r) (F := F) (G := G) (E := E) (base := base) (tb := tb) y (List.mem_of_getElem? hy)
  exact h2 H (hP _ _ h1)
theorem mk_gok {Δ : DT} {m h i k c : Nat} {p t r : Nat → Nat} {F G E : Nat → Nat → Nat} {base tb : Nat} {A : Nat → Prop} (hD : va_D A (allW Δ m h i k c p t r F G E)) (hA : ∀ q, A q → base ≤ q) : GOK (GD Δ (adX m h i k c p t r F G E) base tb) := by
  refine ⟨fun x hx y hy e => ?_, fun x hx => ?_⟩
  · obtain ⟨e1, h1, -⟩ := at_all (Δ := Δ) (m := m) (h := h) (i := i) (k := k) (c := c) (p := p) (t := t) (r := r) (F := F) (G := G) (E := E) (base := base) (tb := tb) x hx
    obtain ⟨e2, h2, -⟩ := at_all (Δ := Δ) (m := m) (h := h) (i := i) (k := k) (c := c) (p := p) (t := t) (r := r) (F := F) (G := G) (E := E) (base := base) (tb := tb) y hy
    exact posK_inj x hx y hy (hD.1 _ _ _ _ h1 h2 e)
  · obtain ⟨e1, h1, -⟩ := at_all (Δ := Δ) (m := m) (h := h) (i := i) (k := k) (c := c) (p := p) (t := t) (r := r) (F := F) (G := G) (E := E) (base := base) (tb := tb) x hx
    exact hA _ (hD.2 _ _ h1)
theorem RI_0 : RI M0F (M0F.1 5 0) := by
  have hu : unN M0F = 0 := by decide +kernel
  have hs : ∀ g, szN (M0F.1 1 g) = 4 := fun g => by show (4 : Int32).toNatClampNeg = 4; decide
  have hok : ∀ g, ok10 (M0F.1 1 g) := fun g => ⟨by rw [hs]; rfl, by rw [hs]; decide⟩
  have hl : ∀ g, lgN (M0F.1 0 g) = 0 := fun g => by show (0 : Int32).toNatClampNeg = 0; decide
  have hB : ∀ g, okB (M0F.1 0 g) := fun g => ⟨by rw [hl]; rfl, by rw [hl]; decide⟩
  have ht : txN (M0F.1 3 0) = 0 := by decide +kernel
  have h4 : ∀ k, k < 4 → laF w0F 4 10 (1 + k) = 0 ∧ laF w0F 4 10 (11 + k) = 0 ∧ laF w0F 4 10 (21 + k) = -1000000009 ∧ flF (fun _ => 0) (-1000000009) 10 k = -1000000009 := by decide +kernel
  refine ⟨⟨⟨by rw [hu]; rfl, by rw [hu]; decide, fun k hk => ⟨Nat.le_add_left 1 k, hk⟩, fun a b _ _ e => Nat.succ.inj e⟩, fun g _ => hok g, fun g _ => hB g, by rw [ht]; rfl, by rw [ht]; decide⟩, ⟨⟨⟨hok 0, by rw [hs]; decide, fun k hk => ?_⟩, ⟨by decide +kernel, fun k hk => ?_, by decide +kernel, by decide +kernel, fun a => ?_⟩, hB 0, by decide +kernel, by decide +kernel, by decide +kernel, by decide +kernel, by decide +kernel, fun j hj => ?_⟩, by decide +kernel, by decide +kernel⟩, ⟨by rw [hu]; rfl, fun j hj => ?_⟩, fun i hi => ⟨rfl, fun z => absurd rfl z⟩, rfl, fun k hk => ?_, rfl, rfl⟩
  · rw [hs] at hk
    exact ⟨⟨0, by decide, rfl⟩, Or.inl rfl, Or.inl (h4 k hk).2.2.2⟩
  · rw [hs] at hk
    exact ⟨(h4 k hk).1, (h4 k hk).2.1, (h4 k hk).2.2.1.trans (h4 k hk).2.2.2.symm⟩
  · have e3 : (M0F.1 5 0).2 0 33 = 0 := by decide +kernel
    have e4 : (M0F.1 5 0).2 0 34 = 0 := by decide +kernel
    rw [e3, e4]
    rfl
  · rw [hl] at hj
    exact absurd hj (Nat.not_lt_zero j)
  · rw [hu] at hj
    exact absurd hj (Nat.not_lt_zero j)
  · rw [ht] at hk
    exact absurd hk (Nat.not_lt_zero k)
