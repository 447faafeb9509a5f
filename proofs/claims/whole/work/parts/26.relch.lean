/-! ===== the relation behind single changes ===== -/
def rngV (a b c : Int32) : Prop := (∃ n : Nat, n < 8 ∧ a = nI n) ∧ (b = 0 ∨ b = 1) ∧ (c = -1000000009 ∨ ∃ n : Nat, n < 8 ∧ c = nI n)
def rngA (X : OV) (k : Nat) : Prop := rngV (X.2 1 k) (X.2 2 k) (X.2 3 k)
theorem RW_new {w w' : Nat → Int32} {X Y B : OV} (h : RW w X B) (hg : rgX Y) (h0 : w' 0 = Y.1 0) (hA : rwA (szN Y) w' Y) (hK : ∀ k, 31 ≤ k → w' k = w k) (hf : ∀ j, j ≠ 0 → Y.1 j = X.1 j) : RW w' Y B := by
  obtain ⟨⟨p1, p2, p3⟩, p4⟩ := h
  have g33 : w' 33 = Y.1 6 := by rw [hK 33 (by omega), hf 6 (by decide)]; exact p4.1
  have g34 : w' 34 = Y.1 7 := by rw [hK 34 (by omega), hf 7 (by decide)]; exact p4.2
  refine ⟨⟨hg, ⟨h0, hA, ?_, ?_, fun a => ?_⟩, p3.1, ?_, ?_, ?_, ?_, ?_, fun j hj => ⟨?_, ?_, ?_⟩⟩, g33, g34⟩
  · rw [hK 31 (by omega), hf 4 (by decide)]; exact p2.2.2.1
  · rw [hK 32 (by omega), hf 5 (by decide)]; exact p2.2.2.2.1
  · rw [g33, g34]; rfl
  · rw [hK _ (by omega)]; exact p3.2.1
  · rw [hK _ (by omega)]; exact p3.2.2.1
  · rw [hK _ (by omega)]; exact p3.2.2.2.1
  · rw [hK _ (by omega)]; exact p3.2.2.2.2.1
  · rw [hK _ (by omega)]; exact p3.2.2.2.2.2.1
  · rw [hK _ (by omega)]; exact (p3.2.2.2.2.2.2 j hj).1
  · rw [hK _ (by omega)]; exact (p3.2.2.2.2.2.2 j hj).2.1
  · rw [hK _ (by omega)]; exact (p3.2.2.2.2.2.2 j hj).2.2
theorem RW_st {w w2 : Nat → Int32} {X B : OV} (h : RW w X B) (k : RWs w2 (stQ X B).2.1 (stQ X B).2.2) (h1 : w2 33 = w 33) (h2 : w2 34 = w 34) : RW w2 (stQ X B).2.1 (stQ X B).2.2 := ⟨k, by rw [h1, stQ_1]; exact h.2.1, by rw [h2, stQ_1]; exact h.2.2⟩
def rwE (n e : Nat) (w : Nat → Int32) (X : OV) : Prop := ∀ k, k < n → k ≠ e → (w (1 + k) = X.2 1 k ∧ w (11 + k) = X.2 2 k ∧ w (21 + k) = X.2 3 k) ∧ rngA X k
def st3 (X : OV) (t : Nat) (a b c : Int32) : Nat → Nat → Int32 := updA (updA (updA X.2 1 (upd (X.2 1) t a)) 2 (upd (X.2 2) t b)) 3 (upd (X.2 3) t c)
theorem st3_at (X : OV) (t k : Nat) (a b c : Int32) : st3 X t a b c 1 k = (if k = t then a else X.2 1 k) ∧ st3 X t a b c 2 k = (if k = t then b else X.2 2 k) ∧ st3 X t a b c 3 k = (if k = t then c else X.2 3 k) := by
  simp [st3, updA, upd]
theorem w3_at {w : Nat → Int32} {t k : Nat} (ht : t < 10) (hk : k < 10) (a b c : Int32) : (upd (upd (upd w (1 + t) a) (11 + t) b) (21 + t) c) (1 + k) = (if k = t then a else w (1 + k)) ∧ (upd (upd (upd w (1 + t) a) (11 + t) b) (21 + t) c) (11 + k) = (if k = t then b else w (11 + k)) ∧ (upd (upd (upd w (1 + t) a) (11 + t) b) (21 + t) c) (21 + k) = (if k = t then c else w (21 + k)) := by
  by_cases h : k = t
  · subst h
    refine ⟨?_, ?_, ?_⟩
    · rw [upd_ne _ _ (by omega), upd_ne _ _ (by omega), upd_same, if_pos rfl]
    · rw [upd_ne _ _ (by omega), upd_same, if_pos rfl]
    · rw [upd_same, if_pos rfl]
  · refine ⟨?_, ?_, ?_⟩ <;> rw [upd_ne _ _ (by omega), upd_ne _ _ (by omega), upd_ne _ _ (by omega), if_neg h]
theorem w3_hi {w : Nat → Int32} {t k : Nat} (ht : t < 10) (hk : 31 ≤ k) (a b c : Int32) : (upd (upd (upd w (1 + t) a) (11 + t) b) (21 + t) c) k = w k := by
  rw [upd_ne _ _ (by omega), upd_ne _ _ (by omega), upd_ne _ _ (by omega)]
theorem rwE_set {n e : Nat} {w : Nat → Int32} {X : OV} (h : rwE n e w X) (hn : n ≤ 10) (he : e < 10) {a b c : Int32} (hr : rngV a b c) (x : Nat → Int32) (e' : Nat) : rwE n e' (upd (upd (upd w (1 + e) a) (11 + e) b) (21 + e) c) (x, st3 X e a b c) := by
  intro k hk _
  obtain ⟨s1, s2, s3⟩ := st3_at X e k a b c
  obtain ⟨t1, t2, t3⟩ := w3_at (w := w) he (show k < 10 by omega) a b c
  unfold rngA
  show (_ = st3 X e a b c 1 k ∧ _ = st3 X e a b c 2 k ∧ _ = st3 X e a b c 3 k) ∧ rngV (st3 X e a b c 1 k) (st3 X e a b c 2 k) (st3 X e a b c 3 k)
  rw [s1, s2, s3, t1, t2, t3]
  by_cases hke : k = e
  · simp only [if_pos hke]
    exact ⟨⟨trivial, trivial, trivial⟩, hr⟩
  · simp only [if_neg hke]
    exact h k hk hke
theorem rwE_cp {n e f : Nat} {w : Nat → Int32} {X : OV} (h : rwE n e w X) (hn : n ≤ 10) (he : e < 10) (hf : f < n) (hfe : f ≠ e) {a b c : Int32} (ha : a = w (1 + f)) (hb : b = w (11 + f)) (hc : c = w (21 + f)) (e' : Nat) : rwE n e' (upd (upd (upd w (1 + e) a) (11 + e) b) (21 + e) c) (cpX X X e f) := by
  obtain ⟨⟨h1, h2, h3⟩, h4⟩ := h f hf hfe
  rw [h1] at ha
  rw [h2] at hb
  rw [h3] at hc
  subst ha hb hc
  exact rwE_set h hn he h4 X.1 e'
theorem rwE_of {n : Nat} {w : Nat → Int32} {X B : OV} (h : RW w X B) (hn : n = szN X) (e : Nat) : rwE n e w X := fun k hk _ => ⟨h.1.2.1.2.1 k (hn ▸ hk), h.1.1.2.2 k (hn ▸ hk)⟩
theorem rng_cp {n t f : Nat} {X : OV} (h : ∀ k, k < n → rngA X k) (hf : f < n) : ∀ k, k < n → rngA (cpX X X t f) k := by
  intro k hk
  obtain ⟨s1, s2, s3⟩ := st3_at X t k (X.2 1 f) (X.2 2 f) (X.2 3 f)
  show rngV (st3 X t (X.2 1 f) (X.2 2 f) (X.2 3 f) 1 k) (st3 X t (X.2 1 f) (X.2 2 f) (X.2 3 f) 2 k) (st3 X t (X.2 1 f) (X.2 2 f) (X.2 3 f) 3 k)
  rw [s1, s2, s3]
  by_cases hke : k = t
  · simp only [if_pos hke]
    exact h f hf
  · simp only [if_neg hke]
    exact h k hk
theorem rng_to {X : OV} (h : ∀ k, k < szN X → rngA X k) (p : Nat) : ∀ j, p + j < szN X → ∀ k, k < szN X → rngA (toL X p j) k
  | 0, _ => h
  | j + 1, hj => rng_cp (rng_to h p j (by omega)) (by omega)
theorem rgX_to {X : OV} (h : rgX X) {p : Nat} (hp : p < szN X) (h2 : 1 < szN X) : rgX (toX X p) ∧ szN (toX X p) = szN X - 1 := by
  have hz := h.1.2
  have e : (toX X p).1 0 = nI (szN X - 1) := (toX_0 X p).trans (nsub h.1.1 rfl (by omega))
  have e2 : szN (toX X p) = szN X - 1 := szN_of e (by omega)
  refine ⟨⟨ok10_to h.1 hp, by omega, fun k hk => ?_⟩, e2⟩
  exact rng_to h.2.2 p (szN X - 1 - p) (by omega) k (by omega)
theorem toX_f (X : OV) (p : Nat) {j : Nat} (hj : j ≠ 0) : (toX X p).1 j = X.1 j := by
  unfold toX
  rw [toL_1]
  exact oI_x _ _ hj
theorem ok10_arr {X Y : OV} (h : ok10 X) (e : Y.1 0 = X.1 0) : ok10 Y ∧ szN Y = szN X := by
  have e2 : szN Y = szN X := by unfold szN; rw [e]
  exact ⟨⟨by rw [e, e2]; exact h.1, by rw [e2]; exact h.2⟩, e2⟩
theorem energy_1 (X : OV) {s : Nat} (f : Nat → Int32) (h : s ≠ 1) : energy (oA X s f) = energy X := by
  have e : (oA X s f).2 1 = X.2 1 := updA_ne _ _ (Ne.symm h)
  have hp : ∀ a p, pOn (oA X s f) a p = pOn X a p := fun a p => by unfold pOn; rw [e]
  have hs : ∀ i, enS (oA X s f) i = enS X i := by
    intro i
    induction i with
    | zero => rfl
    | succ i ih =>
      show enS (oA X s f) i + (X.1 4 * pOn (oA X s f) ((oA X s f).2 1 i) _ + X.1 4 / 8 * pOn (oA X s f) ((oA X s f).2 1 i) _ + pof X ((oA X s f).2 1 i)) = _
      rw [ih, e, hp, hp]
      rfl
  exact hs _
theorem endX_0 {X Y B : OV} (h : energy Y = energy X) : endX Y B (energy X) = stQ Y B := by
  unfold endX
  rw [h, Int32.sub_self, Int32.add_zero]
  have e : oI B 0 (B.1 0) = B := by
    refine Prod.ext ?_ rfl
    funext j
    simp only [upd]
    split
    · next z => rw [z]
    · rfl
  rw [e]
theorem RW_turn {w : Nat → Int32} {X B : OV} (h : RW w X B) {t : Nat} (ht : t < szN X) {d v : Int32} (hv : v = (X.2 1 t + d) &&& 7) : RW (upd w (1 + t) v) (turnX X t d) B := by
  have hz := h.1.1.1.2
  refine RW_new h (rgX_turn h.1.1 t d) ?_ (fun k hk => ?_) (fun k hk => upd_ne _ _ (by omega)) (fun _ _ => rfl)
  · rw [upd_ne _ _ (by omega)]; exact h.1.2.1.1
  · obtain ⟨q1, q2, q3⟩ := h.1.2.1.2.1 k hk
    refine ⟨?_, ?_, ?_⟩
    · by_cases hkt : k = t
      · subst hkt
        rw [upd_same, hv]
        simp [turnX, updA, upd]
      · rw [upd_ne _ _ (by omega), q1]
        simp [turnX, updA, upd, hkt]
    · rw [upd_ne _ _ (by have : szN (turnX X t d) = szN X := rfl; omega), q2]; rfl
    · rw [upd_ne _ _ (by have : szN (turnX X t d) = szN X := rfl; omega), q3]; rfl
theorem RW_held {w : Nat → Int32} {X B : OV} (h : RW w X B) {t : Nat} (ht : t < szN X) {v : Int32} (hv : v = 0 ∨ v = 1) : RW (upd w (11 + t) v) (oA X 2 (upd (X.2 2) t v)) B := by
  have hz := h.1.1.1.2
  have e : szN (oA X 2 (upd (X.2 2) t v)) = szN X := rfl
  refine RW_new h ⟨h.1.1.1, h.1.1.2.1, fun k hk => ?_⟩ ?_ (fun k hk => ?_) (fun k hk => upd_ne _ _ (by omega)) (fun _ _ => rfl)
  · obtain ⟨q1, q2, q3⟩ := h.1.1.2.2 k hk
    refine ⟨q1, ?_, q3⟩
    rw [oA_w]
    by_cases hkt : k = t
    · subst hkt; rw [upd_same]; exact hv
    · rw [upd_ne _ _ hkt]; exact q2
  · rw [upd_ne _ _ (by omega)]; exact h.1.2.1.1
  · obtain ⟨q1, q2, q3⟩ := h.1.2.1.2.1 k hk
    refine ⟨?_, ?_, ?_⟩
    · rw [upd_ne _ _ (by omega), q1]; rfl
    · rw [oA_w]
      by_cases hkt : k = t
      · subst hkt; rw [upd_same, upd_same]
      · rw [upd_ne _ _ (by omega), upd_ne _ _ hkt]; exact q2
    · rw [upd_ne _ _ (by omega), q3]; rfl
theorem RW_goal {w : Nat → Int32} {X B : OV} (h : RW w X B) {t : Nat} (ht : t < szN X) {v : Int32} (hv : v = -1000000009 ∨ ∃ n : Nat, n < 8 ∧ v = nI n) : RW (upd w (21 + t) v) (oA X 3 (upd (X.2 3) t v)) B := by
  have hz := h.1.1.1.2
  have e : szN (oA X 3 (upd (X.2 3) t v)) = szN X := rfl
  refine RW_new h ⟨h.1.1.1, h.1.1.2.1, fun k hk => ?_⟩ ?_ (fun k hk => ?_) (fun k hk => upd_ne _ _ (by omega)) (fun _ _ => rfl)
  · obtain ⟨q1, q2, q3⟩ := h.1.1.2.2 k hk
    refine ⟨q1, q2, ?_⟩
    rw [oA_w]
    by_cases hkt : k = t
    · subst hkt; rw [upd_same]; exact hv
    · rw [upd_ne _ _ hkt]; exact q3
  · rw [upd_ne _ _ (by omega)]; exact h.1.2.1.1
  · obtain ⟨q1, q2, q3⟩ := h.1.2.1.2.1 k hk
    refine ⟨?_, ?_, ?_⟩
    · rw [upd_ne _ _ (by omega), q1]; rfl
    · rw [upd_ne _ _ (by omega), q2]; rfl
    · rw [oA_w]
      by_cases hkt : k = t
      · subst hkt; rw [upd_same, upd_same]
      · rw [upd_ne _ _ (by omega), upd_ne _ _ hkt]; exact q3
theorem RW_push {w : Nat → Int32} {X B : OV} (h : RW w X B) : RW (upd w 38 (w 38 + 1)) X (oI B 3 (B.1 3 + 1)) := by
  obtain ⟨⟨p1, p2, p3⟩, p4⟩ := h
  have hz := p1.1.2
  refine ⟨⟨p1, ⟨?_, fun k hk => ⟨?_, ?_, ?_⟩, ?_, ?_, fun a => ?_⟩, okB_w p3.1 _ (by decide), ?_, ?_, ?_, ?_, ?_, fun j hj => ⟨?_, ?_, ?_⟩⟩, ?_, ?_⟩
  · rw [upd_ne _ _ (by omega)]; exact p2.1
  · rw [upd_ne _ _ (by omega)]; exact (p2.2.1 k hk).1
  · rw [upd_ne _ _ (by omega)]; exact (p2.2.1 k hk).2.1
  · rw [upd_ne _ _ (by omega)]; exact (p2.2.1 k hk).2.2
  · rw [upd_ne _ _ (by omega)]; exact p2.2.2.1
  · rw [upd_ne _ _ (by omega)]; exact p2.2.2.2.1
  · rw [upd_ne _ _ (by omega), upd_ne _ _ (by omega)]; exact p2.2.2.2.2 a
  · rw [upd_ne _ _ (by omega), p3.2.1]; exact (oI_x _ _ (by decide)).symm
  · rw [upd_ne _ _ (by omega), p3.2.2.1]; exact (oI_x _ _ (by decide)).symm
  · rw [upd_ne _ _ (by omega), p3.2.2.2.1]; exact (oI_x _ _ (by decide)).symm
  · rw [upd_same, p3.2.2.2.2.1]; exact (oI_w _ _ _).symm
  · rw [upd_ne _ _ (by omega), p3.2.2.2.2.2.1]; exact (oI_x _ _ (by decide)).symm
  · rw [upd_ne _ _ (by omega)]; exact (p3.2.2.2.2.2.2 j hj).1
  · rw [upd_ne _ _ (by omega)]; exact (p3.2.2.2.2.2.2 j hj).2.1
  · rw [upd_ne _ _ (by omega)]; exact (p3.2.2.2.2.2.2 j hj).2.2
  · rw [upd_ne _ _ (by omega)]; exact p4.1
  · rw [upd_ne _ _ (by omega)]; exact p4.2
theorem RW_field {w : Nat → Int32} {X B : OV} (h : RW w X B) {c : Nat} (hc : c < 4) (v : Int32) : RW (upd w (31 + c) v) (oI X (4 + c) v) B := by
  obtain ⟨⟨p1, p2, p3⟩, p4⟩ := h
  have hz := p1.1.2
  have ez : szN (oI X (4 + c) v) = szN X := by unfold szN; rw [oI_x _ _ (by omega)]
  have g : ∀ d, d < 4 → upd w (31 + c) v (31 + d) = (oI X (4 + c) v).1 (4 + d) := by
    intro d hd
    by_cases hdc : d = c
    · subst hdc; rw [upd_same]; exact (oI_w _ _ _).symm
    · rw [upd_ne _ _ (by omega), oI_x _ _ (by omega)]
      rcases (show d = 0 ∨ d = 1 ∨ d = 2 ∨ d = 3 by omega) with rfl | rfl | rfl | rfl
      · exact p2.2.2.1
      · exact p2.2.2.2.1
      · exact p4.1
      · exact p4.2
  have hr : rgX (oI X (4 + c) v) := ⟨⟨by rw [ez, oI_x _ _ (by omega)]; exact p1.1.1, by rw [ez]; exact p1.1.2⟩, by rw [ez]; exact p1.2.1, fun k hk => p1.2.2 k (by rw [← ez]; exact hk)⟩
  refine ⟨⟨hr, ⟨?_, fun k hk => ⟨?_, ?_, ?_⟩, g 0 (by omega), g 1 (by omega), fun a => ?_⟩, p3.1, ?_, ?_, ?_, ?_, ?_, fun j hj => ⟨?_, ?_, ?_⟩⟩, g 2 (by omega), g 3 (by omega)⟩
  · rw [upd_ne _ _ (by omega), oI_x _ _ (by omega)]; exact p2.1
  · rw [upd_ne _ _ (by omega)]; exact (p2.2.1 k (by rw [← ez]; exact hk)).1
  · rw [upd_ne _ _ (by omega)]; exact (p2.2.1 k (by rw [← ez]; exact hk)).2.1
  · rw [upd_ne _ _ (by omega)]; exact (p2.2.1 k (by rw [← ez]; exact hk)).2.2
  · rw [g 2 (by omega), g 3 (by omega)]; rfl
  · rw [upd_ne _ _ (by omega)]; exact p3.2.1
  · rw [upd_ne _ _ (by omega)]; exact p3.2.2.1
  · rw [upd_ne _ _ (by omega)]; exact p3.2.2.2.1
  · rw [upd_ne _ _ (by omega)]; exact p3.2.2.2.2.1
  · rw [upd_ne _ _ (by omega)]; exact p3.2.2.2.2.2.1
  · rw [upd_ne _ _ (by omega)]; exact (p3.2.2.2.2.2.2 j hj).1
  · rw [upd_ne _ _ (by omega)]; exact (p3.2.2.2.2.2.2 j hj).2.1
  · rw [upd_ne _ _ (by omega)]; exact (p3.2.2.2.2.2.2 j hj).2.2
theorem RW_lay {w : Nat → Int32} {X B : OV} (h : RW w X B) {n : Nat} (h1 : 1 ≤ n) (h2 : n ≤ 10) {v : Int32} (hv : v = nI n) : RW (laF w v 10) (swX X v) B := by
  have e : (swX X v).1 0 = nI n := by rw [← hv]; show upd X.1 0 v 0 = v; exact upd_same _ _ _
  have e2 : szN (swX X v) = n := szN_of e (by omega)
  have f1 : (swX X v).2 1 = fun _ => 0 := by simp [swX, updA]
  have f2 : (swX X v).2 2 = fun _ => 0 := by simp [swX, updA]
  have f3 : (swX X v).2 3 = fun _ => -1000000009 := by simp [swX, updA]
  refine RW_new h ⟨⟨by rw [e2]; exact e, by omega⟩, by omega, fun k hk => ?_⟩ ?_ (fun k hk => ?_) (fun k hk => ?_) (fun j hj => upd_ne _ _ hj)
  · rw [f1, f2, f3]; exact ⟨⟨0, by decide, rfl⟩, Or.inl rfl, Or.inl rfl⟩
  · rw [e, ← hv]; simp [laF]
  · rw [f1, f2, f3]
    unfold laF
    refine ⟨?_, ?_, ?_⟩
    · rw [if_neg (by omega), if_pos (by omega)]
    · rw [if_neg (by omega), if_neg (by omega), if_pos (by omega)]
    · rw [if_neg (by omega), if_neg (by omega), if_neg (by omega), if_pos (by omega)]
  · unfold laF
    rw [if_neg (by omega), if_neg (by omega), if_neg (by omega), if_neg (by omega)]
def clF (w : Nat → Int32) (i : Nat) : Nat → Int32 := fun m => if 35 ≤ m ∧ m < 35 + i then 0 else w m
theorem clF_s (w : Nat → Int32) (i : Nat) : upd (clF w i) (35 + i) 0 = clF w (i + 1) := by
  funext m
  simp only [upd, clF]
  (repeat' split) <;> first | rfl | (exfalso; omega)
theorem clF_0 (w : Nat → Int32) : clF w 0 = w := by
  funext m
  unfold clF
  rw [if_neg (by omega)]
theorem RW_clr {w : Nat → Int32} {X B : OV} (h : RW w X B) : RW (clF w 5) X (clX B) := by
  obtain ⟨⟨p1, p2, p3⟩, p4⟩ := h
  have hz := p1.1.2
  have hi : ∀ m, m < 35 → clF w 5 m = w m := fun m hm => by unfold clF; rw [if_neg (by omega)]
  have hm : ∀ m, 35 ≤ m → m < 40 → clF w 5 m = 0 := fun m h1 h2 => by unfold clF; rw [if_pos (by omega)]
  have e4 : (clX B).1 4 = 0 := by simp [clX, upd]
  have el : lgN (clX B) = 0 := by unfold lgN; rw [e4]; rfl
  refine ⟨⟨p1, ⟨?_, fun k hk => ⟨?_, ?_, ?_⟩, ?_, ?_, fun a => ?_⟩, okB_cl B, ?_, ?_, ?_, ?_, ?_, fun j hj => absurd hj (by omega)⟩, ?_, ?_⟩
  · rw [hi _ (by omega)]; exact p2.1
  · rw [hi _ (by omega)]; exact (p2.2.1 k hk).1
  · rw [hi _ (by omega)]; exact (p2.2.1 k hk).2.1
  · rw [hi _ (by omega)]; exact (p2.2.1 k hk).2.2
  · rw [hi _ (by omega)]; exact p2.2.2.1
  · rw [hi _ (by omega)]; exact p2.2.2.2.1
  · rw [hi _ (by omega), hi _ (by omega)]; exact p2.2.2.2.2 a
  · rw [hm _ (by omega) (by omega)]; simp [clX, upd]
  · rw [hm _ (by omega) (by omega)]; simp [clX, upd]
  · rw [hm _ (by omega) (by omega)]; simp [clX, upd]
  · rw [hm _ (by omega) (by omega)]; simp [clX, upd]
  · rw [hm _ (by omega) (by omega)]; exact e4.symm
  · rw [hi _ (by omega)]; exact p4.1
  · rw [hi _ (by omega)]; exact p4.2
