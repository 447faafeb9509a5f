section Rows
variable {Γ : GT} {K : KT} {cc : ByteArray} {own : String} {nL d : Nat} {M : Mem} {L : List (Nat × Value)} {pc q : Nat} {st : List Value}
theorem wm_iconst {n : Int} (v : Int32) (hg : Gd Γ K cc own nL d) (hd : decode cc pc = .ok (.iconst n, 1)) (hp : pc + 1 = q) (hv : Int32.ofInt n = v) (kk : WM Γ K M L q (.int v :: st)) : WM Γ K M L pc (st) := by
  subst hp
  exact fun H locs ls hP hS hl => lv_iconst hg.1 hg.2.1 hd hv (kk H locs ls hP hS hl)
theorem wm_bipush {n : Int} (v : Int32) (hg : Gd Γ K cc own nL d) (hd : decode cc pc = .ok (.bipush n, 2)) (hp : pc + 2 = q) (hv : (Int8.ofInt n).toInt32 = v) (kk : WM Γ K M L q (.int v :: st)) : WM Γ K M L pc (st) := by
  subst hp
  exact fun H locs ls hP hS hl => lv_bipush hg.1 hg.2.1 hd hv (kk H locs ls hP hS hl)
theorem wm_sipush {n : Int} (v : Int32) (hg : Gd Γ K cc own nL d) (hd : decode cc pc = .ok (.sipush n, 3)) (hp : pc + 3 = q) (hv : (Int16.ofInt n).toInt32 = v) (kk : WM Γ K M L q (.int v :: st)) : WM Γ K M L pc (st) := by
  subst hp
  exact fun H locs ls hP hS hl => lv_sipush hg.1 hg.2.1 hd hv (kk H locs ls hP hS hl)
theorem wm_ldc {ix : Nat} (v : Int32) (hg : Gd Γ K cc own nL d) (hd : decode cc pc = .ok (.ldc ix, 2)) (hp : pc + 2 = q) (hw : Cond.constant own ix v ∈ wsL_law) (kk : WM Γ K M L q (.int v :: st)) : WM Γ K M L pc (st) := by
  subst hp
  exact fun H locs ls hP hS hl => lv_ldc hg.1 hg.2.1 hg.2.2.2.1 (hg.2.2.2.2.1 _ hw) hd (kk H locs ls hP hS hl)
theorem wm_iload_n {k : Fin 4} {i : Nat} {x : Int32} (hg : Gd Γ K cc own nL d) (hd : decode cc pc = .ok (.iload_n k, 1)) (hp : pc + 1 = q) (hi : (k : Nat) = i) (hv : ldL L i = some (.int x)) (kk : WM Γ K M L q (.int x :: st)) : WM Γ K M L pc (st) := by
  subst hp
  exact fun H locs ls hP hS hl => lv_iload_n hg.1 hg.2.1 hd hi (hl.2.2 _ (ldL_has hv)) (kk H locs ls hP hS hl)
theorem wm_iload {i : Nat} {x : Int32} (hg : Gd Γ K cc own nL d) (hd : decode cc pc = .ok (.iload i, 2)) (hp : pc + 2 = q) (hv : ldL L i = some (.int x)) (kk : WM Γ K M L q (.int x :: st)) : WM Γ K M L pc (st) := by
  subst hp
  exact fun H locs ls hP hS hl => lv_iload hg.1 hg.2.1 hd (hl.2.2 _ (ldL_has hv)) (kk H locs ls hP hS hl)
theorem wm_aload_n {k : Fin 4} {i : Nat} {x : Nat} (hg : Gd Γ K cc own nL d) (hd : decode cc pc = .ok (.aload_n k, 1)) (hp : pc + 1 = q) (hi : (k : Nat) = i) (hv : ldL L i = some (.ref x)) (kk : WM Γ K M L q (.ref x :: st)) : WM Γ K M L pc (st) := by
  subst hp
  exact fun H locs ls hP hS hl => lv_aload_n hg.1 hg.2.1 hd hi (hl.2.2 _ (ldL_has hv)) (kk H locs ls hP hS hl)
theorem wm_aload {i : Nat} {x : Nat} (hg : Gd Γ K cc own nL d) (hd : decode cc pc = .ok (.aload i, 2)) (hp : pc + 2 = q) (hv : ldL L i = some (.ref x)) (kk : WM Γ K M L q (.ref x :: st)) : WM Γ K M L pc (st) := by
  subst hp
  exact fun H locs ls hP hS hl => lv_aload hg.1 hg.2.1 hd (hl.2.2 _ (ldL_has hv)) (kk H locs ls hP hS hl)
theorem wm_aload_nN {k : Fin 4} {i : Nat} (hg : Gd Γ K cc own nL d) (hd : decode cc pc = .ok (.aload_n k, 1)) (hp : pc + 1 = q) (hi : (k : Nat) = i) (hv : ldL L i = some .null) (kk : WM Γ K M L q (.null :: st)) : WM Γ K M L pc (st) := by
  subst hp
  exact fun H locs ls hP hS hl => lv_aload_nN hg.1 hg.2.1 hd hi (hl.2.2 _ (ldL_has hv)) (kk H locs ls hP hS hl)
theorem wm_istore_n {k : Fin 4} {i : Nat} {x : Int32} {L' : List (Nat × Value)} (hg : Gd Γ K cc own nL d) (hd : decode cc pc = .ok (.istore_n k, 1)) (hp : pc + 1 = q) (hi : (k : Nat) = i) (hL : stL L i (.int x) = L') (hc : (cat1 L && ordL L && Nat.blt i nL) = true) (kk : WM Γ K M L' q st) : WM Γ K M L pc (.int x :: st) := by
  subst hp
  exact wm_store (len := 1) hg hL hc (fun H locs ls lv' h hn hl k => lv_istore_n hg.1 hg.2.1 hd hi h hn hl k) kk
theorem wm_istore {i : Nat} {x : Int32} {L' : List (Nat × Value)} (hg : Gd Γ K cc own nL d) (hd : decode cc pc = .ok (.istore i, 2)) (hp : pc + 2 = q) (hL : stL L i (.int x) = L') (hc : (cat1 L && ordL L && Nat.blt i nL) = true) (kk : WM Γ K M L' q st) : WM Γ K M L pc (.int x :: st) := by
  subst hp
  exact wm_store (len := 2) hg hL hc (fun H locs ls lv' h hn hl k => lv_istore hg.1 hg.2.1 hd h hn hl k) kk
theorem wm_astore_n {k : Fin 4} {i : Nat} {x : Nat} {L' : List (Nat × Value)} (hg : Gd Γ K cc own nL d) (hd : decode cc pc = .ok (.astore_n k, 1)) (hp : pc + 1 = q) (hi : (k : Nat) = i) (hL : stL L i (.ref x) = L') (hc : (cat1 L && ordL L && Nat.blt i nL) = true) (kk : WM Γ K M L' q st) : WM Γ K M L pc (.ref x :: st) := by
  subst hp
  exact wm_store (len := 1) hg hL hc (fun H locs ls lv' h hn hl k => lv_astore_n hg.1 hg.2.1 hd hi h hn hl k) kk
theorem wm_astore {i : Nat} {x : Nat} {L' : List (Nat × Value)} (hg : Gd Γ K cc own nL d) (hd : decode cc pc = .ok (.astore i, 2)) (hp : pc + 2 = q) (hL : stL L i (.ref x) = L') (hc : (cat1 L && ordL L && Nat.blt i nL) = true) (kk : WM Γ K M L' q st) : WM Γ K M L pc (.ref x :: st) := by
  subst hp
  exact wm_store (len := 2) hg hL hc (fun H locs ls lv' h hn hl k => lv_astore hg.1 hg.2.1 hd h hn hl k) kk
theorem lv_iinc0 {i : Nat} {L L' : List (Nat × Value)} {x v : Int32} {n : Int} (hg : Gd Γ K cc own nL d) (hd : decode cc pc = .ok (.iinc i n, 3)) (hp : pc + 3 = q) (hx : ldL L i = some (.int x)) (hv : x + Int32.ofInt n = v) (hL : stL L i (.int v) = L') (hc : (cat1 L && ordL L && Nat.blt i nL) = true) (kk : WM Γ K M L' q st) : WM Γ K M L pc st := by
  subst hp
  intro H locs ls hP hS hl
  simp only [Bool.and_eq_true] at hc
  obtain ⟨⟨hc, ho⟩, hn⟩ := hc
  have hn : i < (kC K).maxLocals := by rw [hg.2.2.1]; exact Nat.blt_eq.mp hn
  obtain ⟨k, hk⟩ := List.getElem?_of_mem (ldL_has hx)
  refine lv_iinc hg.1 hg.2.1 hd hl hk hv hn rfl (fun ls' hl' => kk H locs ls' hP hS ⟨hl'.1, hl'.2.1, fun q hq => ?_⟩)
  subst hL
  refine hl'.2.2 q ?_
  rcases stL_in q (ordL_pw ho) hq with rfl | ⟨h1, h2⟩
  · exact List.mem_cons_self
  · refine List.mem_cons_of_mem _ (List.mem_filter.mpr ⟨h1, ?_⟩)
    have h3 : q.2.category = 1 := Nat.eq_of_beq_eq_true (List.all_eq_true.mp hc q h1)
    simp [h2, h3]
theorem wm_iinc {i : Nat} {L' : List (Nat × Value)} {x : Int32} {n : Int} (v : Int32) (hg : Gd Γ K cc own nL d) (hd : decode cc pc = .ok (.iinc i n, 3)) (hp : pc + 3 = q) (hx : ldL L i = some (.int x)) (hv : x + Int32.ofInt n = v) (hL : stL L i (.int v) = L') (hc : (cat1 L && ordL L && Nat.blt i nL) = true) (kk : WM Γ K M L' q st) : WM Γ K M L pc st := lv_iinc0 hg hd hp hx hv hL hc kk
theorem wm_iadd {x y : Int32} (hg : Gd Γ K cc own nL d) (hd : decode cc pc = .ok (.iadd, 1)) (hp : pc + 1 = q)  (kk : WM Γ K M L q (.int (x + y) :: st)) : WM Γ K M L pc (.int y :: .int x :: st) := by
  subst hp
  exact fun H locs ls hP hS hl => lv_iadd hg.1 hg.2.1 hd (kk H locs ls hP hS hl)
theorem wm_isub {x y : Int32} (hg : Gd Γ K cc own nL d) (hd : decode cc pc = .ok (.isub, 1)) (hp : pc + 1 = q)  (kk : WM Γ K M L q (.int (x - y) :: st)) : WM Γ K M L pc (.int y :: .int x :: st) := by
  subst hp
  exact fun H locs ls hP hS hl => lv_isub hg.1 hg.2.1 hd (kk H locs ls hP hS hl)
theorem wm_imul {x y : Int32} (hg : Gd Γ K cc own nL d) (hd : decode cc pc = .ok (.imul, 1)) (hp : pc + 1 = q)  (kk : WM Γ K M L q (.int (x * y) :: st)) : WM Γ K M L pc (.int y :: .int x :: st) := by
  subst hp
  exact fun H locs ls hP hS hl => lv_imul hg.1 hg.2.1 hd (kk H locs ls hP hS hl)
theorem wm_iand {x y : Int32} (hg : Gd Γ K cc own nL d) (hd : decode cc pc = .ok (.iand, 1)) (hp : pc + 1 = q)  (kk : WM Γ K M L q (.int (x &&& y) :: st)) : WM Γ K M L pc (.int y :: .int x :: st) := by
  subst hp
  exact fun H locs ls hP hS hl => lv_iand hg.1 hg.2.1 hd (kk H locs ls hP hS hl)
theorem wm_ior {x y : Int32} (hg : Gd Γ K cc own nL d) (hd : decode cc pc = .ok (.ior, 1)) (hp : pc + 1 = q)  (kk : WM Γ K M L q (.int (x ||| y) :: st)) : WM Γ K M L pc (.int y :: .int x :: st) := by
  subst hp
  exact fun H locs ls hP hS hl => lv_ior hg.1 hg.2.1 hd (kk H locs ls hP hS hl)
theorem wm_ishl {x y : Int32} (hg : Gd Γ K cc own nL d) (hd : decode cc pc = .ok (.ishl, 1)) (hp : pc + 1 = q)  (kk : WM Γ K M L q (.int (x <<< (y &&& 31)) :: st)) : WM Γ K M L pc (.int y :: .int x :: st) := by
  subst hp
  exact fun H locs ls hP hS hl => lv_ishl hg.1 hg.2.1 hd (kk H locs ls hP hS hl)
theorem wm_ishr {x y : Int32} (hg : Gd Γ K cc own nL d) (hd : decode cc pc = .ok (.ishr, 1)) (hp : pc + 1 = q)  (kk : WM Γ K M L q (.int (x >>> (y &&& 31)) :: st)) : WM Γ K M L pc (.int y :: .int x :: st) := by
  subst hp
  exact fun H locs ls hP hS hl => lv_ishr hg.1 hg.2.1 hd (kk H locs ls hP hS hl)
theorem wm_idiv {x y : Int32} (hg : Gd Γ K cc own nL d) (hd : decode cc pc = .ok (.idiv, 1)) (hp : pc + 1 = q) (hne : ¬ y = 0) (kk : WM Γ K M L q (.int (x / y) :: st)) : WM Γ K M L pc (.int y :: .int x :: st) := by
  subst hp
  exact fun H locs ls hP hS hl => lv_idiv hg.1 hg.2.1 hd hne (kk H locs ls hP hS hl)
theorem wm_irem {x y : Int32} (hg : Gd Γ K cc own nL d) (hd : decode cc pc = .ok (.irem, 1)) (hp : pc + 1 = q) (hne : ¬ y = 0) (kk : WM Γ K M L q (.int (x - x / y * y) :: st)) : WM Γ K M L pc (.int y :: .int x :: st) := by
  subst hp
  exact fun H locs ls hP hS hl => lv_irem hg.1 hg.2.1 hd hne (kk H locs ls hP hS hl)
theorem wm_ineg {x : Int32} (hg : Gd Γ K cc own nL d) (hd : decode cc pc = .ok (.ineg, 1)) (hp : pc + 1 = q)  (kk : WM Γ K M L q (.int (-x) :: st)) : WM Γ K M L pc (.int x :: st) := by
  subst hp
  exact fun H locs ls hP hS hl => lv_ineg hg.1 hg.2.1 hd (kk H locs ls hP hS hl)
theorem wm_i2f {x : Int32} (hg : Gd Γ K cc own nL d) (hd : decode cc pc = .ok (.i2f, 1)) (hp : pc + 1 = q)  (kk : WM Γ K M L q (.float (FP.i2f x) :: st)) : WM Γ K M L pc (.int x :: st) := by
  subst hp
  exact fun H locs ls hP hS hl => lv_i2f hg.1 hg.2.1 hd (kk H locs ls hP hS hl)
theorem wm_fdiv {x y : UInt32} (hg : Gd Γ K cc own nL d) (hd : decode cc pc = .ok (.fdiv, 1)) (hp : pc + 1 = q) (hn : vf_n32 (FP.fdiv x y)) (kk : WM Γ K M L q (.float (FP.fdiv x y) :: st)) : WM Γ K M L pc (.float y :: .float x :: st) := by
  subst hp
  exact fun H locs ls hP hS hl => lv_fdiv hg.1 hg.2.1 hd hn (kk H locs ls hP hS hl)
theorem wm_dup {va : Value} (hg : Gd Γ K cc own nL d) (hd : decode cc pc = .ok (.dup, 1)) (hp : pc + 1 = q) (hva : va.category = 1) (kk : WM Γ K M L q (va :: va :: st)) : WM Γ K M L pc (va :: st) := by
  subst hp
  exact fun H locs ls hP hS hl => lv_dup hg.1 hg.2.1 hd hva (kk H locs ls hP hS hl)
theorem wm_dup2 {va vb : Value} (hg : Gd Γ K cc own nL d) (hd : decode cc pc = .ok (.dup2, 1)) (hp : pc + 1 = q) (hva : va.category = 1) (hvb : vb.category = 1) (kk : WM Γ K M L q (va :: vb :: va :: vb :: st)) : WM Γ K M L pc (va :: vb :: st) := by
  subst hp
  exact fun H locs ls hP hS hl => lv_dup2_11 hg.1 hg.2.1 hd hva hvb (kk H locs ls hP hS hl)
theorem wm_pop {va : Value} (hg : Gd Γ K cc own nL d) (hd : decode cc pc = .ok (.pop, 1)) (hp : pc + 1 = q) (hva : va.category = 1) (kk : WM Γ K M L q (st)) : WM Γ K M L pc (va :: st) := by
  subst hp
  exact fun H locs ls hP hS hl => lv_pop hg.1 hg.2.1 hd hva (kk H locs ls hP hS hl)
theorem wm_null  (hg : Gd Γ K cc own nL d) (hd : decode cc pc = .ok (.aconst_null, 1)) (hp : pc + 1 = q)  (kk : WM Γ K M L q (.null :: st)) : WM Γ K M L pc (st) := by
  subst hp
  exact fun H locs ls hP hS hl => lv_null hg.1 hg.2.1 hd (kk H locs ls hP hS hl)
theorem wm_goto {off : Int} (hg : Gd Γ K cc own nL d) (hd : decode cc pc = .ok (.goto off, 3)) (hp : (pc : Int) + off = (q : Int)) (kk : WM Γ K M L q st) : WM Γ K M L pc st := fun H locs ls hP hS hl => lv_goto hg.1 hg.2.1 hd hp (kk H locs ls hP hS hl)
theorem wm_if_eq {x : Int32} {off : Int} {q2 : Nat} (hg : Gd Γ K cc own nL d) (hd : decode cc pc = .ok (.ifCond .eq off, 3)) (hp : (pc : Int) + off = (q : Int)) (hp2 : pc + 3 = q2) (kt : x = 0 → WM Γ K M L q st) (kf : ¬ (x = 0) → WM Γ K M L q2 st) : WM Γ K M L pc (.int x :: st) := by
  subst hp2
  exact fun H locs ls hP hS hl => lv_if_eq hg.1 hg.2.1 hd hp (fun h => kt h H locs ls hP hS hl) (fun h => kf h H locs ls hP hS hl)
theorem wm_if_ne {x : Int32} {off : Int} {q2 : Nat} (hg : Gd Γ K cc own nL d) (hd : decode cc pc = .ok (.ifCond .ne off, 3)) (hp : (pc : Int) + off = (q : Int)) (hp2 : pc + 3 = q2) (kt : ¬ x = 0 → WM Γ K M L q st) (kf : x = 0 → WM Γ K M L q2 st) : WM Γ K M L pc (.int x :: st) := by
  subst hp2
  exact fun H locs ls hP hS hl => lv_if_ne hg.1 hg.2.1 hd hp (fun h => kt h H locs ls hP hS hl) (fun h => kf h H locs ls hP hS hl)
theorem wm_if_lt {x : Int32} {off : Int} {q2 : Nat} (hg : Gd Γ K cc own nL d) (hd : decode cc pc = .ok (.ifCond .lt off, 3)) (hp : (pc : Int) + off = (q : Int)) (hp2 : pc + 3 = q2) (kt : x < 0 → WM Γ K M L q st) (kf : ¬ (x < 0) → WM Γ K M L q2 st) : WM Γ K M L pc (.int x :: st) := by
  subst hp2
  exact fun H locs ls hP hS hl => lv_if_lt hg.1 hg.2.1 hd hp (fun h => kt h H locs ls hP hS hl) (fun h => kf h H locs ls hP hS hl)
theorem wm_if_ge {x : Int32} {off : Int} {q2 : Nat} (hg : Gd Γ K cc own nL d) (hd : decode cc pc = .ok (.ifCond .ge off, 3)) (hp : (pc : Int) + off = (q : Int)) (hp2 : pc + 3 = q2) (kt : 0 ≤ x → WM Γ K M L q st) (kf : ¬ (0 ≤ x) → WM Γ K M L q2 st) : WM Γ K M L pc (.int x :: st) := by
  subst hp2
  exact fun H locs ls hP hS hl => lv_if_ge hg.1 hg.2.1 hd hp (fun h => kt h H locs ls hP hS hl) (fun h => kf h H locs ls hP hS hl)
theorem wm_if_gt {x : Int32} {off : Int} {q2 : Nat} (hg : Gd Γ K cc own nL d) (hd : decode cc pc = .ok (.ifCond .gt off, 3)) (hp : (pc : Int) + off = (q : Int)) (hp2 : pc + 3 = q2) (kt : 0 < x → WM Γ K M L q st) (kf : ¬ (0 < x) → WM Γ K M L q2 st) : WM Γ K M L pc (.int x :: st) := by
  subst hp2
  exact fun H locs ls hP hS hl => lv_if_gt hg.1 hg.2.1 hd hp (fun h => kt h H locs ls hP hS hl) (fun h => kf h H locs ls hP hS hl)
theorem wm_if_le {x : Int32} {off : Int} {q2 : Nat} (hg : Gd Γ K cc own nL d) (hd : decode cc pc = .ok (.ifCond .le off, 3)) (hp : (pc : Int) + off = (q : Int)) (hp2 : pc + 3 = q2) (kt : x ≤ 0 → WM Γ K M L q st) (kf : ¬ (x ≤ 0) → WM Γ K M L q2 st) : WM Γ K M L pc (.int x :: st) := by
  subst hp2
  exact fun H locs ls hP hS hl => lv_if_le hg.1 hg.2.1 hd hp (fun h => kt h H locs ls hP hS hl) (fun h => kf h H locs ls hP hS hl)
theorem wm_icmp_eq {x y : Int32} {off : Int} {q2 : Nat} (hg : Gd Γ K cc own nL d) (hd : decode cc pc = .ok (.if_icmp .eq off, 3)) (hp : (pc : Int) + off = (q : Int)) (hp2 : pc + 3 = q2) (kt : x = y → WM Γ K M L q st) (kf : ¬ (x = y) → WM Γ K M L q2 st) : WM Γ K M L pc (.int y :: .int x :: st) := by
  subst hp2
  exact fun H locs ls hP hS hl => lv_icmp_eq hg.1 hg.2.1 hd hp (fun h => kt h H locs ls hP hS hl) (fun h => kf h H locs ls hP hS hl)
theorem wm_icmp_ne {x y : Int32} {off : Int} {q2 : Nat} (hg : Gd Γ K cc own nL d) (hd : decode cc pc = .ok (.if_icmp .ne off, 3)) (hp : (pc : Int) + off = (q : Int)) (hp2 : pc + 3 = q2) (kt : ¬ x = y → WM Γ K M L q st) (kf : x = y → WM Γ K M L q2 st) : WM Γ K M L pc (.int y :: .int x :: st) := by
  subst hp2
  exact fun H locs ls hP hS hl => lv_icmp_ne hg.1 hg.2.1 hd hp (fun h => kt h H locs ls hP hS hl) (fun h => kf h H locs ls hP hS hl)
theorem wm_icmp_lt {x y : Int32} {off : Int} {q2 : Nat} (hg : Gd Γ K cc own nL d) (hd : decode cc pc = .ok (.if_icmp .lt off, 3)) (hp : (pc : Int) + off = (q : Int)) (hp2 : pc + 3 = q2) (kt : x < y → WM Γ K M L q st) (kf : ¬ (x < y) → WM Γ K M L q2 st) : WM Γ K M L pc (.int y :: .int x :: st) := by
  subst hp2
  exact fun H locs ls hP hS hl => lv_icmp_lt hg.1 hg.2.1 hd hp (fun h => kt h H locs ls hP hS hl) (fun h => kf h H locs ls hP hS hl)
theorem wm_icmp_ge {x y : Int32} {off : Int} {q2 : Nat} (hg : Gd Γ K cc own nL d) (hd : decode cc pc = .ok (.if_icmp .ge off, 3)) (hp : (pc : Int) + off = (q : Int)) (hp2 : pc + 3 = q2) (kt : y ≤ x → WM Γ K M L q st) (kf : ¬ (y ≤ x) → WM Γ K M L q2 st) : WM Γ K M L pc (.int y :: .int x :: st) := by
  subst hp2
  exact fun H locs ls hP hS hl => lv_icmp_ge hg.1 hg.2.1 hd hp (fun h => kt h H locs ls hP hS hl) (fun h => kf h H locs ls hP hS hl)
theorem wm_icmp_gt {x y : Int32} {off : Int} {q2 : Nat} (hg : Gd Γ K cc own nL d) (hd : decode cc pc = .ok (.if_icmp .gt off, 3)) (hp : (pc : Int) + off = (q : Int)) (hp2 : pc + 3 = q2) (kt : y < x → WM Γ K M L q st) (kf : ¬ (y < x) → WM Γ K M L q2 st) : WM Γ K M L pc (.int y :: .int x :: st) := by
  subst hp2
  exact fun H locs ls hP hS hl => lv_icmp_gt hg.1 hg.2.1 hd hp (fun h => kt h H locs ls hP hS hl) (fun h => kf h H locs ls hP hS hl)
theorem wm_icmp_le {x y : Int32} {off : Int} {q2 : Nat} (hg : Gd Γ K cc own nL d) (hd : decode cc pc = .ok (.if_icmp .le off, 3)) (hp : (pc : Int) + off = (q : Int)) (hp2 : pc + 3 = q2) (kt : x ≤ y → WM Γ K M L q st) (kf : ¬ (x ≤ y) → WM Γ K M L q2 st) : WM Γ K M L pc (.int y :: .int x :: st) := by
  subst hp2
  exact fun H locs ls hP hS hl => lv_icmp_le hg.1 hg.2.1 hd hp (fun h => kt h H locs ls hP hS hl) (fun h => kf h H locs ls hP hS hl)
theorem wm_ifnull {x : Nat} {off : Int} (hg : Gd Γ K cc own nL d) (hd : decode cc pc = .ok (.ifnull off, 3)) (hp : pc + 3 = q) (kk : WM Γ K M L q st) : WM Γ K M L pc (.ref x :: st) := by
  subst hp
  exact fun H locs ls hP hS hl => lv_ifnull hg.1 hg.2.1 hd (kk H locs ls hP hS hl)
theorem wm_ifnullN {off : Int} (hg : Gd Γ K cc own nL d) (hd : decode cc pc = .ok (.ifnull off, 3)) (hp : (pc : Int) + off = (q : Int)) (kk : WM Γ K M L q st) : WM Γ K M L pc (.null :: st) := fun H locs ls hP hS hl => lv_ifnullN hg.1 hg.2.1 hd hp (kk H locs ls hP hS hl)
theorem wm_tableOut {dflt lo hi : Int} {offs : Array Int} {len : Nat} {x : Int32} (hg : Gd Γ K cc own nL d) (hd : decode cc pc = .ok (.tableswitch dflt lo hi offs, len)) (h : x.toInt < lo ∨ hi < x.toInt) (hp : (pc : Int) + dflt = (q : Int)) (kk : WM Γ K M L q st) : WM Γ K M L pc (.int x :: st) := fun H locs ls hP hS hl => lv_tableOut hg.1 hg.2.1 hd h hp (kk H locs ls hP hS hl)
theorem wm_tableIn {dflt lo hi : Int} {offs : Array Int} {len : Nat} {x : Int32} {off : Int} (hg : Gd Γ K cc own nL d) (hd : decode cc pc = .ok (.tableswitch dflt lo hi offs, len)) (h1 : ¬ x.toInt < lo) (h2 : ¬ hi < x.toInt) (ho : offs[(x.toInt - lo).toNat]? = some off) (hp : (pc : Int) + off = (q : Int)) (kk : WM Γ K M L q st) : WM Γ K M L pc (.int x :: st) := fun H locs ls hP hS hl => lv_tableIn hg.1 hg.2.1 hd h1 h2 ho hp (kk H locs ls hP hS hl)
theorem wm_lookup {dflt : Int} {ps : Array (Int × Int)} {len : Nat} {x : Int32} {off : Int} (hg : Gd Γ K cc own nL d) (hd : decode cc pc = .ok (.lookupswitch dflt ps, len)) (ha : (ps.toList.zip (ps.toList.drop 1)).all (fun (a, next) => a.1 < next.1) = true) (ho : Op.lookupswitch.offset ps.toList dflt x.toInt = off) (hp : (pc : Int) + off = (q : Int)) (kk : WM Γ K M L q st) : WM Γ K M L pc (.int x :: st) := fun H locs ls hP hS hl => lv_lookup hg.1 hg.2.1 hd ha ho hp (kk H locs ls hP hS hl)
/-! ===== fields ===== -/
abbrev TT (ci : Nat) : u_T := match ci with
  | 0 => TX0
  | 1 => TX1
  | 2 => TX2
  | 3 => TX3
  | 4 => TX4
  | _ => TX5
abbrev NN (ci : Nat) : Nat := match ci with
  | 0 => 8
  | 1 => 8
  | 2 => 2
  | 3 => 4
  | 4 => 7
  | _ => 21
abbrev RR (ci : Nat) : String := match ci with
  | 0 => RX0
  | 1 => RX1
  | 2 => RX2
  | 3 => RX3
  | 4 => RX4
  | _ => RX5
theorem inW {ci : Nat} (h : ci < 6) : ∀ w ∈ u_ws (RR ci) (TT ci) (NN ci), w ∈ wsL_law := by
  rcases (show ci = 0 ∨ ci = 1 ∨ ci = 2 ∨ ci = 3 ∨ ci = 4 ∨ ci = 5 by omega) with rfl | rfl | rfl | rfl | rfl | rfl
  · exact inlX0
  · exact inlX1
  · exact inlX2
  · exact inlX3
  · exact inlX4
  · exact inlX5
theorem clW {ci : Nat} (h : ci < 6) : vwCl[ci]? = some (RR ci, TT ci, NN ci) := by
  rcases (show ci = 0 ∨ ci = 1 ∨ ci = 2 ∨ ci = 3 ∨ ci = 4 ∨ ci = 5 by omega) with rfl | rfl | rfl | rfl | rfl | rfl <;> rfl
theorem nmW {ci : Nat} (h : ci < 6) : ∀ a, a < NN ci → ∀ b, b < NN ci → a ≠ b → (TT ci a).2.1 ≠ (TT ci b).2.1 := by
  rcases (show ci = 0 ∨ ci = 1 ∨ ci = 2 ∨ ci = 3 ∨ ci = 4 ∨ ci = 5 by omega) with rfl | rfl | rfl | rfl | rfl | rfl
  · exact nmX0
  · exact nmX1
  · exact nmX2
  · exact nmX3
  · exact nmX4
  · exact nmX5
abbrev tyW (ci : Nat) : Nat → FieldType := match ci with
  | 0 => tyX0
  | 1 => tyX1
  | 2 => tyX2
  | 3 => tyX3
  | 4 => tyX4
  | _ => tyX5
theorem tyW_ok {ci : Nat} (h : ci < 6) : ∀ k, k < NN ci → parseFieldDescriptor (TT ci k).2.2.1 = some (tyW ci k) := by
  rcases (show ci = 0 ∨ ci = 1 ∨ ci = 2 ∨ ci = 3 ∨ ci = 4 ∨ ci = 5 by omega) with rfl | rfl | rfl | rfl | rfl | rfl
  · exact tyX0_ok
  · exact tyX1_ok
  · exact tyX2_ok
  · exact tyX3_ok
  · exact tyX4_ok
  · exact tyX5_ok
/-- the pool's row ix of a class names the field j of the class ci -/
def FL (own : String) (ix ci j : Nat) : Prop := (Cond.fieldLink own ix (TT ci j).1 (TT ci j).2.1 (TT ci j).2.2.1 ∈ wsL_law ∧ ci < 6 ∧ j < NN ci)
theorem wm_get {ci i j ix : Nat} {v : Value} (hg : Gd Γ K cc own nL d) (hd : decode cc pc = .ok (.getfield ix, 3)) (hp : pc + 3 = q) (hf : FL own ix ci j) (hi : i < nO ci) (hv : (flds Γ M ci i)[j]? = some v) (kk : WM Γ K M L q (v :: st)) : WM Γ K M L pc (.ref (ad Γ ci i 0) :: st) := by
  subst hp
  intro H locs ls hP hS hl
  obtain ⟨hw, hc, hj⟩ := hf
  obtain ⟨q0, hq0⟩ := mem_at Γ M (mem_keys (j := 0) hc hi (by decide) rfl)
  exact va_get (D := Γ.2.1) (ci := ci) (v := v) (C := RR ci) (T := TT ci) (N := NN ci) hg.1 hg.2.1 hg.2.2.2.2.1 (inW hc) hg.2.2.2.1 hg.2.2.2.2.2.1 hP q0 hq0 (clW hc) j hj (hg.2.2.2.2.1 _ hw) (fun _ h9 => h9) hv hd (kk H locs ls hP hS hl)
theorem isI_lt {ci j : Nat} (hc : ci < 6) (h : isI ci j = true) : j < NN ci ∧ j < (flds Γ M ci 0).length := by
  unfold isI at h
  split at h
  · have := Nat.blt_eq.mp h
    refine ⟨by show j < 8; omega, by show j < 8; omega⟩
  · simp only [Bool.or_eq_true, Nat.beq_eq] at h
    refine ⟨by show j < 8; omega, by show j < 8; omega⟩
  · simp only [Bool.or_eq_true, Nat.beq_eq] at h
    refine ⟨by show j < 4; omega, by show j < 4; omega⟩
  · simp only [Nat.beq_eq] at h
    refine ⟨by show j < 7; omega, by show j < 7; omega⟩
  · simp only [Bool.or_eq_true, Nat.beq_eq] at h
    refine ⟨by show j < 21; omega, by show j < 21; omega⟩
  · cases h
theorem flds_len (Γ : GT) (M : Mem) (ci i : Nat) : (flds Γ M ci i).length = (flds Γ M ci 0).length := by
  unfold flds
  split <;> rfl
theorem tyW_int {ci j : Nat} (h : isI ci j = true) : tyW ci j = .int ∧ (TT ci j).2.2.2 = false := by
  unfold isI at h
  split at h
  · have hj : j = 0 ∨ j = 1 ∨ j = 2 ∨ j = 3 ∨ j = 4 := by
      have := Nat.blt_eq.mp h
      omega
    rcases hj with rfl | rfl | rfl | rfl | rfl <;> exact ⟨rfl, rfl⟩
  · simp only [Bool.or_eq_true, Nat.beq_eq] at h
    rcases h with (((rfl | rfl) | rfl) | rfl) | rfl <;> exact ⟨rfl, rfl⟩
  · simp only [Bool.or_eq_true, Nat.beq_eq] at h
    rcases h with (rfl | rfl) | rfl <;> exact ⟨rfl, rfl⟩
  · simp only [Nat.beq_eq] at h
    subst h
    exact ⟨rfl, rfl⟩
  · simp only [Bool.or_eq_true, Nat.beq_eq] at h
    rcases h with (((((((((rfl | rfl) | rfl) | rfl) | rfl) | rfl) | rfl) | rfl) | rfl) | rfl) | rfl <;> exact ⟨rfl, rfl⟩
  · cases h
theorem wm_put {ci i j ix : Nat} {v : Int32} (hg : Gd Γ K cc own nL d) (hd : decode cc pc = .ok (.putfield ix, 3)) (hp : pc + 3 = q) (hf : FL own ix ci j) (hi : i < nO ci) (hj : isI ci j = true) (kk : WM Γ K (sI M ci i j v) L q st) : WM Γ K M L pc (.int v :: .ref (ad Γ ci i 0) :: st) := by
  subst hp
  intro H locs ls hP hS hl
  obtain ⟨hw, hc, hjn⟩ := hf
  obtain ⟨q0, hq0⟩ := mem_at Γ M (mem_keys (j := 0) hc hi (by decide) rfl)
  obtain ⟨hty, hfin⟩ := tyW_int hj
  refine va_put (D := Γ.2.1) (ci := ci) (v := .int v) (ty := .int) (C := RR ci) (T := TT ci) (N := NN ci) hg.1 hg.2.1 hg.2.2.2.2.1 (inW hc) (tyW ci) (tyW_ok hc) (nmW hc) hg.2.2.2.1 hg.2.2.2.2.2.1 hP (memD hg.2.2.2.2.2.2.1 M) hS q0 hq0 (clW hc) j hjn (hg.2.2.2.2.1 _ hw) (fun _ h9 => h9) hfin (by rw [tyW_ok hc j hjn, hty]) rfl rfl (by rw [flds_len]; exact (isI_lt hc hj).2) hd (fun H1 locs1 hP1 hD1 hS1 => ?_)
  rw [mem_put hg.2.2.2.2.2.2.1 v hc hi hj hq0] at hP1
  exact kk H1 locs1 ls hP1 hS1 hl
/-! ===== arrays ===== -/
theorem aOk {ci i s : Nat} (hc : ci < 6) (hi : i < nO ci) (hs : s < 18) (h : isA ci s = true) : (ci, i, s + 1) ∈ keys := mem_keys hc hi (by omega) (by show (isA ci s || isR ci s) = true; rw [h]; rfl)
theorem isA_lt {ci s : Nat} (h : isA ci s = true) : ci < 6 ∧ s < 18 := by
  unfold isA at h
  split at h
  · simp only [Bool.or_eq_true, Nat.beq_eq] at h
    omega
  · simp only [Bool.or_eq_true, Nat.beq_eq] at h
    omega
  · simp only [Nat.beq_eq] at h
    omega
  · simp only [Bool.or_eq_true, Nat.beq_eq] at h
    omega
  · cases h
theorem mem_arr (Γ : GT) (M : Mem) {ci i s : Nat} (hi : i < nO ci) (h : isA ci s = true) : ∃ q0 : Nat, (mem Γ M)[q0]? = some (ad Γ ci i (s + 1), .inl (Γ.2.2.1.1, alen ci s, .inl ((M.1 ci i).2 s))) := by
  obtain ⟨q0, hq0⟩ := mem_at Γ M (aOk (isA_lt h).1 hi (isA_lt h).2 h)
  exact ⟨q0, by rw [hq0]; show some (_, acell Γ M ci i s) = _; rw [acell_isA Γ M h]⟩
theorem wm_alen {ci i s : Nat} {v : Int32} (hg : Gd Γ K cc own nL d) (hd : decode cc pc = .ok (.arraylength, 1)) (hp : pc + 1 = q) (hi : i < nO ci) (h : isA ci s = true) (hv : Int32.ofNat (alen ci s) = v) (kk : WM Γ K M L q (.int v :: st)) : WM Γ K M L pc (.ref (ad Γ ci i (s + 1)) :: st) := by
  subst hp
  intro H locs ls hP hS hl
  obtain ⟨q0, hq0⟩ := mem_arr Γ M hi h
  exact va_alen hg.1 hg.2.1 hg.2.2.2.2.2.1 hP q0 0 hq0 (rfl : (tys Γ)[0]? = some (Γ.2.2.1.1, .int)) hv hd (kk H locs ls hP hS hl)
theorem wm_alenR {s : Nat} {v : Int32} (hg : Gd Γ K cc own nL d) (hd : decode cc pc = .ok (.arraylength, 1)) (hp : pc + 1 = q) (h : (s = 1 ∧ v = 8) ∨ (s = 3 ∧ v = 2) ∨ (s = 6 ∧ v = 4)) (kk : WM Γ K M L q (.int v :: st)) : WM Γ K M L pc (.ref (ad Γ 4 0 (s + 1)) :: st) := by
  subst hp
  intro H locs ls hP hS hl
  rcases h with ⟨rfl, rfl⟩ | ⟨rfl, rfl⟩ | ⟨rfl, rfl⟩
  · obtain ⟨q0, hq0⟩ := mem_at Γ M (k := (4, 0, 2)) (mem_keys (by decide) (by decide) (by decide) (by decide))
    exact va_alen hg.1 hg.2.1 hg.2.2.2.2.2.1 hP q0 2 hq0 (rfl : (tys Γ)[2]? = some (Γ.2.2.1.2.2.1, .object RX2)) rfl hd (kk H locs ls hP hS hl)
  · obtain ⟨q0, hq0⟩ := mem_at Γ M (k := (4, 0, 4)) (mem_keys (by decide) (by decide) (by decide) (by decide))
    exact va_alen hg.1 hg.2.1 hg.2.2.2.2.2.1 hP q0 2 hq0 (rfl : (tys Γ)[2]? = some (Γ.2.2.1.2.2.1, .object RX2)) rfl hd (kk H locs ls hP hS hl)
  · obtain ⟨q0, hq0⟩ := mem_at Γ M (k := (4, 0, 7)) (mem_keys (by decide) (by decide) (by decide) (by decide))
    exact va_alen hg.1 hg.2.1 hg.2.2.2.2.2.1 hP q0 3 hq0 (rfl : (tys Γ)[3]? = some (Γ.2.2.1.2.2.2, .object RX1)) rfl hd (kk H locs ls hP hS hl)
theorem wm_iaload {ci i s : Nat} {x : Int32} (t : Nat) (hg : Gd Γ K cc own nL d) (hd : decode cc pc = .ok (.iaload, 1)) (hp : pc + 1 = q) (hi : i < nO ci) (h : isA ci s = true) (hx : x = nI t) (ht : t < alen ci s) (kk : WM Γ K M L q (.int ((M.1 ci i).2 s t) :: st)) : WM Γ K M L pc (.int x :: .ref (ad Γ ci i (s + 1)) :: st) := by
  subst hp
  subst hx
  intro H locs ls hP hS hl
  obtain ⟨q0, hq0⟩ := mem_arr Γ M hi h
  have hb : alen ci s < 2 ^ 31 := by unfold alen; (repeat' split) <;> decide
  refine va_iald hg.1 hg.2.1 hg.2.2.2.2.2.1 hP q0 0 hq0 (rfl : (tys Γ)[0]? = some (Γ.2.2.1.1, .int)) (vp_in_nI ht hb) hd ?_
  rw [nI_clamp (by omega)]
  exact kk H locs ls hP hS hl
theorem wm_iastore {ci i s : Nat} {x v : Int32} (t : Nat) (hg : Gd Γ K cc own nL d) (hd : decode cc pc = .ok (.iastore, 1)) (hp : pc + 1 = q) (hi : i < nO ci) (h : isA ci s = true) (hx : x = nI t) (ht : t < alen ci s) (kk : WM Γ K (sA M ci i s (upd ((M.1 ci i).2 s) t v)) L q st) : WM Γ K M L pc (.int v :: .int x :: .ref (ad Γ ci i (s + 1)) :: st) := by
  subst hp
  subst hx
  intro H locs ls hP hS hl
  obtain ⟨q0, hq0⟩ := mem_arr Γ M hi h
  have hb : alen ci s < 2 ^ 31 := by unfold alen; (repeat' split) <;> decide
  refine va_iast hg.1 hg.2.1 hg.2.2.2.2.2.1 hP (memD hg.2.2.2.2.2.2.1 M) hS q0 0 hq0 (rfl : (tys Γ)[0]? = some (Γ.2.2.1.1, .int)) (vp_in_nI ht hb) hd (fun H1 locs1 hP1 hD1 hS1 => ?_)
  rw [nI_clamp (by omega)] at hP1
  rw [mem_aput hg.2.2.2.2.2.2.1 _ (isA_lt h).1 hi (isA_lt h).2 h hq0] at hP1
  exact kk H1 locs1 ls hP1 hS1 hl
theorem wsNat : Cond.native arraycopyName ∈ wsL_law := by decide +kernel
theorem wsStat : Cond.static arraycopyName ∈ wsL_law := by decide +kernel
theorem wsIni : Cond.initialized "java/lang/System" ∈ wsL_law := by decide +kernel
theorem wm_arraycopy {ci i s ci' i' s' ix : Nat} {xs xd xn : Int32} (sp dp n : Nat) (hg : Gd Γ K cc own nL d) (hd : decode cc pc = .ok (.invokestatic ix, 3)) (hp : pc + 3 = q) (hw : Cond.methodLink own ix arraycopyName ∈ wsL_law) (hdd : 1 ≤ d) (hi : i < nO ci) (h : isA ci s = true) (hi' : i' < nO ci') (h' : isA ci' s' = true) (hs : xs = nI sp) (hdp : xd = nI dp) (hn : xn = nI n) (h4 : sp + n ≤ alen ci s) (h5 : dp + n ≤ alen ci' s') (hst : (st.map fun v => v.category).sum ≤ 8)
    (kk : WM Γ K (sA M ci' i' s' (va_cpy ((M.1 ci i).2 s) ((M.1 ci' i').2 s') sp dp n)) L q st) : WM Γ K M L pc (.int xn :: .int xd :: .ref (ad Γ ci' i' (s' + 1)) :: .int xs :: .ref (ad Γ ci i (s + 1)) :: st) := by
  subst hp
  subst hs
  subst hdp
  subst hn
  intro H locs ls hP hS hl
  obtain ⟨q0, hq0⟩ := mem_arr Γ M hi h
  obtain ⟨q1, hq1⟩ := mem_arr Γ M hi' h'
  have hb : alen ci s < 2 ^ 31 := by unfold alen; (repeat' split) <;> decide
  have hb' : alen ci' s' < 2 ^ 31 := by unfold alen; (repeat' split) <;> decide
  have hfr := hg.2.2.2.2.2.2.2.2.2
  have nn : (nativeFrameWords "java/lang/System" "arraycopy" 5 + 11) ≤ 40 := by decide +kernel
  refine va_copyi hg.1 hg.2.1 (by rw [hl.1]) hg.2.2.2.1 (hg.2.2.2.2.1 _ hw) (hg.2.2.2.2.1 _ wsNat) (hg.2.2.2.2.1 _ wsStat) (hg.2.2.2.2.1 _ wsIni) hg.2.2.2.2.2.1 hP (memD hg.2.2.2.2.2.2.1 M) hS q0 q1 0 0 hq0 hq1 (rfl : (tys Γ)[0]? = some (Γ.2.2.1.1, .int)) (rfl : (tys Γ)[0]? = some (Γ.2.2.1.1, .int)) rfl (nI_pos (by omega)) (nI_pos (by omega)) (nI_pos (by omega)) (by rw [nI_clamp (by omega), nI_clamp (by omega)]; exact h4) (by rw [nI_clamp (by omega), nI_clamp (by omega)]; exact h5) (fun _ _ => rfl) (by omega) (by omega) hd (fun H1 locs1 hP1 hD1 hS1 => ?_)
  rw [nI_clamp (by omega), nI_clamp (by omega), nI_clamp (by omega)] at hP1
  rw [mem_aput hg.2.2.2.2.2.2.1 _ (isA_lt h').1 hi' (isA_lt h').2 h' hq1] at hP1
  exact kk H1 locs1 ls hP1 hS1 hl
theorem wm_zaload {x : Int32} (t : Nat) (hg : Gd Γ K cc own nL d) (hd : decode cc pc = .ok (.baload, 1)) (hp : pc + 1 = q) (hx : x = nI t) (ht : t < 2) (kk : WM Γ K M L q (.int ((M.1 4 0).2 4 t) :: st)) : WM Γ K M L pc (.int x :: .ref (ad Γ 4 0 5) :: st) := by
  subst hp
  subst hx
  intro H locs ls hP hS hl
  obtain ⟨q0, hq0⟩ := mem_at Γ M (k := (4, 0, 5)) (mem_keys (by decide) (by decide) (by decide) (by decide))
  refine va_zald hg.1 hg.2.1 hg.2.2.2.2.2.1 hP q0 1 hq0 (rfl : (tys Γ)[1]? = some (Γ.2.2.1.2.1, .boolean)) (vp_in_nI ht (by decide)) hd ?_
  rw [nI_clamp (by omega)]
  exact kk H locs ls hP hS hl
theorem wm_zastore {x v : Int32} (t : Nat) (hg : Gd Γ K cc own nL d) (hd : decode cc pc = .ok (.bastore, 1)) (hp : pc + 1 = q) (hx : x = nI t) (ht : t < 2) (hv : vp_nar .boolean v = v) (kk : WM Γ K (sA M 4 0 4 (upd ((M.1 4 0).2 4) t v)) L q st) : WM Γ K M L pc (.int v :: .int x :: .ref (ad Γ 4 0 5) :: st) := by
  subst hp
  subst hx
  intro H locs ls hP hS hl
  obtain ⟨q0, hq0⟩ := mem_at Γ M (k := (4, 0, 5)) (mem_keys (by decide) (by decide) (by decide) (by decide))
  refine va_zast hg.1 hg.2.1 hg.2.2.2.2.2.1 hP (memD hg.2.2.2.2.2.2.1 M) hS q0 1 hq0 (rfl : (tys Γ)[1]? = some (Γ.2.2.1.2.1, .boolean)) (vp_in_nI ht (by decide)) hd (fun H1 locs1 hP1 hD1 hS1 => ?_)
  rw [nI_clamp (by omega), hv] at hP1
  rw [mem_kput hg.2.2.2.2.2.2.1 _ hq0] at hP1
  exact kk H1 locs1 ls hP1 hS1 hl
theorem wm_hload {x : Int32} (t : Nat) (hg : Gd Γ K cc own nL d) (hd : decode cc pc = .ok (.aaload, 1)) (hp : pc + 1 = q) (hx : x = nI t) (ht : t < 8) (kk : WM Γ K M L q (.ref (ad Γ 2 (M.2 t) 0) :: st)) : WM Γ K M L pc (.int x :: .ref (ad Γ 4 0 2) :: st) := by
  subst hp
  subst hx
  intro H locs ls hP hS hl
  obtain ⟨q0, hq0⟩ := mem_at Γ M (k := (4, 0, 2)) (mem_keys (by decide) (by decide) (by decide) (by decide))
  refine va_aldq hg.1 hg.2.1 hg.2.2.2.2.2.1 hP q0 2 hq0 (rfl : (tys Γ)[2]? = some (Γ.2.2.1.2.2.1, .object RX2)) (vp_in_nI ht (by decide)) hd ?_
  rw [nI_clamp (by omega)]
  exact kk H locs ls hP hS hl
theorem wm_imload {x : Int32} (t : Nat) (hg : Gd Γ K cc own nL d) (hd : decode cc pc = .ok (.aaload, 1)) (hp : pc + 1 = q) (hx : x = nI t) (ht : t < 2) (kk : WM Γ K M L q (.ref (ad Γ 2 (9 + t) 0) :: st)) : WM Γ K M L pc (.int x :: .ref (ad Γ 4 0 4) :: st) := by
  subst hp
  subst hx
  intro H locs ls hP hS hl
  obtain ⟨q0, hq0⟩ := mem_at Γ M (k := (4, 0, 4)) (mem_keys (by decide) (by decide) (by decide) (by decide))
  refine va_aldq hg.1 hg.2.1 hg.2.2.2.2.2.1 hP q0 2 hq0 (rfl : (tys Γ)[2]? = some (Γ.2.2.1.2.2.1, .object RX2)) (vp_in_nI ht (by decide)) hd ?_
  rw [nI_clamp (by omega)]
  exact kk H locs ls hP hS hl
theorem wm_cload {x : Int32} (t : Nat) (hg : Gd Γ K cc own nL d) (hd : decode cc pc = .ok (.aaload, 1)) (hp : pc + 1 = q) (hx : x = nI t) (ht : t < 4) (kk : WM Γ K M L q (.ref (ad Γ 1 (11 + t) 0) :: st)) : WM Γ K M L pc (.int x :: .ref (ad Γ 4 0 7) :: st) := by
  subst hp
  subst hx
  intro H locs ls hP hS hl
  obtain ⟨q0, hq0⟩ := mem_at Γ M (k := (4, 0, 7)) (mem_keys (by decide) (by decide) (by decide) (by decide))
  refine va_aldq hg.1 hg.2.1 hg.2.2.2.2.2.1 hP q0 3 hq0 (rfl : (tys Γ)[3]? = some (Γ.2.2.1.2.2.2, .object RX1)) (vp_in_nI ht (by decide)) hd ?_
  rw [nI_clamp (by omega)]
  exact kk H locs ls hP hS hl
theorem wm_hstore {x : Int32} {σ : Nat} (t : Nat) (hg : Gd Γ K cc own nL d) (hd : decode cc pc = .ok (.aastore, 1)) (hp : pc + 1 = q) (hx : x = nI t) (ht : t < 8) (hσ : σ < 11) (kk : WM Γ K (sH M (fun k => if k = t then σ else M.2 k)) L q st) : WM Γ K M L pc (.ref (ad Γ 2 σ 0) :: .int x :: .ref (ad Γ 4 0 2) :: st) := by
  subst hp
  subst hx
  intro H locs ls hP hS hl
  obtain ⟨q0, hq0⟩ := mem_at Γ M (k := (4, 0, 2)) (mem_keys (by decide) (by decide) (by decide) (by decide))
  obtain ⟨qk, hqk⟩ := mem_at Γ M (k := (2, σ, 0)) (mem_keys (by decide) hσ (by decide) rfl)
  refine va_astq hg.1 hg.2.1 hg.2.2.2.2.2.1 hP (memD hg.2.2.2.2.2.2.1 M) hS q0 2 qk 2 (r := (RX2, TX2, 2)) hq0 (rfl : (tys Γ)[2]? = some (Γ.2.2.1.2.2.1, .object RX2)) hqk rfl (vp_in_nI ht (by decide)) hd (fun H1 locs1 hP1 hD1 hS1 => ?_)
  rw [nI_clamp (by omega)] at hP1
  have e : va_up (fun k => some (ad Γ 2 (M.2 k) 0)) t (some (ad Γ 2 σ 0)) = (fun k => some (ad Γ 2 ((fun k => if k = t then σ else M.2 k) k) 0)) := by
    funext k
    by_cases hk : k = t <;> simp [va_up, hk]
  rw [e, mem_hput hg.2.2.2.2.2.2.1 _ hq0] at hP1
  exact kk H1 locs1 ls hP1 hS1 hl
/-! ===== the table of cosines ===== -/
theorem wm_cosines {ix : Nat} (hg : Gd Γ K cc own nL d) (hd : decode cc pc = .ok (.getstatic ix, 3)) (hp : pc + 3 = q) (hw : Cond.fieldLink own ix RX4 "COSINES" "[I" ∈ wsL_law) (kk : WM Γ K M L q (.ref Γ.2.2.2.2.2 :: st)) : WM Γ K M L pc st := by
  subst hp
  intro H locs ls hP hS hl
  exact va_gets hg.1 hg.2.1 hg.2.2.2.2.2.2.2.2.1.1 hS hg.2.2.2.1 (hg.2.2.2.2.1 _ hw) (fun _ h9 => h9) hd (kk H locs ls hP hS hl)
theorem wm_cosload {x : Int32} (t : Nat) (hg : Gd Γ K cc own nL d) (hd : decode cc pc = .ok (.iaload, 1)) (hp : pc + 1 = q) (hx : x = nI t) (ht : t < 8) (kk : WM Γ K M L q (.int (cosV t) :: st)) : WM Γ K M L pc (.int x :: .ref Γ.2.2.2.2.2 :: st) := by
  subst hp
  subst hx
  intro H locs ls hP hS hl
  exact va_ti hg.1 hg.2.1 hg.2.2.2.2.2.2.2.2.1.2 hS (vp_in_nI ht (by decide)) (by rw [nI_clamp (by omega)]) hd (kk H locs ls hP hS hl)
end Rows
