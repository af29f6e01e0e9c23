section RULES
variable {E : EnvT} {K : CtxT} {μ : MI} {d : Nat} {f : Nat × Nat} {pc : Nat} {L : List (Option Value)} {st : List Value} {nx : Nat} {M : Mm} {k n : Nat} {Z : State → Prop}
theorem wp_iconst {c : Int} (hd : decode μ.2.1 pc = .ok (.iconst c, 1))  (kk : Wp E K μ d f (pc + 1) L (.int (Int32.ofInt c) :: st) nx M k n Z) : Wp E K μ d f pc L st nx M k n Z :=
  fun ok H locs ls hP hS hl => lv_iconst ok.1 ok.2.1 hd rfl (kk ok H locs ls hP hS hl)
theorem wp_bipush {c : Int} {x : Int32} (hd : decode μ.2.1 pc = .ok (.bipush c, 2)) (hx : (Int8.ofInt c).toInt32 = x) (kk : Wp E K μ d f (pc + 2) L (.int x :: st) nx M k n Z) : Wp E K μ d f pc L st nx M k n Z :=
  fun ok H locs ls hP hS hl => lv_bipush ok.1 ok.2.1 hd hx (kk ok H locs ls hP hS hl)
theorem wp_sipush {c : Int} {x : Int32} (hd : decode μ.2.1 pc = .ok (.sipush c, 3)) (hx : (Int16.ofInt c).toInt32 = x) (kk : Wp E K μ d f (pc + 3) L (.int x :: st) nx M k n Z) : Wp E K μ d f pc L st nx M k n Z :=
  fun ok H locs ls hP hS hl => lv_sipush ok.1 ok.2.1 hd hx (kk ok H locs ls hP hS hl)
theorem wp_ic {c : Int} {x : Int32} (hd : decode μ.2.1 pc = .ok (.iconst c, 1)) (hx : Int32.ofInt c = x) (kk : Wp E K μ d f (pc + 1) L (.int x :: st) nx M k n Z) : Wp E K μ d f pc L st nx M k n Z :=
  fun ok H locs ls hP hS hl => lv_iconst ok.1 ok.2.1 hd hx (kk ok H locs ls hP hS hl)
theorem wp_lconst {c : Fin 2} {x : Int64} (hd : decode μ.2.1 pc = .ok (.lconst c, 1)) (hx : Int64.ofNat (c : Nat) = x) (kk : Wp E K μ d f (pc + 1) L (.long x :: st) nx M k n Z) : Wp E K μ d f pc L st nx M k n Z :=
  fun ok H locs ls hP hS hl => lv_lconst ok.1 ok.2.1 hd hx (kk ok H locs ls hP hS hl)
theorem wp_iload_n {c : Fin 4} {x : Int32} (hd : decode μ.2.1 pc = .ok (.iload_n c, 1)) (hL : L[(c : Nat)]? = some (some (.int x))) (kk : Wp E K μ d f (pc + 1) L (.int x :: st) nx M k n Z) : Wp E K μ d f pc L st nx M k n Z :=
  fun ok H locs ls hP hS hl => lv_iload_n ok.1 ok.2.1 hd rfl (hl.at hL) (kk ok H locs ls hP hS hl)
theorem wp_iload {i : Nat} {x : Int32} (hd : decode μ.2.1 pc = .ok (.iload i, 2)) (hL : L[i]? = some (some (.int x))) (kk : Wp E K μ d f (pc + 2) L (.int x :: st) nx M k n Z) : Wp E K μ d f pc L st nx M k n Z :=
  fun ok H locs ls hP hS hl => lv_iload ok.1 ok.2.1 hd (hl.at hL) (kk ok H locs ls hP hS hl)
theorem wp_lload_n {c : Fin 4} {x : Int64} (hd : decode μ.2.1 pc = .ok (.lload_n c, 1)) (hL : L[(c : Nat)]? = some (some (.long x))) (kk : Wp E K μ d f (pc + 1) L (.long x :: st) nx M k n Z) : Wp E K μ d f pc L st nx M k n Z :=
  fun ok H locs ls hP hS hl => lv_lload_n ok.1 ok.2.1 hd rfl (hl.at hL) (kk ok H locs ls hP hS hl)
theorem wp_lload {i : Nat} {x : Int64} (hd : decode μ.2.1 pc = .ok (.lload i, 2)) (hL : L[i]? = some (some (.long x))) (kk : Wp E K μ d f (pc + 2) L (.long x :: st) nx M k n Z) : Wp E K μ d f pc L st nx M k n Z :=
  fun ok H locs ls hP hS hl => lv_lload ok.1 ok.2.1 hd (hl.at hL) (kk ok H locs ls hP hS hl)
theorem wp_aload_n {c : Fin 4} {x : Nat} (hd : decode μ.2.1 pc = .ok (.aload_n c, 1)) (hL : L[(c : Nat)]? = some (some (.ref x))) (kk : Wp E K μ d f (pc + 1) L (.ref x :: st) nx M k n Z) : Wp E K μ d f pc L st nx M k n Z :=
  fun ok H locs ls hP hS hl => lv_aload_n ok.1 ok.2.1 hd rfl (hl.at hL) (kk ok H locs ls hP hS hl)
theorem wp_aload {i : Nat} {x : Nat} (hd : decode μ.2.1 pc = .ok (.aload i, 2)) (hL : L[i]? = some (some (.ref x))) (kk : Wp E K μ d f (pc + 2) L (.ref x :: st) nx M k n Z) : Wp E K μ d f pc L st nx M k n Z :=
  fun ok H locs ls hP hS hl => lv_aload ok.1 ok.2.1 hd (hl.at hL) (kk ok H locs ls hP hS hl)
theorem wp_istore_n {c : Fin 4} {x : Int32} {L' : List (Option Value)} (hd : decode μ.2.1 pc = .ok (.istore_n c, 1)) (hi : (c : Nat) < L.length) (hk : nolong L (c : Nat) = true) (hL : L.set (c : Nat) (some (.int x)) = L') (kk : Wp E K μ d f (pc + 1) L' st nx M k n Z) : Wp E K μ d f pc L (.int x :: st) nx M k n Z := by
  intro ok H locs ls hP hS hl
  obtain ⟨h1, l, h2, h3⟩ := hl
  exact lv_istore_n ok.1 ok.2.1 hd rfl h2 (by rw [← h1]; exact hi) rfl (fun ls' h' => kk ok H locs ls' hP hS (hL ▸ lR.keep1 h1 h3 hk h'))
theorem wp_istore {i : Nat} {x : Int32} {L' : List (Option Value)} (hd : decode μ.2.1 pc = .ok (.istore i, 2)) (hi : i < L.length) (hk : nolong L i = true) (hL : L.set i (some (.int x)) = L') (kk : Wp E K μ d f (pc + 2) L' st nx M k n Z) : Wp E K μ d f pc L (.int x :: st) nx M k n Z := by
  intro ok H locs ls hP hS hl
  obtain ⟨h1, l, h2, h3⟩ := hl
  exact lv_istore ok.1 ok.2.1 hd h2 (by rw [← h1]; exact hi) rfl (fun ls' h' => kk ok H locs ls' hP hS (hL ▸ lR.keep1 h1 h3 hk h'))
theorem wp_astore_n {c : Fin 4} {x : Nat} {L' : List (Option Value)} (hd : decode μ.2.1 pc = .ok (.astore_n c, 1)) (hi : (c : Nat) < L.length) (hk : nolong L (c : Nat) = true) (hL : L.set (c : Nat) (some (.ref x)) = L') (kk : Wp E K μ d f (pc + 1) L' st nx M k n Z) : Wp E K μ d f pc L (.ref x :: st) nx M k n Z := by
  intro ok H locs ls hP hS hl
  obtain ⟨h1, l, h2, h3⟩ := hl
  exact lv_astore_n ok.1 ok.2.1 hd rfl h2 (by rw [← h1]; exact hi) rfl (fun ls' h' => kk ok H locs ls' hP hS (hL ▸ lR.keep1 h1 h3 hk h'))
theorem wp_astore {i : Nat} {x : Nat} {L' : List (Option Value)} (hd : decode μ.2.1 pc = .ok (.astore i, 2)) (hi : i < L.length) (hk : nolong L i = true) (hL : L.set i (some (.ref x)) = L') (kk : Wp E K μ d f (pc + 2) L' st nx M k n Z) : Wp E K μ d f pc L (.ref x :: st) nx M k n Z := by
  intro ok H locs ls hP hS hl
  obtain ⟨h1, l, h2, h3⟩ := hl
  exact lv_astore ok.1 ok.2.1 hd h2 (by rw [← h1]; exact hi) rfl (fun ls' h' => kk ok H locs ls' hP hS (hL ▸ lR.keep1 h1 h3 hk h'))
theorem wp_lstore_n {c : Fin 4} {x : Int64} {L' : List (Option Value)} (hd : decode μ.2.1 pc = .ok (.lstore_n c, 1)) (hi : (c : Nat) + 1 < L.length) (hk : nolong L (c : Nat) = true) (hL : (L.set (c : Nat) (some (.long x))).set ((c : Nat) + 1) none = L') (kk : Wp E K μ d f (pc + 1) L' st nx M k n Z) : Wp E K μ d f pc L (.long x :: st) nx M k n Z := by
  intro ok H locs ls hP hS hl
  obtain ⟨h1, l, h2, h3⟩ := hl
  exact lv_lstore_n ok.1 ok.2.1 hd rfl h2 (by rw [← h1]; exact hi) rfl (fun ls' h' => kk ok H locs ls' hP hS (hL ▸ lR.keep2 h1 h3 hk h'))
theorem wp_iinc {i : Nat} {c : Int} {x : Int32} {L' : List (Option Value)} (hd : decode μ.2.1 pc = .ok (.iinc i c, 3)) (hx : L[i]? = some (some (.int x))) (hk : nolong L i = true) (hL : L.set i (some (.int (x + Int32.ofInt c))) = L') (kk : Wp E K μ d f (pc + 3) L' st nx M k n Z) : Wp E K μ d f pc L st nx M k n Z := by
  intro ok H locs ls hP hS hl
  obtain ⟨h1, l, h2, h3⟩ := hl
  obtain ⟨q, hq⟩ := List.getElem?_of_mem (h3 i _ hx)
  exact lv_iinc ok.1 ok.2.1 hd h2 hq rfl (by rw [← h1]; exact (List.getElem?_eq_some_iff.mp hx).1) rfl (fun ls' h' => kk ok H locs ls' hP hS (hL ▸ lR.keep1 h1 h3 hk h'))
theorem wp_iadd {x y : Int32} (hd : decode μ.2.1 pc = .ok (.iadd, 1))  (kk : Wp E K μ d f (pc + 1) L (.int (x + y) :: st) nx M k n Z) : Wp E K μ d f pc L (.int y :: .int x :: st) nx M k n Z :=
  fun ok H locs ls hP hS hl => lv_iadd ok.1 ok.2.1 hd  (kk ok H locs ls hP hS hl)
theorem wp_isub {x y : Int32} (hd : decode μ.2.1 pc = .ok (.isub, 1))  (kk : Wp E K μ d f (pc + 1) L (.int (x - y) :: st) nx M k n Z) : Wp E K μ d f pc L (.int y :: .int x :: st) nx M k n Z :=
  fun ok H locs ls hP hS hl => lv_isub ok.1 ok.2.1 hd  (kk ok H locs ls hP hS hl)
theorem wp_imul {x y : Int32} (hd : decode μ.2.1 pc = .ok (.imul, 1))  (kk : Wp E K μ d f (pc + 1) L (.int (x * y) :: st) nx M k n Z) : Wp E K μ d f pc L (.int y :: .int x :: st) nx M k n Z :=
  fun ok H locs ls hP hS hl => lv_imul ok.1 ok.2.1 hd  (kk ok H locs ls hP hS hl)
theorem wp_iand {x y : Int32} (hd : decode μ.2.1 pc = .ok (.iand, 1))  (kk : Wp E K μ d f (pc + 1) L (.int (x &&& y) :: st) nx M k n Z) : Wp E K μ d f pc L (.int y :: .int x :: st) nx M k n Z :=
  fun ok H locs ls hP hS hl => lv_iand ok.1 ok.2.1 hd  (kk ok H locs ls hP hS hl)
theorem wp_ior {x y : Int32} (hd : decode μ.2.1 pc = .ok (.ior, 1))  (kk : Wp E K μ d f (pc + 1) L (.int (x ||| y) :: st) nx M k n Z) : Wp E K μ d f pc L (.int y :: .int x :: st) nx M k n Z :=
  fun ok H locs ls hP hS hl => lv_ior ok.1 ok.2.1 hd  (kk ok H locs ls hP hS hl)
theorem wp_ixor {x y : Int32} (hd : decode μ.2.1 pc = .ok (.ixor, 1))  (kk : Wp E K μ d f (pc + 1) L (.int (x ^^^ y) :: st) nx M k n Z) : Wp E K μ d f pc L (.int y :: .int x :: st) nx M k n Z :=
  fun ok H locs ls hP hS hl => lv_ixor ok.1 ok.2.1 hd  (kk ok H locs ls hP hS hl)
theorem wp_idiv {x y : Int32} (hd : decode μ.2.1 pc = .ok (.idiv, 1)) (hne : ¬ y = 0) (kk : Wp E K μ d f (pc + 1) L (.int (x / y) :: st) nx M k n Z) : Wp E K μ d f pc L (.int y :: .int x :: st) nx M k n Z :=
  fun ok H locs ls hP hS hl => lv_idiv ok.1 ok.2.1 hd hne (kk ok H locs ls hP hS hl)
theorem wp_irem {x y : Int32} (hd : decode μ.2.1 pc = .ok (.irem, 1)) (hne : ¬ y = 0) (kk : Wp E K μ d f (pc + 1) L (.int (x - x / y * y) :: st) nx M k n Z) : Wp E K μ d f pc L (.int y :: .int x :: st) nx M k n Z :=
  fun ok H locs ls hP hS hl => lv_irem ok.1 ok.2.1 hd hne (kk ok H locs ls hP hS hl)
theorem wp_ishl {x y : Int32} (hd : decode μ.2.1 pc = .ok (.ishl, 1))  (kk : Wp E K μ d f (pc + 1) L (.int (x <<< (y &&& 31)) :: st) nx M k n Z) : Wp E K μ d f pc L (.int y :: .int x :: st) nx M k n Z :=
  fun ok H locs ls hP hS hl => lv_ishl ok.1 ok.2.1 hd  (kk ok H locs ls hP hS hl)
theorem wp_ishr {x y : Int32} (hd : decode μ.2.1 pc = .ok (.ishr, 1))  (kk : Wp E K μ d f (pc + 1) L (.int (x >>> (y &&& 31)) :: st) nx M k n Z) : Wp E K μ d f pc L (.int y :: .int x :: st) nx M k n Z :=
  fun ok H locs ls hP hS hl => lv_ishr ok.1 ok.2.1 hd  (kk ok H locs ls hP hS hl)
theorem wp_iushr {x y : Int32} (hd : decode μ.2.1 pc = .ok (.iushr, 1))  (kk : Wp E K μ d f (pc + 1) L (.int (x.toUInt32 >>> (y.toUInt32 &&& Int32.toUInt32 31)).toInt32 :: st) nx M k n Z) : Wp E K μ d f pc L (.int y :: .int x :: st) nx M k n Z :=
  fun ok H locs ls hP hS hl => lv_iushr ok.1 ok.2.1 hd rfl (kk ok H locs ls hP hS hl)
theorem wp_ladd {x y : Int64} (hd : decode μ.2.1 pc = .ok (.ladd, 1))  (kk : Wp E K μ d f (pc + 1) L (.long (x + y) :: st) nx M k n Z) : Wp E K μ d f pc L (.long y :: .long x :: st) nx M k n Z :=
  fun ok H locs ls hP hS hl => lv_ladd ok.1 ok.2.1 hd  (kk ok H locs ls hP hS hl)
theorem wp_lmul {x y : Int64} (hd : decode μ.2.1 pc = .ok (.lmul, 1))  (kk : Wp E K μ d f (pc + 1) L (.long (x * y) :: st) nx M k n Z) : Wp E K μ d f pc L (.long y :: .long x :: st) nx M k n Z :=
  fun ok H locs ls hP hS hl => lv_lmul ok.1 ok.2.1 hd  (kk ok H locs ls hP hS hl)
theorem wp_land {x y : Int64} (hd : decode μ.2.1 pc = .ok (.land, 1))  (kk : Wp E K μ d f (pc + 1) L (.long (x &&& y) :: st) nx M k n Z) : Wp E K μ d f pc L (.long y :: .long x :: st) nx M k n Z :=
  fun ok H locs ls hP hS hl => lv_land ok.1 ok.2.1 hd  (kk ok H locs ls hP hS hl)
theorem wp_lor {x y : Int64} (hd : decode μ.2.1 pc = .ok (.lor, 1))  (kk : Wp E K μ d f (pc + 1) L (.long (x ||| y) :: st) nx M k n Z) : Wp E K μ d f pc L (.long y :: .long x :: st) nx M k n Z :=
  fun ok H locs ls hP hS hl => lv_lor ok.1 ok.2.1 hd  (kk ok H locs ls hP hS hl)
theorem wp_lrem {x y : Int64} (hd : decode μ.2.1 pc = .ok (.lrem, 1)) (hne : ¬ y = 0) (kk : Wp E K μ d f (pc + 1) L (.long (x - x / y * y) :: st) nx M k n Z) : Wp E K μ d f pc L (.long y :: .long x :: st) nx M k n Z :=
  fun ok H locs ls hP hS hl => lv_lrem ok.1 ok.2.1 hd hne (kk ok H locs ls hP hS hl)
theorem wp_lushr {x : Int64} {y : Int32} (hd : decode μ.2.1 pc = .ok (.lushr, 1))  (kk : Wp E K μ d f (pc + 1) L (.long (x.toUInt64 >>> (y.toInt64.toUInt64 &&& Int64.toUInt64 63)).toInt64 :: st) nx M k n Z) : Wp E K μ d f pc L (.int y :: .long x :: st) nx M k n Z :=
  fun ok H locs ls hP hS hl => lv_lushr ok.1 ok.2.1 hd rfl (kk ok H locs ls hP hS hl)
theorem wp_lshl {x : Int64} {y : Int32} (hd : decode μ.2.1 pc = .ok (.lshl, 1))  (kk : Wp E K μ d f (pc + 1) L (.long (x <<< (y.toInt64 &&& 63)) :: st) nx M k n Z) : Wp E K μ d f pc L (.int y :: .long x :: st) nx M k n Z :=
  fun ok H locs ls hP hS hl => lv_lshl ok.1 ok.2.1 hd rfl (kk ok H locs ls hP hS hl)
theorem wp_i2l {x : Int32} (hd : decode μ.2.1 pc = .ok (.i2l, 1))  (kk : Wp E K μ d f (pc + 1) L (.long x.toInt64 :: st) nx M k n Z) : Wp E K μ d f pc L (.int x :: st) nx M k n Z :=
  fun ok H locs ls hP hS hl => lv_i2l ok.1 ok.2.1 hd rfl (kk ok H locs ls hP hS hl)
theorem wp_l2i {x : Int64} (hd : decode μ.2.1 pc = .ok (.l2i, 1))  (kk : Wp E K μ d f (pc + 1) L (.int x.toInt32 :: st) nx M k n Z) : Wp E K μ d f pc L (.long x :: st) nx M k n Z :=
  fun ok H locs ls hP hS hl => lv_l2i ok.1 ok.2.1 hd rfl (kk ok H locs ls hP hS hl)
theorem wp_lcmp {x y : Int64} (hd : decode μ.2.1 pc = .ok (.lcmp, 1))  (kk : Wp E K μ d f (pc + 1) L (.int (lg_cmp x y) :: st) nx M k n Z) : Wp E K μ d f pc L (.long y :: .long x :: st) nx M k n Z :=
  fun ok H locs ls hP hS hl => W.lcmp ok.1 ok.2.1 hd  (kk ok H locs ls hP hS hl)
theorem wp_dup {v : Value} (hd : decode μ.2.1 pc = .ok (.dup, 1)) (hv : v.category = 1) (kk : Wp E K μ d f (pc + 1) L (v :: v :: st) nx M k n Z) : Wp E K μ d f pc L (v :: st) nx M k n Z :=
  fun ok H locs ls hP hS hl => lv_dup ok.1 ok.2.1 hd hv (kk ok H locs ls hP hS hl)
theorem wp_dup2 {v w : Value} (hd : decode μ.2.1 pc = .ok (.dup2, 1)) (hv : v.category = 1) (hw : w.category = 1) (kk : Wp E K μ d f (pc + 1) L (v :: w :: v :: w :: st) nx M k n Z) : Wp E K μ d f pc L (v :: w :: st) nx M k n Z :=
  fun ok H locs ls hP hS hl => lv_dup2_11 ok.1 ok.2.1 hd hv hw (kk ok H locs ls hP hS hl)
theorem wp_pop {v : Value} (hd : decode μ.2.1 pc = .ok (.pop, 1)) (hv : v.category = 1) (kk : Wp E K μ d f (pc + 1) L st nx M k n Z) : Wp E K μ d f pc L (v :: st) nx M k n Z :=
  fun ok H locs ls hP hS hl => lv_pop ok.1 ok.2.1 hd hv (kk ok H locs ls hP hS hl)
theorem wp_if_eq {x : Int32} {off : Int} (tgt : Nat) (hd : decode μ.2.1 pc = .ok (.ifCond .eq off, 3)) (ht : (pc : Int) + off = (tgt : Int)) (kt : x = 0 → Wp E K μ d f tgt L st nx M k n Z) (kf : ¬ x = 0 → Wp E K μ d f (pc + 3) L st nx M k n Z) : Wp E K μ d f pc L (.int x :: st) nx M k n Z :=
  fun ok H locs ls hP hS hl => lv_if_eq ok.1 ok.2.1 hd ht (fun q => kt q ok H locs ls hP hS hl) (fun q => kf q ok H locs ls hP hS hl)
theorem wp_icmp_eq {x y : Int32} {off : Int} (tgt : Nat) (hd : decode μ.2.1 pc = .ok (.if_icmp .eq off, 3)) (ht : (pc : Int) + off = (tgt : Int)) (kt : x = y → Wp E K μ d f tgt L st nx M k n Z) (kf : ¬ x = y → Wp E K μ d f (pc + 3) L st nx M k n Z) : Wp E K μ d f pc L (.int y :: .int x :: st) nx M k n Z :=
  fun ok H locs ls hP hS hl => lv_icmp_eq ok.1 ok.2.1 hd ht (fun q => kt q ok H locs ls hP hS hl) (fun q => kf q ok H locs ls hP hS hl)
theorem wp_if_ne {x : Int32} {off : Int} (tgt : Nat) (hd : decode μ.2.1 pc = .ok (.ifCond .ne off, 3)) (ht : (pc : Int) + off = (tgt : Int)) (kt : ¬ x = 0 → Wp E K μ d f tgt L st nx M k n Z) (kf : x = 0 → Wp E K μ d f (pc + 3) L st nx M k n Z) : Wp E K μ d f pc L (.int x :: st) nx M k n Z :=
  fun ok H locs ls hP hS hl => lv_if_ne ok.1 ok.2.1 hd ht (fun q => kt q ok H locs ls hP hS hl) (fun q => kf q ok H locs ls hP hS hl)
theorem wp_icmp_ne {x y : Int32} {off : Int} (tgt : Nat) (hd : decode μ.2.1 pc = .ok (.if_icmp .ne off, 3)) (ht : (pc : Int) + off = (tgt : Int)) (kt : ¬ x = y → Wp E K μ d f tgt L st nx M k n Z) (kf : x = y → Wp E K μ d f (pc + 3) L st nx M k n Z) : Wp E K μ d f pc L (.int y :: .int x :: st) nx M k n Z :=
  fun ok H locs ls hP hS hl => lv_icmp_ne ok.1 ok.2.1 hd ht (fun q => kt q ok H locs ls hP hS hl) (fun q => kf q ok H locs ls hP hS hl)
theorem wp_if_lt {x : Int32} {off : Int} (tgt : Nat) (hd : decode μ.2.1 pc = .ok (.ifCond .lt off, 3)) (ht : (pc : Int) + off = (tgt : Int)) (kt : x < 0 → Wp E K μ d f tgt L st nx M k n Z) (kf : ¬ x < 0 → Wp E K μ d f (pc + 3) L st nx M k n Z) : Wp E K μ d f pc L (.int x :: st) nx M k n Z :=
  fun ok H locs ls hP hS hl => lv_if_lt ok.1 ok.2.1 hd ht (fun q => kt q ok H locs ls hP hS hl) (fun q => kf q ok H locs ls hP hS hl)
theorem wp_icmp_lt {x y : Int32} {off : Int} (tgt : Nat) (hd : decode μ.2.1 pc = .ok (.if_icmp .lt off, 3)) (ht : (pc : Int) + off = (tgt : Int)) (kt : x < y → Wp E K μ d f tgt L st nx M k n Z) (kf : ¬ x < y → Wp E K μ d f (pc + 3) L st nx M k n Z) : Wp E K μ d f pc L (.int y :: .int x :: st) nx M k n Z :=
  fun ok H locs ls hP hS hl => lv_icmp_lt ok.1 ok.2.1 hd ht (fun q => kt q ok H locs ls hP hS hl) (fun q => kf q ok H locs ls hP hS hl)
theorem wp_if_ge {x : Int32} {off : Int} (tgt : Nat) (hd : decode μ.2.1 pc = .ok (.ifCond .ge off, 3)) (ht : (pc : Int) + off = (tgt : Int)) (kt : 0 ≤ x → Wp E K μ d f tgt L st nx M k n Z) (kf : ¬ 0 ≤ x → Wp E K μ d f (pc + 3) L st nx M k n Z) : Wp E K μ d f pc L (.int x :: st) nx M k n Z :=
  fun ok H locs ls hP hS hl => lv_if_ge ok.1 ok.2.1 hd ht (fun q => kt q ok H locs ls hP hS hl) (fun q => kf q ok H locs ls hP hS hl)
theorem wp_icmp_ge {x y : Int32} {off : Int} (tgt : Nat) (hd : decode μ.2.1 pc = .ok (.if_icmp .ge off, 3)) (ht : (pc : Int) + off = (tgt : Int)) (kt : y ≤ x → Wp E K μ d f tgt L st nx M k n Z) (kf : ¬ y ≤ x → Wp E K μ d f (pc + 3) L st nx M k n Z) : Wp E K μ d f pc L (.int y :: .int x :: st) nx M k n Z :=
  fun ok H locs ls hP hS hl => lv_icmp_ge ok.1 ok.2.1 hd ht (fun q => kt q ok H locs ls hP hS hl) (fun q => kf q ok H locs ls hP hS hl)
theorem wp_if_gt {x : Int32} {off : Int} (tgt : Nat) (hd : decode μ.2.1 pc = .ok (.ifCond .gt off, 3)) (ht : (pc : Int) + off = (tgt : Int)) (kt : 0 < x → Wp E K μ d f tgt L st nx M k n Z) (kf : ¬ 0 < x → Wp E K μ d f (pc + 3) L st nx M k n Z) : Wp E K μ d f pc L (.int x :: st) nx M k n Z :=
  fun ok H locs ls hP hS hl => lv_if_gt ok.1 ok.2.1 hd ht (fun q => kt q ok H locs ls hP hS hl) (fun q => kf q ok H locs ls hP hS hl)
theorem wp_icmp_gt {x y : Int32} {off : Int} (tgt : Nat) (hd : decode μ.2.1 pc = .ok (.if_icmp .gt off, 3)) (ht : (pc : Int) + off = (tgt : Int)) (kt : y < x → Wp E K μ d f tgt L st nx M k n Z) (kf : ¬ y < x → Wp E K μ d f (pc + 3) L st nx M k n Z) : Wp E K μ d f pc L (.int y :: .int x :: st) nx M k n Z :=
  fun ok H locs ls hP hS hl => lv_icmp_gt ok.1 ok.2.1 hd ht (fun q => kt q ok H locs ls hP hS hl) (fun q => kf q ok H locs ls hP hS hl)
theorem wp_if_le {x : Int32} {off : Int} (tgt : Nat) (hd : decode μ.2.1 pc = .ok (.ifCond .le off, 3)) (ht : (pc : Int) + off = (tgt : Int)) (kt : x ≤ 0 → Wp E K μ d f tgt L st nx M k n Z) (kf : ¬ x ≤ 0 → Wp E K μ d f (pc + 3) L st nx M k n Z) : Wp E K μ d f pc L (.int x :: st) nx M k n Z :=
  fun ok H locs ls hP hS hl => lv_if_le ok.1 ok.2.1 hd ht (fun q => kt q ok H locs ls hP hS hl) (fun q => kf q ok H locs ls hP hS hl)
theorem wp_icmp_le {x y : Int32} {off : Int} (tgt : Nat) (hd : decode μ.2.1 pc = .ok (.if_icmp .le off, 3)) (ht : (pc : Int) + off = (tgt : Int)) (kt : x ≤ y → Wp E K μ d f tgt L st nx M k n Z) (kf : ¬ x ≤ y → Wp E K μ d f (pc + 3) L st nx M k n Z) : Wp E K μ d f pc L (.int y :: .int x :: st) nx M k n Z :=
  fun ok H locs ls hP hS hl => lv_icmp_le ok.1 ok.2.1 hd ht (fun q => kt q ok H locs ls hP hS hl) (fun q => kf q ok H locs ls hP hS hl)
theorem wp_goto {off : Int} (tgt : Nat) (hd : decode μ.2.1 pc = .ok (.goto off, 3)) (ht : (pc : Int) + off = (tgt : Int)) (kk : Wp E K μ d f tgt L st nx M k n Z) : Wp E K μ d f pc L st nx M k n Z :=
  fun ok H locs ls hP hS hl => lv_goto ok.1 ok.2.1 hd ht (kk ok H locs ls hP hS hl)
theorem wp_tabOut {dflt lo hi : Int} {offs : Array Int} {len : Nat} {x : Int32} (tgt : Nat) (hd : decode μ.2.1 pc = .ok (.tableswitch dflt lo hi offs, len)) (h : x.toInt < lo ∨ hi < x.toInt) (ht : (pc : Int) + dflt = (tgt : Int)) (kk : Wp E K μ d f tgt L st nx M k n Z) : Wp E K μ d f pc L (.int x :: st) nx M k n Z :=
  fun ok H locs ls hP hS hl => lv_tableOut ok.1 ok.2.1 hd h ht (kk ok H locs ls hP hS hl)
theorem wp_tabIn {dflt lo hi : Int} {offs : Array Int} {len : Nat} {x : Int32} {off : Int} (tgt : Nat) (hd : decode μ.2.1 pc = .ok (.tableswitch dflt lo hi offs, len)) (h1 : ¬ x.toInt < lo) (h2 : ¬ hi < x.toInt) (ho : offs[(x.toInt - lo).toNat]? = some off) (ht : (pc : Int) + off = (tgt : Int)) (kk : Wp E K μ d f tgt L st nx M k n Z) : Wp E K μ d f pc L (.int x :: st) nx M k n Z :=
  fun ok H locs ls hP hS hl => lv_tableIn ok.1 ok.2.1 hd h1 h2 ho ht (kk ok H locs ls hP hS hl)
theorem wp_lookup {dflt : Int} {ps : Array (Int × Int)} {len : Nat} {x : Int32} {off : Int} (tgt : Nat) (hd : decode μ.2.1 pc = .ok (.lookupswitch dflt ps, len)) (hp : (ps.toList.zip (ps.toList.drop 1)).all (fun (a, next) => a.1 < next.1) = true) (ho : Op.lookupswitch.offset ps.toList dflt x.toInt = off) (ht : (pc : Int) + off = (tgt : Int)) (kk : Wp E K μ d f tgt L st nx M k n Z) : Wp E K μ d f pc L (.int x :: st) nx M k n Z :=
  fun ok H locs ls hP hS hl => lv_lookup ok.1 ok.2.1 hd hp ho ht (kk ok H locs ls hP hS hl)
theorem wp_ldc2 {i : Nat} {x : Int64} (hd : decode μ.2.1 pc = .ok (.ldc2_w i, 3)) (hw : Cond.constantLong μ.1.cls i x ∈ gw) (kk : Wp E K μ d f (pc + 3) L (.long x :: st) nx M k n Z) : Wp E K μ d f pc L st nx M k n Z :=
  fun ok H locs ls hP hS hl => lv_ldc2 ok.1 ok.2.1 ok.2.2.2.1 (ok.2.2.2.2.1 _ hw) hd (kk ok H locs ls hP hS hl)
theorem wp_ldc {i : Nat} {x : Int32} (hd : decode μ.2.1 pc = .ok (.ldc i, 2)) (hw : Cond.constant μ.1.cls i x ∈ gw) (kk : Wp E K μ d f (pc + 2) L (.int x :: st) nx M k n Z) : Wp E K μ d f pc L st nx M k n Z :=
  fun ok H locs ls hP hS hl => lv_ldc ok.1 ok.2.1 ok.2.2.2.1 (ok.2.2.2.2.1 _ hw) hd (kk ok H locs ls hP hS hl)
theorem wp_ldcw {i : Nat} {x : Int32} (hd : decode μ.2.1 pc = .ok (.ldc_w i, 3)) (hw : Cond.constant μ.1.cls i x ∈ gw) (kk : Wp E K μ d f (pc + 3) L (.int x :: st) nx M k n Z) : Wp E K μ d f pc L st nx M k n Z :=
  fun ok H locs ls hP hS hl => lv_ldcw ok.1 ok.2.1 ok.2.2.2.1 (ok.2.2.2.2.1 _ hw) hd (kk ok H locs ls hP hS hl)
theorem wp_iret {x : Int32} {Q : Option Value → Mm → Prop} (hd : decode μ.2.1 pc = .ok (.ireturn, 1)) (hr : μ.2.2.2 = some .int) (hq : Q (some (.int x)) M) : Wp E K μ d f pc L [.int x] nx M k n (zM E K nx k n Q) := by
  intro ok H locs ls hP hS hl
  refine W.iret ok.1 ok.2.1 (ok.2.2.2.2.2.1.trans hr) ?_ ?_ hd (hlocks := ok.2.2.2.2.2.2.1)
  · intro t ht hW
    exact ⟨⟨_, M, rfl, hq, by rw [ht]; exact hP, ok.2.2.2.2.2.2.2.1.warm hW⟩, hS.F ht⟩
  · exact hS.2.2
theorem wp_zret {x : Int32} {Q : Option Value → Mm → Prop} (hd : decode μ.2.1 pc = .ok (.ireturn, 1)) (hr : μ.2.2.2 = some .boolean) (hn : narrow .boolean (.int x) = .int x) (hq : Q (some (.int x)) M) : Wp E K μ d f pc L [.int x] nx M k n (zM E K nx k n Q) := by
  intro ok H locs ls hP hS hl
  refine W.zret ok.1 ok.2.1 (ok.2.2.2.2.2.1.trans hr) hn ?_ ?_ hd (hlocks := ok.2.2.2.2.2.2.1)
  · intro t ht hW
    exact ⟨⟨_, M, rfl, hq, by rw [ht]; exact hP, ok.2.2.2.2.2.2.2.1.warm hW⟩, hS.F ht⟩
  · exact hS.2.2
theorem wp_lret {x : Int64} {Q : Option Value → Mm → Prop} (hd : decode μ.2.1 pc = .ok (.lreturn, 1)) (hr : μ.2.2.2 = some .long) (hq : Q (some (.long x)) M) : Wp E K μ d f pc L [.long x] nx M k n (zM E K nx k n Q) := by
  intro ok H locs ls hP hS hl
  refine W.lret ok.1 ok.2.1 (ok.2.2.2.2.2.1.trans hr) ?_ ?_ hd (hlocks := ok.2.2.2.2.2.2.1)
  · intro t ht hW
    exact ⟨⟨_, M, rfl, hq, by rw [ht]; exact hP, ok.2.2.2.2.2.2.2.1.warm hW⟩, hS.F ht⟩
  · exact hS.2.2
theorem wp_vret {Q : Option Value → Mm → Prop} (hd : decode μ.2.1 pc = .ok (.return_, 1)) (hr : μ.2.2.2 = none) (hq : Q none M) : Wp E K μ d f pc L [] nx M k n (zM E K nx k n Q) := by
  intro ok H locs ls hP hS hl
  refine W.vret ok.1 ok.2.1 (ok.2.2.2.2.2.1.trans hr) ?_ ?_ hd (hlocks := ok.2.2.2.2.2.2.1)
  · intro t ht hW
    exact ⟨⟨_, M, rfl, hq, by rw [ht]; exact hP, ok.2.2.2.2.2.2.2.1.warm hW⟩, hS.F ht⟩
  · exact hS.2.2
end RULES
