/-! RULES, by program -/
section RU
variable {cc : ByteArray} {mt : Mt} {pc : Nat} {ls ls' : List (Nat × Value)} {st : List Value} {μ : Mem} {Q : Option Value → Mem → Prop}
theorem r_iconst {n : Int} {v : Int32} (hd : decode cc pc = .ok (.iconst n, 1)) (hv : Int32.ofInt n = v) (h : WP cc mt (pc + 1) ls (.int v :: st) μ Q) : WP cc mt pc ls (st) μ Q := by
  intro p l e R s m args below meth c D ad ca A cells slots Qz C hR H locs hP hS la hl
  exact lv_iconst C.1 C.2.1 hd hv (h p l e R s m args below meth c D ad ca A cells slots Qz C hR H locs hP hS la hl)
theorem r_lconst {n : Fin 2} {v : Int64} (hd : decode cc pc = .ok (.lconst n, 1)) (hv : Int64.ofNat n.val = v) (h : WP cc mt (pc + 1) ls (.long v :: st) μ Q) : WP cc mt pc ls (st) μ Q := by
  intro p l e R s m args below meth c D ad ca A cells slots Qz C hR H locs hP hS la hl
  exact lv_lconst C.1 C.2.1 hd hv (h p l e R s m args below meth c D ad ca A cells slots Qz C hR H locs hP hS la hl)
theorem r_iadd {x y : Int32} (hd : decode cc pc = .ok (.iadd, 1))  (h : WP cc mt (pc + 1) ls (.int (x + y) :: st) μ Q) : WP cc mt pc ls (.int y :: .int x :: st) μ Q := by
  intro p l e R s m args below meth c D ad ca A cells slots Qz C hR H locs hP hS la hl
  exact lv_iadd C.1 C.2.1 hd  (h p l e R s m args below meth c D ad ca A cells slots Qz C hR H locs hP hS la hl)
theorem r_isub {x y : Int32} (hd : decode cc pc = .ok (.isub, 1))  (h : WP cc mt (pc + 1) ls (.int (x - y) :: st) μ Q) : WP cc mt pc ls (.int y :: .int x :: st) μ Q := by
  intro p l e R s m args below meth c D ad ca A cells slots Qz C hR H locs hP hS la hl
  exact lv_isub C.1 C.2.1 hd  (h p l e R s m args below meth c D ad ca A cells slots Qz C hR H locs hP hS la hl)
theorem r_imul {x y : Int32} (hd : decode cc pc = .ok (.imul, 1))  (h : WP cc mt (pc + 1) ls (.int (x * y) :: st) μ Q) : WP cc mt pc ls (.int y :: .int x :: st) μ Q := by
  intro p l e R s m args below meth c D ad ca A cells slots Qz C hR H locs hP hS la hl
  exact lv_imul C.1 C.2.1 hd  (h p l e R s m args below meth c D ad ca A cells slots Qz C hR H locs hP hS la hl)
theorem r_iand {x y : Int32} (hd : decode cc pc = .ok (.iand, 1))  (h : WP cc mt (pc + 1) ls (.int (x &&& y) :: st) μ Q) : WP cc mt pc ls (.int y :: .int x :: st) μ Q := by
  intro p l e R s m args below meth c D ad ca A cells slots Qz C hR H locs hP hS la hl
  exact lv_iand C.1 C.2.1 hd  (h p l e R s m args below meth c D ad ca A cells slots Qz C hR H locs hP hS la hl)
theorem r_ior {x y : Int32} (hd : decode cc pc = .ok (.ior, 1))  (h : WP cc mt (pc + 1) ls (.int (x ||| y) :: st) μ Q) : WP cc mt pc ls (.int y :: .int x :: st) μ Q := by
  intro p l e R s m args below meth c D ad ca A cells slots Qz C hR H locs hP hS la hl
  exact lv_ior C.1 C.2.1 hd  (h p l e R s m args below meth c D ad ca A cells slots Qz C hR H locs hP hS la hl)
theorem r_ixor {x y : Int32} (hd : decode cc pc = .ok (.ixor, 1))  (h : WP cc mt (pc + 1) ls (.int (x ^^^ y) :: st) μ Q) : WP cc mt pc ls (.int y :: .int x :: st) μ Q := by
  intro p l e R s m args below meth c D ad ca A cells slots Qz C hR H locs hP hS la hl
  exact lv_ixor C.1 C.2.1 hd  (h p l e R s m args below meth c D ad ca A cells slots Qz C hR H locs hP hS la hl)
theorem r_idiv {x y : Int32} (hd : decode cc pc = .ok (.idiv, 1)) (hne : ¬ y = 0) (h : WP cc mt (pc + 1) ls (.int (x / y) :: st) μ Q) : WP cc mt pc ls (.int y :: .int x :: st) μ Q := by
  intro p l e R s m args below meth c D ad ca A cells slots Qz C hR H locs hP hS la hl
  exact lv_idiv C.1 C.2.1 hd hne (h p l e R s m args below meth c D ad ca A cells slots Qz C hR H locs hP hS la hl)
theorem r_ishl {x y : Int32} (hd : decode cc pc = .ok (.ishl, 1))  (h : WP cc mt (pc + 1) ls (.int (x <<< (y &&& 31)) :: st) μ Q) : WP cc mt pc ls (.int y :: .int x :: st) μ Q := by
  intro p l e R s m args below meth c D ad ca A cells slots Qz C hR H locs hP hS la hl
  exact lv_ishl C.1 C.2.1 hd  (h p l e R s m args below meth c D ad ca A cells slots Qz C hR H locs hP hS la hl)
theorem r_ishr {x y : Int32} (hd : decode cc pc = .ok (.ishr, 1))  (h : WP cc mt (pc + 1) ls (.int (x >>> (y &&& 31)) :: st) μ Q) : WP cc mt pc ls (.int y :: .int x :: st) μ Q := by
  intro p l e R s m args below meth c D ad ca A cells slots Qz C hR H locs hP hS la hl
  exact lv_ishr C.1 C.2.1 hd  (h p l e R s m args below meth c D ad ca A cells slots Qz C hR H locs hP hS la hl)
theorem r_iushr {x y v : Int32} (hd : decode cc pc = .ok (.iushr, 1)) (hv : (x.toUInt32 >>> (y.toUInt32 &&& Int32.toUInt32 31)).toInt32 = v) (h : WP cc mt (pc + 1) ls (.int v :: st) μ Q) : WP cc mt pc ls (.int y :: .int x :: st) μ Q := by
  intro p l e R s m args below meth c D ad ca A cells slots Qz C hR H locs hP hS la hl
  exact lv_iushr C.1 C.2.1 hd hv (h p l e R s m args below meth c D ad ca A cells slots Qz C hR H locs hP hS la hl)
theorem r_ineg {x : Int32} (hd : decode cc pc = .ok (.ineg, 1))  (h : WP cc mt (pc + 1) ls (.int (-x) :: st) μ Q) : WP cc mt pc ls (.int x :: st) μ Q := by
  intro p l e R s m args below meth c D ad ca A cells slots Qz C hR H locs hP hS la hl
  exact lv_ineg C.1 C.2.1 hd  (h p l e R s m args below meth c D ad ca A cells slots Qz C hR H locs hP hS la hl)
theorem r_ladd {x y : Int64} (hd : decode cc pc = .ok (.ladd, 1))  (h : WP cc mt (pc + 1) ls (.long (x + y) :: st) μ Q) : WP cc mt pc ls (.long y :: .long x :: st) μ Q := by
  intro p l e R s m args below meth c D ad ca A cells slots Qz C hR H locs hP hS la hl
  exact lv_ladd C.1 C.2.1 hd  (h p l e R s m args below meth c D ad ca A cells slots Qz C hR H locs hP hS la hl)
theorem r_lsub {x y : Int64} (hd : decode cc pc = .ok (.lsub, 1))  (h : WP cc mt (pc + 1) ls (.long (x - y) :: st) μ Q) : WP cc mt pc ls (.long y :: .long x :: st) μ Q := by
  intro p l e R s m args below meth c D ad ca A cells slots Qz C hR H locs hP hS la hl
  exact lv_lsub C.1 C.2.1 hd  (h p l e R s m args below meth c D ad ca A cells slots Qz C hR H locs hP hS la hl)
theorem r_lmul {x y : Int64} (hd : decode cc pc = .ok (.lmul, 1))  (h : WP cc mt (pc + 1) ls (.long (x * y) :: st) μ Q) : WP cc mt pc ls (.long y :: .long x :: st) μ Q := by
  intro p l e R s m args below meth c D ad ca A cells slots Qz C hR H locs hP hS la hl
  exact lv_lmul C.1 C.2.1 hd  (h p l e R s m args below meth c D ad ca A cells slots Qz C hR H locs hP hS la hl)
theorem r_land {x y : Int64} (hd : decode cc pc = .ok (.land, 1))  (h : WP cc mt (pc + 1) ls (.long (x &&& y) :: st) μ Q) : WP cc mt pc ls (.long y :: .long x :: st) μ Q := by
  intro p l e R s m args below meth c D ad ca A cells slots Qz C hR H locs hP hS la hl
  exact lv_land C.1 C.2.1 hd  (h p l e R s m args below meth c D ad ca A cells slots Qz C hR H locs hP hS la hl)
theorem r_lor {x y : Int64} (hd : decode cc pc = .ok (.lor, 1))  (h : WP cc mt (pc + 1) ls (.long (x ||| y) :: st) μ Q) : WP cc mt pc ls (.long y :: .long x :: st) μ Q := by
  intro p l e R s m args below meth c D ad ca A cells slots Qz C hR H locs hP hS la hl
  exact lv_lor C.1 C.2.1 hd  (h p l e R s m args below meth c D ad ca A cells slots Qz C hR H locs hP hS la hl)
theorem r_ldiv {x y : Int64} (hd : decode cc pc = .ok (.ldiv, 1)) (hne : ¬ y = 0) (h : WP cc mt (pc + 1) ls (.long (x / y) :: st) μ Q) : WP cc mt pc ls (.long y :: .long x :: st) μ Q := by
  intro p l e R s m args below meth c D ad ca A cells slots Qz C hR H locs hP hS la hl
  exact lv_ldiv C.1 C.2.1 hd hne (h p l e R s m args below meth c D ad ca A cells slots Qz C hR H locs hP hS la hl)
theorem r_lshl {x v : Int64} {y : Int32} (hd : decode cc pc = .ok (.lshl, 1)) (hv : x <<< (y.toInt64 &&& 63) = v) (h : WP cc mt (pc + 1) ls (.long v :: st) μ Q) : WP cc mt pc ls (.int y :: .long x :: st) μ Q := by
  intro p l e R s m args below meth c D ad ca A cells slots Qz C hR H locs hP hS la hl
  exact lv_lshl C.1 C.2.1 hd hv (h p l e R s m args below meth c D ad ca A cells slots Qz C hR H locs hP hS la hl)
theorem r_lshr {x v : Int64} {y : Int32} (hd : decode cc pc = .ok (.lshr, 1)) (hv : x >>> (y.toInt64 &&& 63) = v) (h : WP cc mt (pc + 1) ls (.long v :: st) μ Q) : WP cc mt pc ls (.int y :: .long x :: st) μ Q := by
  intro p l e R s m args below meth c D ad ca A cells slots Qz C hR H locs hP hS la hl
  exact lv_lshr C.1 C.2.1 hd hv (h p l e R s m args below meth c D ad ca A cells slots Qz C hR H locs hP hS la hl)
theorem r_i2l {x : Int32} {v : Int64} (hd : decode cc pc = .ok (.i2l, 1)) (hv : x.toInt64 = v) (h : WP cc mt (pc + 1) ls (.long v :: st) μ Q) : WP cc mt pc ls (.int x :: st) μ Q := by
  intro p l e R s m args below meth c D ad ca A cells slots Qz C hR H locs hP hS la hl
  exact lv_i2l C.1 C.2.1 hd hv (h p l e R s m args below meth c D ad ca A cells slots Qz C hR H locs hP hS la hl)
theorem r_l2i {x : Int64} {v : Int32} (hd : decode cc pc = .ok (.l2i, 1)) (hv : x.toInt32 = v) (h : WP cc mt (pc + 1) ls (.int v :: st) μ Q) : WP cc mt pc ls (.long x :: st) μ Q := by
  intro p l e R s m args below meth c D ad ca A cells slots Qz C hR H locs hP hS la hl
  exact lv_l2i C.1 C.2.1 hd hv (h p l e R s m args below meth c D ad ca A cells slots Qz C hR H locs hP hS la hl)
theorem r_i2c {x : Int32} {v : Int32} (hd : decode cc pc = .ok (.i2c, 1)) (hv : (x.toUInt32 % 65536).toInt32 = v) (h : WP cc mt (pc + 1) ls (.int v :: st) μ Q) : WP cc mt pc ls (.int x :: st) μ Q := by
  intro p l e R s m args below meth c D ad ca A cells slots Qz C hR H locs hP hS la hl
  exact lv_i2c C.1 C.2.1 hd hv (h p l e R s m args below meth c D ad ca A cells slots Qz C hR H locs hP hS la hl)
theorem r_lcmp {x y : Int64} (hd : decode cc pc = .ok (.lcmp, 1))  (h : WP cc mt (pc + 1) ls (.int (lg_cmp x y) :: st) μ Q) : WP cc mt pc ls (.long y :: .long x :: st) μ Q := by
  intro p l e R s m args below meth c D ad ca A cells slots Qz C hR H locs hP hS la hl
  exact W.lcmp C.1 C.2.1 hd  (h p l e R s m args below meth c D ad ca A cells slots Qz C hR H locs hP hS la hl)
theorem r_dup_i {x : Int32} (hd : decode cc pc = .ok (.dup, 1))  (h : WP cc mt (pc + 1) ls (.int x :: .int x :: st) μ Q) : WP cc mt pc ls (.int x :: st) μ Q := by
  intro p l e R s m args below meth c D ad ca A cells slots Qz C hR H locs hP hS la hl
  exact lv_dup C.1 C.2.1 hd rfl (h p l e R s m args below meth c D ad ca A cells slots Qz C hR H locs hP hS la hl)
theorem r_dup_r {x : Nat} (hd : decode cc pc = .ok (.dup, 1))  (h : WP cc mt (pc + 1) ls (.ref x :: .ref x :: st) μ Q) : WP cc mt pc ls (.ref x :: st) μ Q := by
  intro p l e R s m args below meth c D ad ca A cells slots Qz C hR H locs hP hS la hl
  exact lv_dup C.1 C.2.1 hd rfl (h p l e R s m args below meth c D ad ca A cells slots Qz C hR H locs hP hS la hl)
theorem r_dup2_ir {x : Int32} {y : Nat} (hd : decode cc pc = .ok (.dup2, 1))  (h : WP cc mt (pc + 1) ls (.int x :: .ref y :: .int x :: .ref y :: st) μ Q) : WP cc mt pc ls (.int x :: .ref y :: st) μ Q := by
  intro p l e R s m args below meth c D ad ca A cells slots Qz C hR H locs hP hS la hl
  exact lv_dup2_11 C.1 C.2.1 hd rfl rfl (h p l e R s m args below meth c D ad ca A cells slots Qz C hR H locs hP hS la hl)
theorem r_pop_i {x : Int32} (hd : decode cc pc = .ok (.pop, 1))  (h : WP cc mt (pc + 1) ls (st) μ Q) : WP cc mt pc ls (.int x :: st) μ Q := by
  intro p l e R s m args below meth c D ad ca A cells slots Qz C hR H locs hP hS la hl
  exact lv_pop C.1 C.2.1 hd rfl (h p l e R s m args below meth c D ad ca A cells slots Qz C hR H locs hP hS la hl)
theorem r_bipush {n : Int} {v : Int32} (hd : decode cc pc = .ok (.bipush n, 2)) (hv : (Int8.ofInt n).toInt32 = v) (h : WP cc mt (pc + 2) ls (.int v :: st) μ Q) : WP cc mt pc ls (st) μ Q := by
  intro p l e R s m args below meth c D ad ca A cells slots Qz C hR H locs hP hS la hl
  exact lv_bipush C.1 C.2.1 hd hv (h p l e R s m args below meth c D ad ca A cells slots Qz C hR H locs hP hS la hl)
theorem r_sipush {n : Int} {v : Int32} (hd : decode cc pc = .ok (.sipush n, 3)) (hv : (Int16.ofInt n).toInt32 = v) (h : WP cc mt (pc + 3) ls (.int v :: st) μ Q) : WP cc mt pc ls (st) μ Q := by
  intro p l e R s m args below meth c D ad ca A cells slots Qz C hR H locs hP hS la hl
  exact lv_sipush C.1 C.2.1 hd hv (h p l e R s m args below meth c D ad ca A cells slots Qz C hR H locs hP hS la hl)
theorem r_irem {x y : Int32} (hd : decode cc pc = .ok (.irem, 1)) (hne : ¬ y = 0) (h : WP cc mt (pc + 1) ls (.int (x - x / y * y) :: st) μ Q) : WP cc mt pc ls (.int y :: .int x :: st) μ Q := by
  intro p l e R s m args below meth c D ad ca A cells slots Qz C hR H locs hP hS la hl
  exact lv_irem C.1 C.2.1 hd hne (h p l e R s m args below meth c D ad ca A cells slots Qz C hR H locs hP hS la hl)
theorem r_lrem {x y : Int64} (hd : decode cc pc = .ok (.lrem, 1)) (hne : ¬ y = 0) (h : WP cc mt (pc + 1) ls (.long (x - x / y * y) :: st) μ Q) : WP cc mt pc ls (.long y :: .long x :: st) μ Q := by
  intro p l e R s m args below meth c D ad ca A cells slots Qz C hR H locs hP hS la hl
  exact lv_lrem C.1 C.2.1 hd hne (h p l e R s m args below meth c D ad ca A cells slots Qz C hR H locs hP hS la hl)
theorem r_iload_n {k : Fin 4} {x : Int32} (hd : decode cc pc = .ok (.iload_n k, 1)) (hk : lk ls k.val = some (.int x)) (h : WP cc mt (pc + 1) ls (.int x :: st) μ Q) : WP cc mt pc ls st μ Q := by
  intro p l e R s m args below meth c D ad ca A cells slots Qz C hR H locs hP hS la hl
  exact lv_iload_n C.1 C.2.1 hd rfl (lk_at hl hk) (h p l e R s m args below meth c D ad ca A cells slots Qz C hR H locs hP hS la hl)
theorem r_iload {k : Nat} {x : Int32} (hd : decode cc pc = .ok (.iload k, 2)) (hk : lk ls k = some (.int x)) (h : WP cc mt (pc + 2) ls (.int x :: st) μ Q) : WP cc mt pc ls st μ Q := by
  intro p l e R s m args below meth c D ad ca A cells slots Qz C hR H locs hP hS la hl
  exact lv_iload C.1 C.2.1 hd (lk_at hl hk) (h p l e R s m args below meth c D ad ca A cells slots Qz C hR H locs hP hS la hl)
theorem r_istore {k : Nat} {x : Int32} (hd : decode cc pc = .ok (.istore k, 2)) (hn : k < mt.2.1) (hs : st1 ls k (.int x) = ls') (h : WP cc mt (pc + 2) ls' st μ Q) : WP cc mt pc ls (.int x :: st) μ Q := by
  intro p l e R s m args below meth c D ad ca A cells slots Qz C hR H locs hP hS la hl
  exact lv_istore C.1 C.2.1 hd hl hn rfl (fun la' hl' => h p l e R s m args below meth c D ad ca A cells slots Qz C hR H locs hP hS la' (by rw [← hs]; exact st1_has (v := .int x) hl'))
theorem r_istore_n {k : Fin 4} {x : Int32} (hd : decode cc pc = .ok (.istore_n k, 1)) (hn : k.val < mt.2.1) (hs : st1 ls k.val (.int x) = ls') (h : WP cc mt (pc + 1) ls' st μ Q) : WP cc mt pc ls (.int x :: st) μ Q := by
  intro p l e R s m args below meth c D ad ca A cells slots Qz C hR H locs hP hS la hl
  exact lv_istore_n C.1 C.2.1 hd rfl hl hn rfl (fun la' hl' => h p l e R s m args below meth c D ad ca A cells slots Qz C hR H locs hP hS la' (by rw [← hs]; exact st1_has (v := .int x) hl'))
theorem r_lload_n {k : Fin 4} {x : Int64} (hd : decode cc pc = .ok (.lload_n k, 1)) (hk : lk ls k.val = some (.long x)) (h : WP cc mt (pc + 1) ls (.long x :: st) μ Q) : WP cc mt pc ls st μ Q := by
  intro p l e R s m args below meth c D ad ca A cells slots Qz C hR H locs hP hS la hl
  exact lv_lload_n C.1 C.2.1 hd rfl (lk_at hl hk) (h p l e R s m args below meth c D ad ca A cells slots Qz C hR H locs hP hS la hl)
theorem r_lload {k : Nat} {x : Int64} (hd : decode cc pc = .ok (.lload k, 2)) (hk : lk ls k = some (.long x)) (h : WP cc mt (pc + 2) ls (.long x :: st) μ Q) : WP cc mt pc ls st μ Q := by
  intro p l e R s m args below meth c D ad ca A cells slots Qz C hR H locs hP hS la hl
  exact lv_lload C.1 C.2.1 hd (lk_at hl hk) (h p l e R s m args below meth c D ad ca A cells slots Qz C hR H locs hP hS la hl)
theorem r_lstore {k : Nat} {x : Int64} (hd : decode cc pc = .ok (.lstore k, 2)) (hn : k + 1 < mt.2.1) (hs : st2 ls k (.long x) = ls') (h : WP cc mt (pc + 2) ls' st μ Q) : WP cc mt pc ls (.long x :: st) μ Q := by
  intro p l e R s m args below meth c D ad ca A cells slots Qz C hR H locs hP hS la hl
  exact lv_lstore C.1 C.2.1 hd hl hn rfl (fun la' hl' => h p l e R s m args below meth c D ad ca A cells slots Qz C hR H locs hP hS la' (by rw [← hs]; exact st2_has (v := .long x) hl'))
theorem r_lstore_n {k : Fin 4} {x : Int64} (hd : decode cc pc = .ok (.lstore_n k, 1)) (hn : k.val + 1 < mt.2.1) (hs : st2 ls k.val (.long x) = ls') (h : WP cc mt (pc + 1) ls' st μ Q) : WP cc mt pc ls (.long x :: st) μ Q := by
  intro p l e R s m args below meth c D ad ca A cells slots Qz C hR H locs hP hS la hl
  exact lv_lstore_n C.1 C.2.1 hd rfl hl hn rfl (fun la' hl' => h p l e R s m args below meth c D ad ca A cells slots Qz C hR H locs hP hS la' (by rw [← hs]; exact st2_has (v := .long x) hl'))
theorem r_aload_n {k : Fin 4} {x : Nat} (hd : decode cc pc = .ok (.aload_n k, 1)) (hk : lk ls k.val = some (.ref x)) (h : WP cc mt (pc + 1) ls (.ref x :: st) μ Q) : WP cc mt pc ls st μ Q := by
  intro p l e R s m args below meth c D ad ca A cells slots Qz C hR H locs hP hS la hl
  exact lv_aload_n C.1 C.2.1 hd rfl (lk_at hl hk) (h p l e R s m args below meth c D ad ca A cells slots Qz C hR H locs hP hS la hl)
theorem r_aload {k : Nat} {x : Nat} (hd : decode cc pc = .ok (.aload k, 2)) (hk : lk ls k = some (.ref x)) (h : WP cc mt (pc + 2) ls (.ref x :: st) μ Q) : WP cc mt pc ls st μ Q := by
  intro p l e R s m args below meth c D ad ca A cells slots Qz C hR H locs hP hS la hl
  exact lv_aload C.1 C.2.1 hd (lk_at hl hk) (h p l e R s m args below meth c D ad ca A cells slots Qz C hR H locs hP hS la hl)
theorem r_astore {k : Nat} {x : Nat} (hd : decode cc pc = .ok (.astore k, 2)) (hn : k < mt.2.1) (hs : st1 ls k (.ref x) = ls') (h : WP cc mt (pc + 2) ls' st μ Q) : WP cc mt pc ls (.ref x :: st) μ Q := by
  intro p l e R s m args below meth c D ad ca A cells slots Qz C hR H locs hP hS la hl
  exact lv_astore C.1 C.2.1 hd hl hn rfl (fun la' hl' => h p l e R s m args below meth c D ad ca A cells slots Qz C hR H locs hP hS la' (by rw [← hs]; exact st1_has (v := .ref x) hl'))
theorem r_astore_n {k : Fin 4} {x : Nat} (hd : decode cc pc = .ok (.astore_n k, 1)) (hn : k.val < mt.2.1) (hs : st1 ls k.val (.ref x) = ls') (h : WP cc mt (pc + 1) ls' st μ Q) : WP cc mt pc ls (.ref x :: st) μ Q := by
  intro p l e R s m args below meth c D ad ca A cells slots Qz C hR H locs hP hS la hl
  exact lv_astore_n C.1 C.2.1 hd rfl hl hn rfl (fun la' hl' => h p l e R s m args below meth c D ad ca A cells slots Qz C hR H locs hP hS la' (by rw [← hs]; exact st1_has (v := .ref x) hl'))
theorem r_iinc {k : Nat} {n : Int} {x v : Int32} (hd : decode cc pc = .ok (.iinc k n, 3)) (hk : lk ls k = some (.int x)) (hv : x + Int32.ofInt n = v) (hn : k < mt.2.1) (hs : st1 ls k (.int v) = ls') (h : WP cc mt (pc + 3) ls' st μ Q) : WP cc mt pc ls st μ Q := by
  intro p l e R s m args below meth c D ad ca A cells slots Qz C hR H locs hP hS la hl
  obtain ⟨i, hi⟩ := List.getElem?_of_mem (List.mem_map.mpr ⟨(k, Value.int x), lk_mem hk, rfl⟩ : (k, Value.int x) ∈ cvL ad ls)
  exact lv_iinc C.1 C.2.1 hd hl hi hv hn rfl (fun la' hl' => h p l e R s m args below meth c D ad ca A cells slots Qz C hR H locs hP hS la' (by rw [← hs]; exact st1_has (v := .int v) hl'))
theorem r_if_eq {x : Int32} {off : Int} {tgt : Nat} (hd : decode cc pc = .ok (.ifCond .eq off, 3)) (ht : (pc : Int) + off = (tgt : Int)) (kt : x = 0 → WP cc mt tgt ls st μ Q) (kf : ¬ (x = 0) → WP cc mt (pc + 3) ls st μ Q) : WP cc mt pc ls (.int x :: st) μ Q := by
  intro p l e R s m args below meth c D ad ca A cells slots Qz C hR H locs hP hS la hl
  exact lv_if_eq C.1 C.2.1 hd ht (fun q => kt q p l e R s m args below meth c D ad ca A cells slots Qz C hR H locs hP hS la hl) (fun q => kf q p l e R s m args below meth c D ad ca A cells slots Qz C hR H locs hP hS la hl)
theorem r_icmp_eq {x y : Int32} {off : Int} {tgt : Nat} (hd : decode cc pc = .ok (.if_icmp .eq off, 3)) (ht : (pc : Int) + off = (tgt : Int)) (kt : x = y → WP cc mt tgt ls st μ Q) (kf : ¬ (x = y) → WP cc mt (pc + 3) ls st μ Q) : WP cc mt pc ls (.int y :: .int x :: st) μ Q := by
  intro p l e R s m args below meth c D ad ca A cells slots Qz C hR H locs hP hS la hl
  exact lv_icmp_eq C.1 C.2.1 hd ht (fun q => kt q p l e R s m args below meth c D ad ca A cells slots Qz C hR H locs hP hS la hl) (fun q => kf q p l e R s m args below meth c D ad ca A cells slots Qz C hR H locs hP hS la hl)
theorem r_if_ne {x : Int32} {off : Int} {tgt : Nat} (hd : decode cc pc = .ok (.ifCond .ne off, 3)) (ht : (pc : Int) + off = (tgt : Int)) (kt : ¬ x = 0 → WP cc mt tgt ls st μ Q) (kf : x = 0 → WP cc mt (pc + 3) ls st μ Q) : WP cc mt pc ls (.int x :: st) μ Q := by
  intro p l e R s m args below meth c D ad ca A cells slots Qz C hR H locs hP hS la hl
  exact lv_if_ne C.1 C.2.1 hd ht (fun q => kt q p l e R s m args below meth c D ad ca A cells slots Qz C hR H locs hP hS la hl) (fun q => kf q p l e R s m args below meth c D ad ca A cells slots Qz C hR H locs hP hS la hl)
theorem r_icmp_ne {x y : Int32} {off : Int} {tgt : Nat} (hd : decode cc pc = .ok (.if_icmp .ne off, 3)) (ht : (pc : Int) + off = (tgt : Int)) (kt : ¬ x = y → WP cc mt tgt ls st μ Q) (kf : x = y → WP cc mt (pc + 3) ls st μ Q) : WP cc mt pc ls (.int y :: .int x :: st) μ Q := by
  intro p l e R s m args below meth c D ad ca A cells slots Qz C hR H locs hP hS la hl
  exact lv_icmp_ne C.1 C.2.1 hd ht (fun q => kt q p l e R s m args below meth c D ad ca A cells slots Qz C hR H locs hP hS la hl) (fun q => kf q p l e R s m args below meth c D ad ca A cells slots Qz C hR H locs hP hS la hl)
theorem r_if_lt {x : Int32} {off : Int} {tgt : Nat} (hd : decode cc pc = .ok (.ifCond .lt off, 3)) (ht : (pc : Int) + off = (tgt : Int)) (kt : x < 0 → WP cc mt tgt ls st μ Q) (kf : ¬ (x < 0) → WP cc mt (pc + 3) ls st μ Q) : WP cc mt pc ls (.int x :: st) μ Q := by
  intro p l e R s m args below meth c D ad ca A cells slots Qz C hR H locs hP hS la hl
  exact lv_if_lt C.1 C.2.1 hd ht (fun q => kt q p l e R s m args below meth c D ad ca A cells slots Qz C hR H locs hP hS la hl) (fun q => kf q p l e R s m args below meth c D ad ca A cells slots Qz C hR H locs hP hS la hl)
theorem r_icmp_lt {x y : Int32} {off : Int} {tgt : Nat} (hd : decode cc pc = .ok (.if_icmp .lt off, 3)) (ht : (pc : Int) + off = (tgt : Int)) (kt : x < y → WP cc mt tgt ls st μ Q) (kf : ¬ (x < y) → WP cc mt (pc + 3) ls st μ Q) : WP cc mt pc ls (.int y :: .int x :: st) μ Q := by
  intro p l e R s m args below meth c D ad ca A cells slots Qz C hR H locs hP hS la hl
  exact lv_icmp_lt C.1 C.2.1 hd ht (fun q => kt q p l e R s m args below meth c D ad ca A cells slots Qz C hR H locs hP hS la hl) (fun q => kf q p l e R s m args below meth c D ad ca A cells slots Qz C hR H locs hP hS la hl)
theorem r_if_ge {x : Int32} {off : Int} {tgt : Nat} (hd : decode cc pc = .ok (.ifCond .ge off, 3)) (ht : (pc : Int) + off = (tgt : Int)) (kt : 0 ≤ x → WP cc mt tgt ls st μ Q) (kf : ¬ (0 ≤ x) → WP cc mt (pc + 3) ls st μ Q) : WP cc mt pc ls (.int x :: st) μ Q := by
  intro p l e R s m args below meth c D ad ca A cells slots Qz C hR H locs hP hS la hl
  exact lv_if_ge C.1 C.2.1 hd ht (fun q => kt q p l e R s m args below meth c D ad ca A cells slots Qz C hR H locs hP hS la hl) (fun q => kf q p l e R s m args below meth c D ad ca A cells slots Qz C hR H locs hP hS la hl)
theorem r_icmp_ge {x y : Int32} {off : Int} {tgt : Nat} (hd : decode cc pc = .ok (.if_icmp .ge off, 3)) (ht : (pc : Int) + off = (tgt : Int)) (kt : y ≤ x → WP cc mt tgt ls st μ Q) (kf : ¬ (y ≤ x) → WP cc mt (pc + 3) ls st μ Q) : WP cc mt pc ls (.int y :: .int x :: st) μ Q := by
  intro p l e R s m args below meth c D ad ca A cells slots Qz C hR H locs hP hS la hl
  exact lv_icmp_ge C.1 C.2.1 hd ht (fun q => kt q p l e R s m args below meth c D ad ca A cells slots Qz C hR H locs hP hS la hl) (fun q => kf q p l e R s m args below meth c D ad ca A cells slots Qz C hR H locs hP hS la hl)
theorem r_if_gt {x : Int32} {off : Int} {tgt : Nat} (hd : decode cc pc = .ok (.ifCond .gt off, 3)) (ht : (pc : Int) + off = (tgt : Int)) (kt : 0 < x → WP cc mt tgt ls st μ Q) (kf : ¬ (0 < x) → WP cc mt (pc + 3) ls st μ Q) : WP cc mt pc ls (.int x :: st) μ Q := by
  intro p l e R s m args below meth c D ad ca A cells slots Qz C hR H locs hP hS la hl
  exact lv_if_gt C.1 C.2.1 hd ht (fun q => kt q p l e R s m args below meth c D ad ca A cells slots Qz C hR H locs hP hS la hl) (fun q => kf q p l e R s m args below meth c D ad ca A cells slots Qz C hR H locs hP hS la hl)
theorem r_icmp_gt {x y : Int32} {off : Int} {tgt : Nat} (hd : decode cc pc = .ok (.if_icmp .gt off, 3)) (ht : (pc : Int) + off = (tgt : Int)) (kt : y < x → WP cc mt tgt ls st μ Q) (kf : ¬ (y < x) → WP cc mt (pc + 3) ls st μ Q) : WP cc mt pc ls (.int y :: .int x :: st) μ Q := by
  intro p l e R s m args below meth c D ad ca A cells slots Qz C hR H locs hP hS la hl
  exact lv_icmp_gt C.1 C.2.1 hd ht (fun q => kt q p l e R s m args below meth c D ad ca A cells slots Qz C hR H locs hP hS la hl) (fun q => kf q p l e R s m args below meth c D ad ca A cells slots Qz C hR H locs hP hS la hl)
theorem r_if_le {x : Int32} {off : Int} {tgt : Nat} (hd : decode cc pc = .ok (.ifCond .le off, 3)) (ht : (pc : Int) + off = (tgt : Int)) (kt : x ≤ 0 → WP cc mt tgt ls st μ Q) (kf : ¬ (x ≤ 0) → WP cc mt (pc + 3) ls st μ Q) : WP cc mt pc ls (.int x :: st) μ Q := by
  intro p l e R s m args below meth c D ad ca A cells slots Qz C hR H locs hP hS la hl
  exact lv_if_le C.1 C.2.1 hd ht (fun q => kt q p l e R s m args below meth c D ad ca A cells slots Qz C hR H locs hP hS la hl) (fun q => kf q p l e R s m args below meth c D ad ca A cells slots Qz C hR H locs hP hS la hl)
theorem r_icmp_le {x y : Int32} {off : Int} {tgt : Nat} (hd : decode cc pc = .ok (.if_icmp .le off, 3)) (ht : (pc : Int) + off = (tgt : Int)) (kt : x ≤ y → WP cc mt tgt ls st μ Q) (kf : ¬ (x ≤ y) → WP cc mt (pc + 3) ls st μ Q) : WP cc mt pc ls (.int y :: .int x :: st) μ Q := by
  intro p l e R s m args below meth c D ad ca A cells slots Qz C hR H locs hP hS la hl
  exact lv_icmp_le C.1 C.2.1 hd ht (fun q => kt q p l e R s m args below meth c D ad ca A cells slots Qz C hR H locs hP hS la hl) (fun q => kf q p l e R s m args below meth c D ad ca A cells slots Qz C hR H locs hP hS la hl)
theorem r_goto {off : Int} {tgt : Nat} (hd : decode cc pc = .ok (.goto off, 3)) (ht : (pc : Int) + off = (tgt : Int)) (h : WP cc mt tgt ls st μ Q) : WP cc mt pc ls st μ Q := by
  intro p l e R s m args below meth c D ad ca A cells slots Qz C hR H locs hP hS la hl
  exact lv_goto C.1 C.2.1 hd ht (h p l e R s m args below meth c D ad ca A cells slots Qz C hR H locs hP hS la hl)
theorem r_tableIn {dflt lo hi : Int} {offs : Array Int} {len : Nat} {x : Int32} {off : Int} {tgt : Nat} (hd : decode cc pc = .ok (.tableswitch dflt lo hi offs, len)) (h1 : ¬ x.toInt < lo) (h2 : ¬ hi < x.toInt) (ho : offs[(x.toInt - lo).toNat]? = some off) (ht : (pc : Int) + off = (tgt : Int)) (h : WP cc mt tgt ls st μ Q) : WP cc mt pc ls (.int x :: st) μ Q := by
  intro p l e R s m args below meth c D ad ca A cells slots Qz C hR H locs hP hS la hl
  exact lv_tableIn C.1 C.2.1 hd h1 h2 ho ht (h p l e R s m args below meth c D ad ca A cells slots Qz C hR H locs hP hS la hl)
theorem r_tableOut {dflt lo hi : Int} {offs : Array Int} {len : Nat} {x : Int32} {tgt : Nat} (hd : decode cc pc = .ok (.tableswitch dflt lo hi offs, len)) (h1 : x.toInt < lo ∨ hi < x.toInt) (ht : (pc : Int) + dflt = (tgt : Int)) (h : WP cc mt tgt ls st μ Q) : WP cc mt pc ls (.int x :: st) μ Q := by
  intro p l e R s m args below meth c D ad ca A cells slots Qz C hR H locs hP hS la hl
  exact lv_tableOut C.1 C.2.1 hd h1 ht (h p l e R s m args below meth c D ad ca A cells slots Qz C hR H locs hP hS la hl)
theorem r_ldc {i : Nat} {v : Int32} (hd : decode cc pc = .ok (.ldc i, 2)) (hc : Cond.constant mt.1 i v ∈ lwG) (h : WP cc mt (pc + 2) ls (.int v :: st) μ Q) : WP cc mt pc ls st μ Q := by
  intro p l e R s m args below meth c D ad ca A cells slots Qz C hR H locs hP hS la hl
  exact lv_ldc C.1 C.2.1 C.2.2.2.1 (C.2.2.2.2.1 _ hc) hd (h p l e R s m args below meth c D ad ca A cells slots Qz C hR H locs hP hS la hl)
theorem r_ldcw {i : Nat} {v : Int32} (hd : decode cc pc = .ok (.ldc_w i, 3)) (hc : Cond.constant mt.1 i v ∈ lwG) (h : WP cc mt (pc + 3) ls (.int v :: st) μ Q) : WP cc mt pc ls st μ Q := by
  intro p l e R s m args below meth c D ad ca A cells slots Qz C hR H locs hP hS la hl
  exact lv_ldcw C.1 C.2.1 C.2.2.2.1 (C.2.2.2.2.1 _ hc) hd (h p l e R s m args below meth c D ad ca A cells slots Qz C hR H locs hP hS la hl)
theorem r_ldc2 {i : Nat} {v : Int64} (hd : decode cc pc = .ok (.ldc2_w i, 3)) (hc : Cond.constantLong mt.1 i v ∈ lwG) (h : WP cc mt (pc + 3) ls (.long v :: st) μ Q) : WP cc mt pc ls st μ Q := by
  intro p l e R s m args below meth c D ad ca A cells slots Qz C hR H locs hP hS la hl
  exact lv_ldc2 C.1 C.2.1 C.2.2.2.1 (C.2.2.2.2.1 _ hc) hd (h p l e R s m args below meth c D ad ca A cells slots Qz C hR H locs hP hS la hl)
theorem r_topi {x : Int32} (k : ∀ y : Int32, y = x → WP cc mt pc ls (.int y :: st) μ Q) : WP cc mt pc ls (.int x :: st) μ Q := k x rfl
theorem r_topl {x : Int64} (k : ∀ y : Int64, y = x → WP cc mt pc ls (.long y :: st) μ Q) : WP cc mt pc ls (.long x :: st) μ Q := k x rfl
theorem r_eqi {x y : Int32} (e : x = y) (k : WP cc mt pc ls (.int y :: st) μ Q) : WP cc mt pc ls (.int x :: st) μ Q := e ▸ k
theorem r_eql {x y : Int64} (e : x = y) (k : WP cc mt pc ls (.long y :: st) μ Q) : WP cc mt pc ls (.long x :: st) μ Q := e ▸ k
theorem r_mem {μ' : Mem} (e : μ = μ') (k : WP cc mt pc ls st μ' Q) : WP cc mt pc ls st μ Q := e ▸ k
theorem r_top {ls' : List (Nat × Value)} (e : ls = ls') (k : WP cc mt pc ls' st μ Q) : WP cc mt pc ls st μ Q := e ▸ k
def FOK (own : String) (idx ci j : Nat) : Prop := ∃ (C : String) (T : u_T) (N : Nat), vwCl[ci]? = some (C, T, N) ∧ (∀ w ∈ u_ws C T N, w ∈ lwG) ∧ j < N ∧ Cond.fieldLink own idx (T j).1 (T j).2.1 (T j).2.2.1 ∈ lwG
def FOKp (own : String) (idx ci j : Nat) (ty : FieldType) : Prop := ∃ (C : String) (T : u_T) (N : Nat) (ty0 : Nat → FieldType), vwCl[ci]? = some (C, T, N) ∧ (∀ w ∈ u_ws C T N, w ∈ lwG) ∧ j < N ∧ Cond.fieldLink own idx (T j).1 (T j).2.1 (T j).2.2.1 ∈ lwG ∧ (∀ k, k < N → parseFieldDescriptor (T k).2.2.1 = some (ty0 k)) ∧ (∀ a, a < N → ∀ b, b < N → a ≠ b → (T a).2.1 ≠ (T b).2.1) ∧ (T j).2.2.2 = false ∧ parseFieldDescriptor (T j).2.2.1 = some ty
theorem r_getI {idx ci j k : Nat} {fl : List Nat} {x : Int32} (hd : decode cc pc = .ok (.getfield idx, 3)) (hF : FOK mt.1 idx ci j) (hk : SHl[k]? = some (.inr (ci, fl))) (hf : fl[j]? = some 0) (hv : μ.1 k j = x) (h : WP cc mt (pc + 3) ls (.int x :: st) μ Q) : WP cc mt pc ls (.ref k :: st) μ Q := by
  intro p l e R s m args below meth c D ad ca A cells slots Qz C hR H locs hP hS la hl
  obtain ⟨Cn, T, N, h1, h2, h3, h4⟩ := hF
  have he : (wsO ad ca μ)[k]? = some (ad k, .inr (ci, fv ad μ k 0 fl)) := by rw [wsO_get (SHl_lt hk), ce_obj hk]
  refine va_get C.1 C.2.1 C.2.2.2.2.1 h2 C.2.2.2.1 C.2.2.2.2.2.1.K hP k he h1 j h3 (C.2.2.2.2.1 _ h4) (fun _ h9 => h9) (v := .int x) ?_ hd (h p l e R s m args below meth c D ad ca A cells slots Qz C hR H locs hP hS la hl)
  rw [fv_get, hf, ← hv]
  simp [fvl]
theorem r_getL {idx ci j k : Nat} {fl : List Nat} {x : Int64} (hd : decode cc pc = .ok (.getfield idx, 3)) (hF : FOK mt.1 idx ci j) (hk : SHl[k]? = some (.inr (ci, fl))) (hf : fl[j]? = some 1) (hv : μ.2 k j = x) (h : WP cc mt (pc + 3) ls (.long x :: st) μ Q) : WP cc mt pc ls (.ref k :: st) μ Q := by
  intro p l e R s m args below meth c D ad ca A cells slots Qz C hR H locs hP hS la hl
  obtain ⟨Cn, T, N, h1, h2, h3, h4⟩ := hF
  have he : (wsO ad ca μ)[k]? = some (ad k, .inr (ci, fv ad μ k 0 fl)) := by rw [wsO_get (SHl_lt hk), ce_obj hk]
  refine va_get C.1 C.2.1 C.2.2.2.2.1 h2 C.2.2.2.1 C.2.2.2.2.2.1.K hP k he h1 j h3 (C.2.2.2.2.1 _ h4) (fun _ h9 => h9) (v := .long x) ?_ hd (h p l e R s m args below meth c D ad ca A cells slots Qz C hR H locs hP hS la hl)
  rw [fv_get, hf, ← hv]
  simp [fvl]
theorem r_getR {idx ci j k r : Nat} {fl : List Nat} (hd : decode cc pc = .ok (.getfield idx, 3)) (hF : FOK mt.1 idx ci j) (hk : SHl[k]? = some (.inr (ci, fl))) (hf : fl[j]? = some (10 + r)) (h : WP cc mt (pc + 3) ls (.ref r :: st) μ Q) : WP cc mt pc ls (.ref k :: st) μ Q := by
  intro p l e R s m args below meth c D ad ca A cells slots Qz C hR H locs hP hS la hl
  obtain ⟨Cn, T, N, h1, h2, h3, h4⟩ := hF
  have he : (wsO ad ca μ)[k]? = some (ad k, .inr (ci, fv ad μ k 0 fl)) := by rw [wsO_get (SHl_lt hk), ce_obj hk]
  refine va_get C.1 C.2.1 C.2.2.2.2.1 h2 C.2.2.2.1 C.2.2.2.2.2.1.K hP k he h1 j h3 (C.2.2.2.2.1 _ h4) (fun _ h9 => h9) (v := .ref (ad r)) ?_ hd (h p l e R s m args below meth c D ad ca A cells slots Qz C hR H locs hP hS la hl)
  rw [fv_get, hf]
  simp [fvl, show ¬ 10 + r = 0 by omega, show ¬ 10 + r = 1 by omega]
theorem r_putI {idx ci j k : Nat} {fl : List Nat} {x : Int32} {ty : FieldType} (hd : decode cc pc = .ok (.putfield idx, 3)) (hF : FOKp mt.1 idx ci j ty) (hk : SHl[k]? = some (.inr (ci, fl))) (hf : fl[j]? = some 0) (hn : narrow ty (.int x) = .int x) (hfit : fits ty (.int x) = true) (h : WP cc mt (pc + 3) ls st (setI μ k j x) Q) : WP cc mt pc ls (.int x :: .ref k :: st) μ Q := by
  intro p l e R s m args below meth c D ad ca A cells slots Qz C hR H locs hP hS la hl
  obtain ⟨Cn, T, N, ty0, h1, h2, h3, h4, h5, h6, h7, h8⟩ := hF
  have he : (wsO ad ca μ)[k]? = some (ad k, .inr (ci, fv ad μ k 0 fl)) := by rw [wsO_get (SHl_lt hk), ce_obj hk]
  refine va_put C.1 C.2.1 C.2.2.2.2.1 h2 ty0 h5 h6 C.2.2.2.1 C.2.2.2.2.2.1.K hP (wsO_D C.2.2.2.2.2.2.2.1 C.2.2.2.2.2.2.2.2.1) hS k he h1 j h3 (C.2.2.2.2.1 _ h4) (fun _ h9 => h9) h7 h8 (v := .int x) hn hfit (by rw [fv_len]; exact (List.getElem?_eq_some_iff.mp hf).1) hd (fun H1 locs1 hP1 hD1 hS1 => ?_)
  exact h p l e R s m args below meth c D ad ca A cells slots Qz C hR H1 locs1 (by have hp1' := hP1; rw [fv_setI hf, ← ce_obj (ad := ad) (ca := ca) hk, wsO_set ce_setI] at hp1'; exact hp1') hS1 la hl
theorem r_putL {idx ci j k : Nat} {fl : List Nat} {x : Int64} {ty : FieldType} (hd : decode cc pc = .ok (.putfield idx, 3)) (hF : FOKp mt.1 idx ci j ty) (hk : SHl[k]? = some (.inr (ci, fl))) (hf : fl[j]? = some 1) (hn : narrow ty (.long x) = .long x) (hfit : fits ty (.long x) = true) (h : WP cc mt (pc + 3) ls st (setL μ k j x) Q) : WP cc mt pc ls (.long x :: .ref k :: st) μ Q := by
  intro p l e R s m args below meth c D ad ca A cells slots Qz C hR H locs hP hS la hl
  obtain ⟨Cn, T, N, ty0, h1, h2, h3, h4, h5, h6, h7, h8⟩ := hF
  have he : (wsO ad ca μ)[k]? = some (ad k, .inr (ci, fv ad μ k 0 fl)) := by rw [wsO_get (SHl_lt hk), ce_obj hk]
  refine va_put C.1 C.2.1 C.2.2.2.2.1 h2 ty0 h5 h6 C.2.2.2.1 C.2.2.2.2.2.1.K hP (wsO_D C.2.2.2.2.2.2.2.1 C.2.2.2.2.2.2.2.2.1) hS k he h1 j h3 (C.2.2.2.2.1 _ h4) (fun _ h9 => h9) h7 h8 (v := .long x) hn hfit (by rw [fv_len]; exact (List.getElem?_eq_some_iff.mp hf).1) hd (fun H1 locs1 hP1 hD1 hS1 => ?_)
  exact h p l e R s m args below meth c D ad ca A cells slots Qz C hR H1 locs1 (by have hp1' := hP1; rw [fv_setL hf, ← ce_obj (ad := ad) (ca := ca) hk, wsO_set ce_setL] at hp1'; exact hp1') hS1 la hl
def shN (x : Option ShE) : Nat := match x with
  | some (.inl (_, n, _)) => n
  | _ => 0
theorem SHl_small {k t n b : Nat} (h : SHl[k]? = some (.inl (t, n, b))) : n < 2 ^ 31 := by
  have hk := SHl_lt h
  have key : ∀ k, k < 63 → shN SHl[k]? < 2 ^ 31 := by decide +kernel
  have := key k hk
  rw [h] at this
  exact this
theorem r_iald {k n b j : Nat} {i : Int32} {x : Int32} (hd : decode cc pc = .ok (.iaload, 1)) (hk : SHl[k]? = some (.inl (0, n, b))) (hi : i = nI j) (hj : j < n) (hv : μ.1 k j = x) (h : WP cc mt (pc + 1) ls (.int x :: st) μ Q) : WP cc mt pc ls (.int i :: .ref k :: st) μ Q := by
  intro p l e R s m args below meth c D ad ca A cells slots Qz C hR H locs hP hS la hl
  have hs := SHl_small hk
  subst hi
  have he := wsO_get (ad := ad) (ca := ca) (μ := μ) (SHl_lt hk)
  rw [ce_row hk] at he
  refine va_iald C.1 C.2.1 (C.2.2.2.2.2.1.K1 hk) hP k 0 he rfl (vp_in_nI hj hs) hd ?_
  rw [nI_clamp (by omega), hv]
  exact h p l e R s m args below meth c D ad ca A cells slots Qz C hR H locs hP hS la hl
theorem r_cald {k n b j : Nat} {i : Int32} {x : Int32} (hd : decode cc pc = .ok (.caload, 1)) (hk : SHl[k]? = some (.inl (2, n, b))) (hi : i = nI j) (hj : j < n) (hv : μ.1 k j = x) (h : WP cc mt (pc + 1) ls (.int x :: st) μ Q) : WP cc mt pc ls (.int i :: .ref k :: st) μ Q := by
  intro p l e R s m args below meth c D ad ca A cells slots Qz C hR H locs hP hS la hl
  have hs := SHl_small hk
  subst hi
  have he := wsO_get (ad := ad) (ca := ca) (μ := μ) (SHl_lt hk)
  rw [ce_row hk] at he
  refine va_cald C.1 C.2.1 (C.2.2.2.2.2.1.K1 hk) hP k 0 he rfl (vp_in_nI hj hs) hd ?_
  rw [nI_clamp (by omega), hv]
  exact h p l e R s m args below meth c D ad ca A cells slots Qz C hR H locs hP hS la hl
theorem r_lald {k n b j : Nat} {i : Int32} {x : Int64} (hd : decode cc pc = .ok (.laload, 1)) (hk : SHl[k]? = some (.inl (1, n, b))) (hi : i = nI j) (hj : j < n) (hv : μ.2 k j = x) (h : WP cc mt (pc + 1) ls (.long x :: st) μ Q) : WP cc mt pc ls (.int i :: .ref k :: st) μ Q := by
  intro p l e R s m args below meth c D ad ca A cells slots Qz C hR H locs hP hS la hl
  have hs := SHl_small hk
  subst hi
  have he := wsO_get (ad := ad) (ca := ca) (μ := μ) (SHl_lt hk)
  rw [ce_row hk] at he
  refine va_lald C.1 C.2.1 (C.2.2.2.2.2.1.K1 hk) hP k 0 he rfl (vp_in_nI hj hs) hd ?_
  rw [nI_clamp (by omega), hv]
  exact h p l e R s m args below meth c D ad ca A cells slots Qz C hR H locs hP hS la hl
theorem r_iast {k n b j : Nat} {i : Int32} {x : Int32} (hd : decode cc pc = .ok (.iastore, 1)) (hk : SHl[k]? = some (.inl (0, n, b))) (hi : i = nI j) (hj : j < n)  (h : WP cc mt (pc + 1) ls st (setI μ k j x) Q) : WP cc mt pc ls (.int x :: .int i :: .ref k :: st) μ Q := by
  intro p l e R s m args below meth c D ad ca A cells slots Qz C hR H locs hP hS la hl
  have hs := SHl_small hk
  subst hi
  have he := wsO_get (ad := ad) (ca := ca) (μ := μ) (SHl_lt hk)
  rw [ce_row hk] at he
  refine va_iast C.1 C.2.1 (C.2.2.2.2.2.1.K1 hk) hP (wsO_D C.2.2.2.2.2.2.2.1 C.2.2.2.2.2.2.2.2.1) hS k 0 he rfl (vp_in_nI hj hs) hd (fun H1 locs1 hP1 hD1 hS1 => ?_)
  refine h p l e R s m args below meth c D ad ca A cells slots Qz C hR H1 locs1 ?_ hS1 la hl
  rw [nI_clamp (by omega)] at hP1
  rw [← wsO_set ce_setI, ce_row hk]
  refine (congrArg (fun z => va_P D vwCl ((wsO ad ca μ).set k (ad k, Sum.inl (ca k, n, z))) H1) ?_).mp hP1
  simp [ceA, setI]
theorem r_cast {k n b j : Nat} {i : Int32} {x : Int32} (hd : decode cc pc = .ok (.castore, 1)) (hk : SHl[k]? = some (.inl (2, n, b))) (hi : i = nI j) (hj : j < n) (hx : vp_nar .char x = x) (h : WP cc mt (pc + 1) ls st (setI μ k j x) Q) : WP cc mt pc ls (.int x :: .int i :: .ref k :: st) μ Q := by
  intro p l e R s m args below meth c D ad ca A cells slots Qz C hR H locs hP hS la hl
  have hs := SHl_small hk
  subst hi
  have he := wsO_get (ad := ad) (ca := ca) (μ := μ) (SHl_lt hk)
  rw [ce_row hk] at he
  refine va_cast C.1 C.2.1 (C.2.2.2.2.2.1.K1 hk) hP (wsO_D C.2.2.2.2.2.2.2.1 C.2.2.2.2.2.2.2.2.1) hS k 0 he rfl (vp_in_nI hj hs) hd (fun H1 locs1 hP1 hD1 hS1 => ?_)
  refine h p l e R s m args below meth c D ad ca A cells slots Qz C hR H1 locs1 ?_ hS1 la hl
  rw [nI_clamp (by omega), hx] at hP1
  rw [← wsO_set ce_setI, ce_row hk]
  refine (congrArg (fun z => va_P D vwCl ((wsO ad ca μ).set k (ad k, Sum.inl (ca k, n, z))) H1) ?_).mp hP1
  simp [ceA, setI]
theorem r_last {k n b j : Nat} {i : Int32} {x : Int64} (hd : decode cc pc = .ok (.lastore, 1)) (hk : SHl[k]? = some (.inl (1, n, b))) (hi : i = nI j) (hj : j < n)  (h : WP cc mt (pc + 1) ls st (setL μ k j x) Q) : WP cc mt pc ls (.long x :: .int i :: .ref k :: st) μ Q := by
  intro p l e R s m args below meth c D ad ca A cells slots Qz C hR H locs hP hS la hl
  have hs := SHl_small hk
  subst hi
  have he := wsO_get (ad := ad) (ca := ca) (μ := μ) (SHl_lt hk)
  rw [ce_row hk] at he
  refine va_last C.1 C.2.1 (C.2.2.2.2.2.1.K1 hk) hP (wsO_D C.2.2.2.2.2.2.2.1 C.2.2.2.2.2.2.2.2.1) hS k 0 he rfl (vp_in_nI hj hs) hd (fun H1 locs1 hP1 hD1 hS1 => ?_)
  refine h p l e R s m args below meth c D ad ca A cells slots Qz C hR H1 locs1 ?_ hS1 la hl
  rw [nI_clamp (by omega)] at hP1
  rw [← wsO_set ce_setL, ce_row hk]
  refine (congrArg (fun z => va_P D vwCl ((wsO ad ca μ).set k (ad k, Sum.inl (ca k, n, z))) H1) ?_).mp hP1
  simp [ceA, setL]
theorem r_aald {k n b j : Nat} {i : Int32} (hd : decode cc pc = .ok (.aaload, 1)) (hk : SHl[k]? = some (.inl (3, n, b))) (hi : i = nI j) (hj : j < n) (h : WP cc mt (pc + 1) ls (.ref (b + j) :: st) μ Q) : WP cc mt pc ls (.int i :: .ref k :: st) μ Q := by
  intro p l e R s m args below meth c D ad ca A cells slots Qz C hR H locs hP hS la hl
  have hs := SHl_small hk
  subst hi
  have he := wsO_get (ad := ad) (ca := ca) (μ := μ) (SHl_lt hk)
  rw [ce_row hk] at he
  have hcl : (nI j).toNatClampNeg = j := nI_clamp (by omega)
  refine W.aald (v := .ref (ad (b + j))) (ty := .array .int) C.1 C.2.1 (hP k _ he) (((C.2.2.2.2.2.1.K1 hk).2 0 _ rfl).1 n (fun q => va_rf (if q < n then some (ad (b + q)) else none))) rfl (fun q => by cases q) (by show ¬ (nI j < 0 ∨ (arrV _ _ _).slots.size ≤ _); rw [arrV_size]; exact vp_in_nI hj hs) (by show (arrV _ _ _).slots[_]? = _; rw [hcl, arrV_read _ _ hj]; simp [hj, va_rf]) rfl rfl hd ?_
  exact h p l e R s m args below meth c D ad ca A cells slots Qz C hR H locs hP hS la hl
theorem r_alen {k n b : Nat} (hd : decode cc pc = .ok (.arraylength, 1)) (hk : SHl[k]? = some (.inl (0, n, b))) (h : WP cc mt (pc + 1) ls (.int (nI n) :: st) μ Q) : WP cc mt pc ls (.ref k :: st) μ Q := by
  intro p l e R s m args below meth c D ad ca A cells slots Qz C hR H locs hP hS la hl
  have he := wsO_get (ad := ad) (ca := ca) (μ := μ) (SHl_lt hk)
  rw [ce_row hk] at he
  exact va_alen C.1 C.2.1 (C.2.2.2.2.2.1.K1 hk) hP k 0 he rfl (v := nI n) rfl hd (h p l e R s m args below meth c D ad ca A cells slots Qz C hR H locs hP hS la hl)
theorem r_gets0 {idx : Nat} (hd : decode cc pc = .ok (.getstatic idx, 3)) (hlk : Cond.fieldLink mt.1 idx "FairBoards" "LEAST_SETTING" "[I" ∈ lwG) (h : WP cc mt (pc + 3) ls (.ref 1000 :: st) μ Q) : WP cc mt pc ls st μ Q := by
  intro p l e R s m args below meth c D ad ca A cells slots Qz C hR H locs hP hS la hl
  exact va_gets C.1 C.2.1 C.2.2.2.2.2.2.1.1.1 hS C.2.2.2.1 (C.2.2.2.2.1 _ hlk) (fun _ h9 => h9) hd (h p l e R s m args below meth c D ad ca A cells slots Qz C hR H locs hP hS la hl)
theorem r_tld0 {j : Nat} {i : Int32} {x : Int32} (hd : decode cc pc = .ok (.iaload, 1)) (hi : i = nI j) (hj : j < 3) (hv : cst0 j = x) (h : WP cc mt (pc + 1) ls (.int x :: st) μ Q) : WP cc mt pc ls (.int i :: .ref 1000 :: st) μ Q := by
  intro p l e R s m args below meth c D ad ca A cells slots Qz C hR H locs hP hS la hl
  subst hi
  exact va_ti C.1 C.2.1 C.2.2.2.2.2.2.1.1.2 hS (vp_in_nI hj (by decide)) (v := .int x) (by rw [nI_clamp (by omega), hv]) hd (h p l e R s m args below meth c D ad ca A cells slots Qz C hR H locs hP hS la hl)
theorem r_gets1 {idx : Nat} (hd : decode cc pc = .ok (.getstatic idx, 3)) (hlk : Cond.fieldLink mt.1 idx "FairBoards" "GREATEST_SETTING" "[I" ∈ lwG) (h : WP cc mt (pc + 3) ls (.ref 1001 :: st) μ Q) : WP cc mt pc ls st μ Q := by
  intro p l e R s m args below meth c D ad ca A cells slots Qz C hR H locs hP hS la hl
  exact va_gets C.1 C.2.1 C.2.2.2.2.2.2.1.2.1 hS C.2.2.2.1 (C.2.2.2.2.1 _ hlk) (fun _ h9 => h9) hd (h p l e R s m args below meth c D ad ca A cells slots Qz C hR H locs hP hS la hl)
theorem r_tld1 {j : Nat} {i : Int32} {x : Int32} (hd : decode cc pc = .ok (.iaload, 1)) (hi : i = nI j) (hj : j < 3) (hv : cst1 j = x) (h : WP cc mt (pc + 1) ls (.int x :: st) μ Q) : WP cc mt pc ls (.int i :: .ref 1001 :: st) μ Q := by
  intro p l e R s m args below meth c D ad ca A cells slots Qz C hR H locs hP hS la hl
  subst hi
  exact va_ti C.1 C.2.1 C.2.2.2.2.2.2.1.2.2 hS (vp_in_nI hj (by decide)) (v := .int x) (by rw [nI_clamp (by omega), hv]) hd (h p l e R s m args below meth c D ad ca A cells slots Qz C hR H locs hP hS la hl)
theorem r_sld {L j : Nat} {xs : Nat → Int32} {i : Int32} (hd : decode cc pc = .ok (.iaload, 1)) (hsc : mt.2.2.2.2 = some (L, xs)) (hL : L < 2 ^ 31) (hi : i = nI j) (hj : j < L) (h : WP cc mt (pc + 1) ls (.int (xs j) :: st) μ Q) : WP cc mt pc ls (.int i :: .ref 1002 :: st) μ Q := by
  intro p l e R s m args below meth c D ad ca A cells slots Qz C hR H locs hP hS la hl
  subst hi
  have hX := C.2.2.2.2.2.2.2.2.2.2.2
  rw [hsc] at hX
  obtain ⟨h1, h2, h3⟩ := hX
  refine va_sld C.1 C.2.1 h1 h2 h3 hS (vp_in_nI hj hL) hd ?_
  rw [nI_clamp (by omega)]
  exact h p l e R s m args below meth c D ad ca A cells slots Qz C hR H locs hP hS la hl
theorem r_slen {L : Nat} {xs : Nat → Int32} (hd : decode cc pc = .ok (.arraylength, 1)) (hsc : mt.2.2.2.2 = some (L, xs)) (h : WP cc mt (pc + 1) ls (.int (nI L) :: st) μ Q) : WP cc mt pc ls (.ref 1002 :: st) μ Q := by
  intro p l e R s m args below meth c D ad ca A cells slots Qz C hR H locs hP hS la hl
  have hX := C.2.2.2.2.2.2.2.2.2.2.2
  rw [hsc] at hX
  obtain ⟨h1, h2, h3⟩ := hX
  exact va_slen C.1 C.2.1 h1 h2 h3 hS hd (h p l e R s m args below meth c D ad ca A cells slots Qz C hR H locs hP hS la hl)
end RU
