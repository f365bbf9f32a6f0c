section ROWS
variable {M : MI} {S : Scr} {pc : Nat} {ls : List (Option Value)} {st : List Value} {w : PW} {k n : Nat} {P : Option Value → PW → Prop}
theorem o_iconst {a : Int} {v : Int32} (hd : decode (mC M) pc = .ok (.iconst a, 1)) (hv : Int32.ofInt a = v) (h : Ok M S (pc + 1) ls (.int v :: st) w k n P) : Ok M S pc ls st w k n P := by
  intro p l e s m args below meth c D cI A ad0 n0 Q C hr ad H locs LS hR hl
  exact lv_iconst C.1.1 C.1.2.1 hd hv (h p l e s m args below meth c D cI A ad0 n0 Q C hr ad H locs LS hR hl)
theorem o_bipush {a : Int} {v : Int32} (hd : decode (mC M) pc = .ok (.bipush a, 2)) (hv : (Int8.ofInt a).toInt32 = v) (h : Ok M S (pc + 2) ls (.int v :: st) w k n P) : Ok M S pc ls st w k n P := by
  intro p l e s m args below meth c D cI A ad0 n0 Q C hr ad H locs LS hR hl
  exact lv_bipush C.1.1 C.1.2.1 hd hv (h p l e s m args below meth c D cI A ad0 n0 Q C hr ad H locs LS hR hl)
theorem o_sipush {a : Int} {v : Int32} (hd : decode (mC M) pc = .ok (.sipush a, 3)) (hv : (Int16.ofInt a).toInt32 = v) (h : Ok M S (pc + 3) ls (.int v :: st) w k n P) : Ok M S pc ls st w k n P := by
  intro p l e s m args below meth c D cI A ad0 n0 Q C hr ad H locs LS hR hl
  exact lv_sipush C.1.1 C.1.2.1 hd hv (h p l e s m args below meth c D cI A ad0 n0 Q C hr ad H locs LS hR hl)
theorem o_lconst {a : Fin 2} {v : Int64} (hd : decode (mC M) pc = .ok (.lconst a, 1)) (hv : Int64.ofNat (a : Nat) = v) (h : Ok M S (pc + 1) ls (.long v :: st) w k n P) : Ok M S pc ls st w k n P := by
  intro p l e s m args below meth c D cI A ad0 n0 Q C hr ad H locs LS hR hl
  exact lv_lconst C.1.1 C.1.2.1 hd hv (h p l e s m args below meth c D cI A ad0 n0 Q C hr ad H locs LS hR hl)
theorem o_iload_n {j : Fin 4} {i : Nat} {x : Int32} (hd : decode (mC M) pc = .ok (.iload_n j, 1)) (hi : (j : Nat) = i) (hg : ls[i]? = some (some (.int x))) (h : Ok M S (pc + 1) ls (.int x :: st) w k n P) : Ok M S pc ls st w k n P := by
  intro p l e s m args below meth c D cI A ad0 n0 Q C hr ad H locs LS hR hl
  exact lv_iload_n C.1.1 C.1.2.1 hd hi (hl.2.2 _ _ hg) (h p l e s m args below meth c D cI A ad0 n0 Q C hr ad H locs LS hR hl)
theorem o_iload {i : Nat} {x : Int32} (hd : decode (mC M) pc = .ok (.iload i, 2)) (hg : ls[i]? = some (some (.int x))) (h : Ok M S (pc + 2) ls (.int x :: st) w k n P) : Ok M S pc ls st w k n P := by
  intro p l e s m args below meth c D cI A ad0 n0 Q C hr ad H locs LS hR hl
  exact lv_iload C.1.1 C.1.2.1 hd (hl.2.2 _ _ hg) (h p l e s m args below meth c D cI A ad0 n0 Q C hr ad H locs LS hR hl)
theorem o_lload_n {j : Fin 4} {i : Nat} {x : Int64} (hd : decode (mC M) pc = .ok (.lload_n j, 1)) (hi : (j : Nat) = i) (hg : ls[i]? = some (some (.long x))) (h : Ok M S (pc + 1) ls (.long x :: st) w k n P) : Ok M S pc ls st w k n P := by
  intro p l e s m args below meth c D cI A ad0 n0 Q C hr ad H locs LS hR hl
  exact lv_lload_n C.1.1 C.1.2.1 hd hi (hl.2.2 _ _ hg) (h p l e s m args below meth c D cI A ad0 n0 Q C hr ad H locs LS hR hl)
theorem o_lload {i : Nat} {x : Int64} (hd : decode (mC M) pc = .ok (.lload i, 2)) (hg : ls[i]? = some (some (.long x))) (h : Ok M S (pc + 2) ls (.long x :: st) w k n P) : Ok M S pc ls st w k n P := by
  intro p l e s m args below meth c D cI A ad0 n0 Q C hr ad H locs LS hR hl
  exact lv_lload C.1.1 C.1.2.1 hd (hl.2.2 _ _ hg) (h p l e s m args below meth c D cI A ad0 n0 Q C hr ad H locs LS hR hl)
theorem o_aload_n {j : Fin 4} {i : Nat} {x : Nat} (hd : decode (mC M) pc = .ok (.aload_n j, 1)) (hi : (j : Nat) = i) (hg : ls[i]? = some (some (.ref x))) (h : Ok M S (pc + 1) ls (.ref x :: st) w k n P) : Ok M S pc ls st w k n P := by
  intro p l e s m args below meth c D cI A ad0 n0 Q C hr ad H locs LS hR hl
  exact lv_aload_n C.1.1 C.1.2.1 hd hi (hl.2.2 _ _ hg) (h p l e s m args below meth c D cI A ad0 n0 Q C hr ad H locs LS hR hl)
theorem o_aload {i : Nat} {x : Nat} (hd : decode (mC M) pc = .ok (.aload i, 2)) (hg : ls[i]? = some (some (.ref x))) (h : Ok M S (pc + 2) ls (.ref x :: st) w k n P) : Ok M S pc ls st w k n P := by
  intro p l e s m args below meth c D cI A ad0 n0 Q C hr ad H locs LS hR hl
  exact lv_aload C.1.1 C.1.2.1 hd (hl.2.2 _ _ hg) (h p l e s m args below meth c D cI A ad0 n0 Q C hr ad H locs LS hR hl)
theorem o_istore_n {j : Fin 4} {i : Nat} {x : Int32} {ls2 : List (Option Value)} (hd : decode (mC M) pc = .ok (.istore_n j, 1)) (hi : (j : Nat) = i) (hn : i < mL M) (hs : st1 ls i (.int x) = ls2) (h : Ok M S (pc + 1) ls2 st w k n P) : Ok M S pc ls (.int x :: st) w k n P := by
  subst hs
  intro p l e s m args below meth c D cI A ad0 n0 Q C hr ad H locs LS hR hl
  exact lv_istore_n C.1.1 C.1.2.1 hd hi (lr_has hl) hn rfl (fun LS2 hl2 => h p l e s m args below meth c D cI A ad0 n0 Q C hr ad H locs LS2 hR (lr_st1 hl2))
theorem o_istore {i : Nat} {x : Int32} {ls2 : List (Option Value)} (hd : decode (mC M) pc = .ok (.istore i, 2)) (hn : i < mL M) (hs : st1 ls i (.int x) = ls2) (h : Ok M S (pc + 2) ls2 st w k n P) : Ok M S pc ls (.int x :: st) w k n P := by
  subst hs
  intro p l e s m args below meth c D cI A ad0 n0 Q C hr ad H locs LS hR hl
  exact lv_istore C.1.1 C.1.2.1 hd (lr_has hl) hn rfl (fun LS2 hl2 => h p l e s m args below meth c D cI A ad0 n0 Q C hr ad H locs LS2 hR (lr_st1 hl2))
theorem o_lstore_n {j : Fin 4} {i : Nat} {x : Int64} {ls2 : List (Option Value)} (hd : decode (mC M) pc = .ok (.lstore_n j, 1)) (hi : (j : Nat) = i) (hn : i + 1 < mL M) (hs : st2 ls i (.long x) = ls2) (h : Ok M S (pc + 1) ls2 st w k n P) : Ok M S pc ls (.long x :: st) w k n P := by
  subst hs
  intro p l e s m args below meth c D cI A ad0 n0 Q C hr ad H locs LS hR hl
  exact lv_lstore_n C.1.1 C.1.2.1 hd hi (lr_has hl) hn rfl (fun LS2 hl2 => h p l e s m args below meth c D cI A ad0 n0 Q C hr ad H locs LS2 hR (lr_st2 hl2))
theorem o_lstore {i : Nat} {x : Int64} {ls2 : List (Option Value)} (hd : decode (mC M) pc = .ok (.lstore i, 2)) (hn : i + 1 < mL M) (hs : st2 ls i (.long x) = ls2) (h : Ok M S (pc + 2) ls2 st w k n P) : Ok M S pc ls (.long x :: st) w k n P := by
  subst hs
  intro p l e s m args below meth c D cI A ad0 n0 Q C hr ad H locs LS hR hl
  exact lv_lstore C.1.1 C.1.2.1 hd (lr_has hl) hn rfl (fun LS2 hl2 => h p l e s m args below meth c D cI A ad0 n0 Q C hr ad H locs LS2 hR (lr_st2 hl2))
theorem o_astore_n {j : Fin 4} {i : Nat} {x : Nat} {ls2 : List (Option Value)} (hd : decode (mC M) pc = .ok (.astore_n j, 1)) (hi : (j : Nat) = i) (hn : i < mL M) (hs : st1 ls i (.ref x) = ls2) (h : Ok M S (pc + 1) ls2 st w k n P) : Ok M S pc ls (.ref x :: st) w k n P := by
  subst hs
  intro p l e s m args below meth c D cI A ad0 n0 Q C hr ad H locs LS hR hl
  exact lv_astore_n C.1.1 C.1.2.1 hd hi (lr_has hl) hn rfl (fun LS2 hl2 => h p l e s m args below meth c D cI A ad0 n0 Q C hr ad H locs LS2 hR (lr_st1 hl2))
theorem o_astore {i : Nat} {x : Nat} {ls2 : List (Option Value)} (hd : decode (mC M) pc = .ok (.astore i, 2)) (hn : i < mL M) (hs : st1 ls i (.ref x) = ls2) (h : Ok M S (pc + 2) ls2 st w k n P) : Ok M S pc ls (.ref x :: st) w k n P := by
  subst hs
  intro p l e s m args below meth c D cI A ad0 n0 Q C hr ad H locs LS hR hl
  exact lv_astore C.1.1 C.1.2.1 hd (lr_has hl) hn rfl (fun LS2 hl2 => h p l e s m args below meth c D cI A ad0 n0 Q C hr ad H locs LS2 hR (lr_st1 hl2))
theorem o_iinc {i : Nat} {a : Int} {x v : Int32} {ls2 : List (Option Value)} (hd : decode (mC M) pc = .ok (.iinc i a, 3)) (hg : ls[i]? = some (some (.int x))) (hv : x + Int32.ofInt a = v) (hn : i < mL M) (hs : st1 ls i (.int v) = ls2) (h : Ok M S (pc + 3) ls2 st w k n P) : Ok M S pc ls st w k n P := by
  subst hs
  intro p l e s m args below meth c D cI A ad0 n0 Q C hr ad H locs LS hR hl
  obtain ⟨j, hj⟩ := List.getElem?_of_mem (fl_mem (ad := ad) hg)
  exact lv_iinc C.1.1 C.1.2.1 hd (lr_has hl) (k := j) hj hv hn rfl (fun LS2 hl2 => h p l e s m args below meth c D cI A ad0 n0 Q C hr ad H locs LS2 hR (lr_st1 hl2))
theorem o_iadd {x y : Int32} (hd : decode (mC M) pc = .ok (.iadd, 1)) (h : Ok M S (pc + 1) ls (.int (x + y) :: st) w k n P) : Ok M S pc ls (.int y :: .int x :: st) w k n P := by
  intro p l e s m args below meth c D cI A ad0 n0 Q C hr ad H locs LS hR hl
  exact lv_iadd C.1.1 C.1.2.1 hd (h p l e s m args below meth c D cI A ad0 n0 Q C hr ad H locs LS hR hl)
theorem o_isub {x y : Int32} (hd : decode (mC M) pc = .ok (.isub, 1)) (h : Ok M S (pc + 1) ls (.int (x - y) :: st) w k n P) : Ok M S pc ls (.int y :: .int x :: st) w k n P := by
  intro p l e s m args below meth c D cI A ad0 n0 Q C hr ad H locs LS hR hl
  exact lv_isub C.1.1 C.1.2.1 hd (h p l e s m args below meth c D cI A ad0 n0 Q C hr ad H locs LS hR hl)
theorem o_imul {x y : Int32} (hd : decode (mC M) pc = .ok (.imul, 1)) (h : Ok M S (pc + 1) ls (.int (x * y) :: st) w k n P) : Ok M S pc ls (.int y :: .int x :: st) w k n P := by
  intro p l e s m args below meth c D cI A ad0 n0 Q C hr ad H locs LS hR hl
  exact lv_imul C.1.1 C.1.2.1 hd (h p l e s m args below meth c D cI A ad0 n0 Q C hr ad H locs LS hR hl)
theorem o_iand {x y : Int32} (hd : decode (mC M) pc = .ok (.iand, 1)) (h : Ok M S (pc + 1) ls (.int (x &&& y) :: st) w k n P) : Ok M S pc ls (.int y :: .int x :: st) w k n P := by
  intro p l e s m args below meth c D cI A ad0 n0 Q C hr ad H locs LS hR hl
  exact lv_iand C.1.1 C.1.2.1 hd (h p l e s m args below meth c D cI A ad0 n0 Q C hr ad H locs LS hR hl)
theorem o_ior {x y : Int32} (hd : decode (mC M) pc = .ok (.ior, 1)) (h : Ok M S (pc + 1) ls (.int (x ||| y) :: st) w k n P) : Ok M S pc ls (.int y :: .int x :: st) w k n P := by
  intro p l e s m args below meth c D cI A ad0 n0 Q C hr ad H locs LS hR hl
  exact lv_ior C.1.1 C.1.2.1 hd (h p l e s m args below meth c D cI A ad0 n0 Q C hr ad H locs LS hR hl)
theorem o_ixor {x y : Int32} (hd : decode (mC M) pc = .ok (.ixor, 1)) (h : Ok M S (pc + 1) ls (.int (x ^^^ y) :: st) w k n P) : Ok M S pc ls (.int y :: .int x :: st) w k n P := by
  intro p l e s m args below meth c D cI A ad0 n0 Q C hr ad H locs LS hR hl
  exact lv_ixor C.1.1 C.1.2.1 hd (h p l e s m args below meth c D cI A ad0 n0 Q C hr ad H locs LS hR hl)
theorem o_ishl {x y : Int32} (hd : decode (mC M) pc = .ok (.ishl, 1)) (h : Ok M S (pc + 1) ls (.int (x <<< (y &&& 31)) :: st) w k n P) : Ok M S pc ls (.int y :: .int x :: st) w k n P := by
  intro p l e s m args below meth c D cI A ad0 n0 Q C hr ad H locs LS hR hl
  exact lv_ishl C.1.1 C.1.2.1 hd (h p l e s m args below meth c D cI A ad0 n0 Q C hr ad H locs LS hR hl)
theorem o_ishr {x y : Int32} (hd : decode (mC M) pc = .ok (.ishr, 1)) (h : Ok M S (pc + 1) ls (.int (x >>> (y &&& 31)) :: st) w k n P) : Ok M S pc ls (.int y :: .int x :: st) w k n P := by
  intro p l e s m args below meth c D cI A ad0 n0 Q C hr ad H locs LS hR hl
  exact lv_ishr C.1.1 C.1.2.1 hd (h p l e s m args below meth c D cI A ad0 n0 Q C hr ad H locs LS hR hl)
theorem o_iushr {x y : Int32} (hd : decode (mC M) pc = .ok (.iushr, 1)) (h : Ok M S (pc + 1) ls (.int (x.toUInt32 >>> (y.toUInt32 &&& Int32.toUInt32 31)).toInt32 :: st) w k n P) : Ok M S pc ls (.int y :: .int x :: st) w k n P := by
  intro p l e s m args below meth c D cI A ad0 n0 Q C hr ad H locs LS hR hl
  exact lv_iushr C.1.1 C.1.2.1 hd rfl (h p l e s m args below meth c D cI A ad0 n0 Q C hr ad H locs LS hR hl)
theorem o_idiv {x y : Int32} (hd : decode (mC M) pc = .ok (.idiv, 1)) (hne : ¬ y = 0) (h : Ok M S (pc + 1) ls (.int (x / y) :: st) w k n P) : Ok M S pc ls (.int y :: .int x :: st) w k n P := by
  intro p l e s m args below meth c D cI A ad0 n0 Q C hr ad H locs LS hR hl
  exact lv_idiv C.1.1 C.1.2.1 hd hne (h p l e s m args below meth c D cI A ad0 n0 Q C hr ad H locs LS hR hl)
theorem o_irem {x y : Int32} (hd : decode (mC M) pc = .ok (.irem, 1)) (hne : ¬ y = 0) (h : Ok M S (pc + 1) ls (.int (x - x / y * y) :: st) w k n P) : Ok M S pc ls (.int y :: .int x :: st) w k n P := by
  intro p l e s m args below meth c D cI A ad0 n0 Q C hr ad H locs LS hR hl
  exact lv_irem C.1.1 C.1.2.1 hd hne (h p l e s m args below meth c D cI A ad0 n0 Q C hr ad H locs LS hR hl)
theorem o_ineg {x : Int32} (hd : decode (mC M) pc = .ok (.ineg, 1)) (h : Ok M S (pc + 1) ls (.int (-x) :: st) w k n P) : Ok M S pc ls (.int x :: st) w k n P := by
  intro p l e s m args below meth c D cI A ad0 n0 Q C hr ad H locs LS hR hl
  exact lv_ineg C.1.1 C.1.2.1 hd (h p l e s m args below meth c D cI A ad0 n0 Q C hr ad H locs LS hR hl)
theorem o_i2l {x : Int32} (hd : decode (mC M) pc = .ok (.i2l, 1)) (h : Ok M S (pc + 1) ls (.long x.toInt64 :: st) w k n P) : Ok M S pc ls (.int x :: st) w k n P := by
  intro p l e s m args below meth c D cI A ad0 n0 Q C hr ad H locs LS hR hl
  exact lv_i2l C.1.1 C.1.2.1 hd rfl (h p l e s m args below meth c D cI A ad0 n0 Q C hr ad H locs LS hR hl)
theorem o_ladd {x y : Int64} (hd : decode (mC M) pc = .ok (.ladd, 1)) (h : Ok M S (pc + 1) ls (.long (x + y) :: st) w k n P) : Ok M S pc ls (.long y :: .long x :: st) w k n P := by
  intro p l e s m args below meth c D cI A ad0 n0 Q C hr ad H locs LS hR hl
  exact lv_ladd C.1.1 C.1.2.1 hd (h p l e s m args below meth c D cI A ad0 n0 Q C hr ad H locs LS hR hl)
theorem o_lsub {x y : Int64} (hd : decode (mC M) pc = .ok (.lsub, 1)) (h : Ok M S (pc + 1) ls (.long (x - y) :: st) w k n P) : Ok M S pc ls (.long y :: .long x :: st) w k n P := by
  intro p l e s m args below meth c D cI A ad0 n0 Q C hr ad H locs LS hR hl
  exact lv_lsub C.1.1 C.1.2.1 hd (h p l e s m args below meth c D cI A ad0 n0 Q C hr ad H locs LS hR hl)
theorem o_lmul {x y : Int64} (hd : decode (mC M) pc = .ok (.lmul, 1)) (h : Ok M S (pc + 1) ls (.long (x * y) :: st) w k n P) : Ok M S pc ls (.long y :: .long x :: st) w k n P := by
  intro p l e s m args below meth c D cI A ad0 n0 Q C hr ad H locs LS hR hl
  exact lv_lmul C.1.1 C.1.2.1 hd (h p l e s m args below meth c D cI A ad0 n0 Q C hr ad H locs LS hR hl)
theorem o_ldiv {x y : Int64} (hd : decode (mC M) pc = .ok (.ldiv, 1)) (hne : ¬ y = 0) (h : Ok M S (pc + 1) ls (.long (x / y) :: st) w k n P) : Ok M S pc ls (.long y :: .long x :: st) w k n P := by
  intro p l e s m args below meth c D cI A ad0 n0 Q C hr ad H locs LS hR hl
  exact lv_ldiv C.1.1 C.1.2.1 hd hne (h p l e s m args below meth c D cI A ad0 n0 Q C hr ad H locs LS hR hl)
theorem o_lrem {x y : Int64} (hd : decode (mC M) pc = .ok (.lrem, 1)) (hne : ¬ y = 0) (h : Ok M S (pc + 1) ls (.long (x - x / y * y) :: st) w k n P) : Ok M S pc ls (.long y :: .long x :: st) w k n P := by
  intro p l e s m args below meth c D cI A ad0 n0 Q C hr ad H locs LS hR hl
  exact lv_lrem C.1.1 C.1.2.1 hd hne (h p l e s m args below meth c D cI A ad0 n0 Q C hr ad H locs LS hR hl)
theorem o_lcmp {x y : Int64} (hd : decode (mC M) pc = .ok (.lcmp, 1)) (h : Ok M S (pc + 1) ls (.int (lg_cmp x y) :: st) w k n P) : Ok M S pc ls (.long y :: .long x :: st) w k n P := by
  intro p l e s m args below meth c D cI A ad0 n0 Q C hr ad H locs LS hR hl
  exact W.lcmp C.1.1 C.1.2.1 hd (h p l e s m args below meth c D cI A ad0 n0 Q C hr ad H locs LS hR hl)
theorem o_dup {v : Value} (hd : decode (mC M) pc = .ok (.dup, 1)) (hc : v.category = 1) (h : Ok M S (pc + 1) ls (v :: v :: st) w k n P) : Ok M S pc ls (v :: st) w k n P := by
  intro p l e s m args below meth c D cI A ad0 n0 Q C hr ad H locs LS hR hl
  exact lv_dup C.1.1 C.1.2.1 hd ((tv_cat ad v).trans hc) (h p l e s m args below meth c D cI A ad0 n0 Q C hr ad H locs LS hR hl)
theorem o_pop {v : Value} (hd : decode (mC M) pc = .ok (.pop, 1)) (hc : v.category = 1) (h : Ok M S (pc + 1) ls st w k n P) : Ok M S pc ls (v :: st) w k n P := by
  intro p l e s m args below meth c D cI A ad0 n0 Q C hr ad H locs LS hR hl
  exact lv_pop C.1.1 C.1.2.1 hd ((tv_cat ad v).trans hc) (h p l e s m args below meth c D cI A ad0 n0 Q C hr ad H locs LS hR hl)
theorem o_dup2 {v u : Value} (hd : decode (mC M) pc = .ok (.dup2, 1)) (hc : v.category = 1) (hc2 : u.category = 1) (h : Ok M S (pc + 1) ls (v :: u :: v :: u :: st) w k n P) : Ok M S pc ls (v :: u :: st) w k n P := by
  intro p l e s m args below meth c D cI A ad0 n0 Q C hr ad H locs LS hR hl
  exact lv_dup2_11 C.1.1 C.1.2.1 hd ((tv_cat ad v).trans hc) ((tv_cat ad u).trans hc2) (h p l e s m args below meth c D cI A ad0 n0 Q C hr ad H locs LS hR hl)
theorem o_if_eq {x : Int32} {off : Int} {tgt : Nat} (hd : decode (mC M) pc = .ok (.ifCond .eq off, 3)) (ht : (pc : Int) + off = (tgt : Int)) (h1 : x = 0 → Ok M S tgt ls st w k n P) (h2 : ¬ x = 0 → Ok M S (pc + 3) ls st w k n P) : Ok M S pc ls (.int x :: st) w k n P := by
  intro p l e s m args below meth c D cI A ad0 n0 Q C hr ad H locs LS hR hl
  exact lv_if_eq C.1.1 C.1.2.1 hd ht (fun q => h1 q p l e s m args below meth c D cI A ad0 n0 Q C hr ad H locs LS hR hl) (fun q => h2 q p l e s m args below meth c D cI A ad0 n0 Q C hr ad H locs LS hR hl)
theorem o_if_ne {x : Int32} {off : Int} {tgt : Nat} (hd : decode (mC M) pc = .ok (.ifCond .ne off, 3)) (ht : (pc : Int) + off = (tgt : Int)) (h1 : ¬ x = 0 → Ok M S tgt ls st w k n P) (h2 : x = 0 → Ok M S (pc + 3) ls st w k n P) : Ok M S pc ls (.int x :: st) w k n P := by
  intro p l e s m args below meth c D cI A ad0 n0 Q C hr ad H locs LS hR hl
  exact lv_if_ne C.1.1 C.1.2.1 hd ht (fun q => h1 q p l e s m args below meth c D cI A ad0 n0 Q C hr ad H locs LS hR hl) (fun q => h2 q p l e s m args below meth c D cI A ad0 n0 Q C hr ad H locs LS hR hl)
theorem o_if_lt {x : Int32} {off : Int} {tgt : Nat} (hd : decode (mC M) pc = .ok (.ifCond .lt off, 3)) (ht : (pc : Int) + off = (tgt : Int)) (h1 : x < 0 → Ok M S tgt ls st w k n P) (h2 : ¬ x < 0 → Ok M S (pc + 3) ls st w k n P) : Ok M S pc ls (.int x :: st) w k n P := by
  intro p l e s m args below meth c D cI A ad0 n0 Q C hr ad H locs LS hR hl
  exact lv_if_lt C.1.1 C.1.2.1 hd ht (fun q => h1 q p l e s m args below meth c D cI A ad0 n0 Q C hr ad H locs LS hR hl) (fun q => h2 q p l e s m args below meth c D cI A ad0 n0 Q C hr ad H locs LS hR hl)
theorem o_if_ge {x : Int32} {off : Int} {tgt : Nat} (hd : decode (mC M) pc = .ok (.ifCond .ge off, 3)) (ht : (pc : Int) + off = (tgt : Int)) (h1 : 0 ≤ x → Ok M S tgt ls st w k n P) (h2 : ¬ 0 ≤ x → Ok M S (pc + 3) ls st w k n P) : Ok M S pc ls (.int x :: st) w k n P := by
  intro p l e s m args below meth c D cI A ad0 n0 Q C hr ad H locs LS hR hl
  exact lv_if_ge C.1.1 C.1.2.1 hd ht (fun q => h1 q p l e s m args below meth c D cI A ad0 n0 Q C hr ad H locs LS hR hl) (fun q => h2 q p l e s m args below meth c D cI A ad0 n0 Q C hr ad H locs LS hR hl)
theorem o_if_gt {x : Int32} {off : Int} {tgt : Nat} (hd : decode (mC M) pc = .ok (.ifCond .gt off, 3)) (ht : (pc : Int) + off = (tgt : Int)) (h1 : 0 < x → Ok M S tgt ls st w k n P) (h2 : ¬ 0 < x → Ok M S (pc + 3) ls st w k n P) : Ok M S pc ls (.int x :: st) w k n P := by
  intro p l e s m args below meth c D cI A ad0 n0 Q C hr ad H locs LS hR hl
  exact lv_if_gt C.1.1 C.1.2.1 hd ht (fun q => h1 q p l e s m args below meth c D cI A ad0 n0 Q C hr ad H locs LS hR hl) (fun q => h2 q p l e s m args below meth c D cI A ad0 n0 Q C hr ad H locs LS hR hl)
theorem o_if_le {x : Int32} {off : Int} {tgt : Nat} (hd : decode (mC M) pc = .ok (.ifCond .le off, 3)) (ht : (pc : Int) + off = (tgt : Int)) (h1 : x ≤ 0 → Ok M S tgt ls st w k n P) (h2 : ¬ x ≤ 0 → Ok M S (pc + 3) ls st w k n P) : Ok M S pc ls (.int x :: st) w k n P := by
  intro p l e s m args below meth c D cI A ad0 n0 Q C hr ad H locs LS hR hl
  exact lv_if_le C.1.1 C.1.2.1 hd ht (fun q => h1 q p l e s m args below meth c D cI A ad0 n0 Q C hr ad H locs LS hR hl) (fun q => h2 q p l e s m args below meth c D cI A ad0 n0 Q C hr ad H locs LS hR hl)
theorem o_icmp_eq {x y : Int32} {off : Int} {tgt : Nat} (hd : decode (mC M) pc = .ok (.if_icmp .eq off, 3)) (ht : (pc : Int) + off = (tgt : Int)) (h1 : x = y → Ok M S tgt ls st w k n P) (h2 : ¬ x = y → Ok M S (pc + 3) ls st w k n P) : Ok M S pc ls (.int y :: .int x :: st) w k n P := by
  intro p l e s m args below meth c D cI A ad0 n0 Q C hr ad H locs LS hR hl
  exact lv_icmp_eq C.1.1 C.1.2.1 hd ht (fun q => h1 q p l e s m args below meth c D cI A ad0 n0 Q C hr ad H locs LS hR hl) (fun q => h2 q p l e s m args below meth c D cI A ad0 n0 Q C hr ad H locs LS hR hl)
theorem o_icmp_ne {x y : Int32} {off : Int} {tgt : Nat} (hd : decode (mC M) pc = .ok (.if_icmp .ne off, 3)) (ht : (pc : Int) + off = (tgt : Int)) (h1 : ¬ x = y → Ok M S tgt ls st w k n P) (h2 : x = y → Ok M S (pc + 3) ls st w k n P) : Ok M S pc ls (.int y :: .int x :: st) w k n P := by
  intro p l e s m args below meth c D cI A ad0 n0 Q C hr ad H locs LS hR hl
  exact lv_icmp_ne C.1.1 C.1.2.1 hd ht (fun q => h1 q p l e s m args below meth c D cI A ad0 n0 Q C hr ad H locs LS hR hl) (fun q => h2 q p l e s m args below meth c D cI A ad0 n0 Q C hr ad H locs LS hR hl)
theorem o_icmp_lt {x y : Int32} {off : Int} {tgt : Nat} (hd : decode (mC M) pc = .ok (.if_icmp .lt off, 3)) (ht : (pc : Int) + off = (tgt : Int)) (h1 : x < y → Ok M S tgt ls st w k n P) (h2 : ¬ x < y → Ok M S (pc + 3) ls st w k n P) : Ok M S pc ls (.int y :: .int x :: st) w k n P := by
  intro p l e s m args below meth c D cI A ad0 n0 Q C hr ad H locs LS hR hl
  exact lv_icmp_lt C.1.1 C.1.2.1 hd ht (fun q => h1 q p l e s m args below meth c D cI A ad0 n0 Q C hr ad H locs LS hR hl) (fun q => h2 q p l e s m args below meth c D cI A ad0 n0 Q C hr ad H locs LS hR hl)
theorem o_icmp_ge {x y : Int32} {off : Int} {tgt : Nat} (hd : decode (mC M) pc = .ok (.if_icmp .ge off, 3)) (ht : (pc : Int) + off = (tgt : Int)) (h1 : y ≤ x → Ok M S tgt ls st w k n P) (h2 : ¬ y ≤ x → Ok M S (pc + 3) ls st w k n P) : Ok M S pc ls (.int y :: .int x :: st) w k n P := by
  intro p l e s m args below meth c D cI A ad0 n0 Q C hr ad H locs LS hR hl
  exact lv_icmp_ge C.1.1 C.1.2.1 hd ht (fun q => h1 q p l e s m args below meth c D cI A ad0 n0 Q C hr ad H locs LS hR hl) (fun q => h2 q p l e s m args below meth c D cI A ad0 n0 Q C hr ad H locs LS hR hl)
theorem o_icmp_gt {x y : Int32} {off : Int} {tgt : Nat} (hd : decode (mC M) pc = .ok (.if_icmp .gt off, 3)) (ht : (pc : Int) + off = (tgt : Int)) (h1 : y < x → Ok M S tgt ls st w k n P) (h2 : ¬ y < x → Ok M S (pc + 3) ls st w k n P) : Ok M S pc ls (.int y :: .int x :: st) w k n P := by
  intro p l e s m args below meth c D cI A ad0 n0 Q C hr ad H locs LS hR hl
  exact lv_icmp_gt C.1.1 C.1.2.1 hd ht (fun q => h1 q p l e s m args below meth c D cI A ad0 n0 Q C hr ad H locs LS hR hl) (fun q => h2 q p l e s m args below meth c D cI A ad0 n0 Q C hr ad H locs LS hR hl)
theorem o_icmp_le {x y : Int32} {off : Int} {tgt : Nat} (hd : decode (mC M) pc = .ok (.if_icmp .le off, 3)) (ht : (pc : Int) + off = (tgt : Int)) (h1 : x ≤ y → Ok M S tgt ls st w k n P) (h2 : ¬ x ≤ y → Ok M S (pc + 3) ls st w k n P) : Ok M S pc ls (.int y :: .int x :: st) w k n P := by
  intro p l e s m args below meth c D cI A ad0 n0 Q C hr ad H locs LS hR hl
  exact lv_icmp_le C.1.1 C.1.2.1 hd ht (fun q => h1 q p l e s m args below meth c D cI A ad0 n0 Q C hr ad H locs LS hR hl) (fun q => h2 q p l e s m args below meth c D cI A ad0 n0 Q C hr ad H locs LS hR hl)
theorem o_goto {off : Int} {tgt : Nat} (hd : decode (mC M) pc = .ok (.goto off, 3)) (ht : (pc : Int) + off = (tgt : Int)) (h : Ok M S tgt ls st w k n P) : Ok M S pc ls st w k n P := by
  intro p l e s m args below meth c D cI A ad0 n0 Q C hr ad H locs LS hR hl
  exact lv_goto C.1.1 C.1.2.1 hd ht (h p l e s m args below meth c D cI A ad0 n0 Q C hr ad H locs LS hR hl)
theorem o_tabOut {dflt lo hi : Int} {offs : Array Int} {len : Nat} {x : Int32} {tgt : Nat} (hd : decode (mC M) pc = .ok (.tableswitch dflt lo hi offs, len)) (hx : x.toInt < lo ∨ hi < x.toInt) (ht : (pc : Int) + dflt = (tgt : Int)) (h : Ok M S tgt ls st w k n P) : Ok M S pc ls (.int x :: st) w k n P := by
  intro p l e s m args below meth c D cI A ad0 n0 Q C hr ad H locs LS hR hl
  exact lv_tableOut C.1.1 C.1.2.1 hd hx ht (h p l e s m args below meth c D cI A ad0 n0 Q C hr ad H locs LS hR hl)
theorem o_tabIn {dflt lo hi : Int} {offs : Array Int} {len : Nat} {x : Int32} {off : Int} {tgt : Nat} (hd : decode (mC M) pc = .ok (.tableswitch dflt lo hi offs, len)) (h1 : ¬ x.toInt < lo) (h2 : ¬ hi < x.toInt) (ho : offs[(x.toInt - lo).toNat]? = some off) (ht : (pc : Int) + off = (tgt : Int)) (h : Ok M S tgt ls st w k n P) : Ok M S pc ls (.int x :: st) w k n P := by
  intro p l e s m args below meth c D cI A ad0 n0 Q C hr ad H locs LS hR hl
  exact lv_tableIn C.1.1 C.1.2.1 hd h1 h2 ho ht (h p l e s m args below meth c D cI A ad0 n0 Q C hr ad H locs LS hR hl)
theorem o_ldc {idx : Nat} {v : Int32} (hd : decode (mC M) pc = .ok (.ldc idx, 2)) (hq : Cond.constant (mY M).cls idx v ∈ GW) (h : Ok M S (pc + 2) ls (.int v :: st) w k n P) : Ok M S pc ls st w k n P := by
  intro p l e s m args below meth c D cI A ad0 n0 Q C hr ad H locs LS hR hl
  exact lv_ldc C.1.1 C.1.2.1 C.1.2.2.2.1 (C.2.1 _ hq) hd (h p l e s m args below meth c D cI A ad0 n0 Q C hr ad H locs LS hR hl)
theorem o_ldcw {idx : Nat} {v : Int32} (hd : decode (mC M) pc = .ok (.ldc_w idx, 3)) (hq : Cond.constant (mY M).cls idx v ∈ GW) (h : Ok M S (pc + 3) ls (.int v :: st) w k n P) : Ok M S pc ls st w k n P := by
  intro p l e s m args below meth c D cI A ad0 n0 Q C hr ad H locs LS hR hl
  exact lv_ldcw C.1.1 C.1.2.1 C.1.2.2.2.1 (C.2.1 _ hq) hd (h p l e s m args below meth c D cI A ad0 n0 Q C hr ad H locs LS hR hl)
theorem o_ldc2 {idx : Nat} {v : Int64} (hd : decode (mC M) pc = .ok (.ldc2_w idx, 3)) (hq : Cond.constantLong (mY M).cls idx v ∈ GW) (h : Ok M S (pc + 3) ls (.long v :: st) w k n P) : Ok M S pc ls st w k n P := by
  intro p l e s m args below meth c D cI A ad0 n0 Q C hr ad H locs LS hR hl
  exact lv_ldc2 C.1.1 C.1.2.1 C.1.2.2.2.1 (C.2.1 _ hq) hd (h p l e s m args below meth c D cI A ad0 n0 Q C hr ad H locs LS hR hl)
theorem o_iret {v : Int32} {ty : FieldType} (hd : decode (mC M) pc = .ok (.ireturn, 1)) (hT : mT M = some ty) (hn : narrow ty (.int v) = .int v) (hk : k ≤ (mR M).cells) (hk2 : n ≤ (mR M).slots) (h : P (some (.int v)) w) : Ok M S pc ls [.int v] w k n P := by
  intro p l e s m args below meth c D cI A ad0 n0 Q C hr ad H locs LS hR hl
  exact W.widen hk hk2 (hr pc LS (some (.int v)) w ad H locs hR h ⟨hd, ty, hT, hn⟩)
theorem o_lret {v : Int64} (hd : decode (mC M) pc = .ok (.lreturn, 1)) (hT : mT M = some .long) (hk : k ≤ (mR M).cells) (hk2 : n ≤ (mR M).slots) (h : P (some (.long v)) w) : Ok M S pc ls [.long v] w k n P := by
  intro p l e s m args below meth c D cI A ad0 n0 Q C hr ad H locs LS hR hl
  exact W.widen hk hk2 (hr pc LS (some (.long v)) w ad H locs hR h ⟨hT, hd⟩)
theorem o_vret (hd : decode (mC M) pc = .ok (.return_, 1)) (hT : mT M = none) (hk : k ≤ (mR M).cells) (hk2 : n ≤ (mR M).slots) (h : P none w) : Ok M S pc ls [] w k n P := by
  intro p l e s m args below meth c D cI A ad0 n0 Q C hr ad H locs LS hR hl
  exact W.widen hk hk2 (hr pc LS none w ad H locs hR h ⟨hT, hd⟩)
theorem rel_set {D : va_G} {cI : ClassId} {R : Room} {A : Nat → Prop} {H0 : Heap} {ad0 : Nat → Nat} {n0 : Nat} {ad : Nat → Nat} {H H1 : Heap} {locs locs1 : List Loc} {a : Nat} {e : PE} (h : Rel D cI R A H0 ad0 n0 ad w H locs)
    (hP : va_P D vwCl ((tw cI ad w).set a (ad a, te cI ad e)) H1) (hD : va_D A ((tw cI ad w).set a (ad a, te cI ad e))) (hS : va_S A H0 H1 locs1) : Rel D cI R A H0 ad0 n0 ad (w.set a e) H1 locs1 :=
  ⟨by rw [tw_set]; exact hP, by rw [tw_set]; exact hD, hS, fun z => ⟨(h.2.2.2.1 z).1, by rw [List.length_set]; exact (h.2.2.2.1 z).2⟩, by rw [List.length_set]; exact h.2.2.2.2.1, h.2.2.2.2.2⟩
theorem o_getf {a ci N j idx : Nat} {B : String} {T : u_T} {fs : List Value} {v : Value} (hd : decode (mC M) pc = .ok (.getfield idx, 3)) (hw : w[a]? = some (.inr (ci, fs))) (hc : vwCl[ci]? = some (B, T, N)) (hin : ∀ w ∈ u_ws B T N, w ∈ GW) (hj : j < N) (hlink : Cond.fieldLink (mY M).cls idx B (T j).2.1 (T j).2.2.1 ∈ GW) (ho : (T j).1 = B) (hv : fs[j]? = some v) (h : Ok M S (pc + 3) ls (v :: st) w k n P) : Ok M S pc ls (.ref a :: st) w k n P := by
  intro p l e s m args below meth c D cI A ad0 n0 Q C hr ad H locs LS hR hl
  exact va_get C.1.1 C.1.2.1 C.2.1 hin C.1.2.2.2.1 C.2.2.1 hR.1 a (tw_at hw) hc j hj (C.2.1 _ hlink) (fun x hx => by rw [ho] at hx; exact hx) (v := tv ad v) (by rw [List.getElem?_map, hv]; rfl) hd (h p l e s m args below meth c D cI A ad0 n0 Q C hr ad H locs LS hR hl)
theorem o_putf {a ci N j idx : Nat} {B : String} {T : u_T} {fs : List Value} {v : Value} {w2 : PW} (ty0 : Nat → FieldType) (hd : decode (mC M) pc = .ok (.putfield idx, 3)) (hw : w[a]? = some (.inr (ci, fs))) (hc : vwCl[ci]? = some (B, T, N)) (hin : ∀ w ∈ u_ws B T N, w ∈ GW) (hty : ∀ k, k < N → parseFieldDescriptor (T k).2.2.1 = some (ty0 k)) (hnm : ∀ a, a < N → ∀ b, b < N → a ≠ b → (T a).2.1 ≠ (T b).2.1) (hj : j < N) (hlink : Cond.fieldLink (mY M).cls idx B (T j).2.1 (T j).2.2.1 ∈ GW) (ho : (T j).1 = B) (hf : (T j).2.2.2 = false) (hnr : ∀ ad, narrow (ty0 j) (tv ad v) = tv ad v) (hft : ∀ ad, fits (ty0 j) (tv ad v) = true) (hlen : j < fs.length) (hw2 : w.set a (.inr (ci, fs.set j v)) = w2) (h : Ok M S (pc + 3) ls st w2 k n P) : Ok M S pc ls (v :: .ref a :: st) w k n P := by
  subst hw2
  intro p l e s m args below meth c D cI A ad0 n0 Q C hr ad H locs LS hR hl
  refine va_put C.1.1 C.1.2.1 C.2.1 hin ty0 hty hnm C.1.2.2.2.1 C.2.2.1 hR.1 hR.2.1 hR.2.2.1 a (tw_at hw) hc j hj (C.2.1 _ hlink) (fun x hx => by rw [ho] at hx; exact hx) hf (ty := ty0 j) (v := tv ad v) (hty j hj) (hnr ad) (hft ad) (by rw [List.length_map]; exact hlen) hd (fun H1 locs1 hP hD hS => ?_)
  have e1 : (fs.map (tv ad)).set j (tv ad v) = (fs.set j v).map (tv ad) := by rw [List.map_set]
  rw [e1] at hP hD
  exact h p l e s m args below meth c D cI A ad0 n0 Q C hr ad H1 locs1 LS (rel_set (e := .inr (ci, fs.set j v)) hR hP hD hS) hl
theorem o_putF {a ci N j idx : Nat} {B : String} {T : u_T} {fs : List Value} {v : Value} {w2 : PW} (ty0 : Nat → FieldType) (hd : decode (mC M) pc = .ok (.putfield idx, 3)) (hw : w[a]? = some (.inr (ci, fs))) (hc : vwCl[ci]? = some (B, T, N)) (hin : ∀ w ∈ u_ws B T N, w ∈ GW) (hty : ∀ k, k < N → parseFieldDescriptor (T k).2.2.1 = some (ty0 k)) (hnm : ∀ a, a < N → ∀ b, b < N → a ≠ b → (T a).2.1 ≠ (T b).2.1) (hj : j < N) (hlink : Cond.fieldLink (mY M).cls idx B (T j).2.1 (T j).2.2.1 ∈ GW) (ho : (T j).1 = B) (hf : (T j).2.2.2 = true) (hini : (mY M).name = "<init>") (hcls : (mY M).cls = B) (hnr : ∀ ad, narrow (ty0 j) (tv ad v) = tv ad v) (hft : ∀ ad, fits (ty0 j) (tv ad v) = true) (hlen : j < fs.length) (hw2 : w.set a (.inr (ci, fs.set j v)) = w2) (h : Ok M S (pc + 3) ls st w2 k n P) : Ok M S pc ls (v :: .ref a :: st) w k n P := by
  subst hw2
  intro p l e s m args below meth c D cI A ad0 n0 Q C hr ad H locs LS hR hl
  refine va_putF C.1.1 C.1.2.1 C.2.1 hin ty0 hty hnm C.1.2.2.2.1 C.2.2.1 hR.1 hR.2.1 hR.2.2.1 a (tw_at hw) hc j hj (C.2.1 _ hlink) (fun x hx => by rw [ho] at hx; exact hx) hf (C.1.2.2.2.2.trans hini) (ho.trans hcls.symm) (ty := ty0 j) (v := tv ad v) (hty j hj) (hnr ad) (hft ad) (by rw [List.length_map]; exact hlen) hd (fun H1 locs1 hP hD hS => ?_)
  have e1 : (fs.map (tv ad)).set j (tv ad v) = (fs.set j v).map (tv ad) := by rw [List.map_set]
  rw [e1] at hP hD
  exact h p l e s m args below meth c D cI A ad0 n0 Q C hr ad H1 locs1 LS (rel_set (e := .inr (ci, fs.set j v)) hR hP hD hS) hl
theorem o_iald {a N : Nat} {f : Nat → Int32} {i : Int32} (hd : decode (mC M) pc = .ok (.iaload, 1)) (hw : w[a]? = some (.inl (N, f))) (hin : vp_in i N) (h : Ok M S (pc + 1) ls (.int (f i.toNatClampNeg) :: st) w k n P) : Ok M S pc ls (.int i :: .ref a :: st) w k n P := by
  intro p l e s m args below meth c D cI A ad0 n0 Q C hr ad H locs LS hR hl
  exact va_iald C.1.1 C.1.2.1 C.2.2.1 hR.1 a 0 (tw_at hw) rfl hin hd (h p l e s m args below meth c D cI A ad0 n0 Q C hr ad H locs LS hR hl)
theorem o_iast {a N : Nat} {f : Nat → Int32} {i x : Int32} {w2 : PW} (hd : decode (mC M) pc = .ok (.iastore, 1)) (hw : w[a]? = some (.inl (N, f))) (hin : vp_in i N) (hw2 : w.set a (.inl (N, upd f i.toNatClampNeg x)) = w2) (h : Ok M S (pc + 1) ls st w2 k n P) : Ok M S pc ls (.int x :: .int i :: .ref a :: st) w k n P := by
  subst hw2
  intro p l e s m args below meth c D cI A ad0 n0 Q C hr ad H locs LS hR hl
  exact va_iast C.1.1 C.1.2.1 C.2.2.1 hR.1 hR.2.1 hR.2.2.1 a 0 (tw_at hw) rfl hin hd (fun H1 locs1 hP hD hS => h p l e s m args below meth c D cI A ad0 n0 Q C hr ad H1 locs1 LS (rel_set (e := .inl (N, upd f i.toNatClampNeg x)) hR hP hD hS) hl)
theorem o_alen {a N : Nat} {f : Nat → Int32} (hd : decode (mC M) pc = .ok (.arraylength, 1)) (hw : w[a]? = some (.inl (N, f))) (h : Ok M S (pc + 1) ls (.int (nI N) :: st) w k n P) : Ok M S pc ls (.ref a :: st) w k n P := by
  intro p l e s m args below meth c D cI A ad0 n0 Q C hr ad H locs LS hR hl
  exact va_alen C.1.1 C.1.2.1 C.2.2.1 hR.1 a 0 (tw_at hw) (ty := .int) rfl rfl hd (h p l e s m args below meth c D cI A ad0 n0 Q C hr ad H locs LS hR hl)
theorem o_sld {L : Nat} {xs : Nat → Int32} {i : Int32} (hd : decode (mC M) pc = .ok (.iaload, 1)) (hS : S = some (L, xs)) (hin : vp_in i L) (h : Ok M S (pc + 1) ls (.int (xs i.toNatClampNeg) :: st) w k n P) : Ok M S pc ls (.int i :: .ref 999 :: st) w k n P := by
  intro p l e s m args below meth c D cI A ad0 n0 Q C hr ad H locs LS hR hl
  obtain ⟨h1, h2, h3⟩ := C.2.2.2.2.2 _ hS
  have e9 : ad 999 = ad0 999 := hR.2.2.2.2.2.2
  have K := h p l e s m args below meth c D cI A ad0 n0 Q C hr ad H locs LS hR hl
  show W p l e (mR M) s m args below meth c H locs k n Q (F0 m pc LS (.int i :: .ref (ad 999) :: st.map (tv ad)))
  rw [e9]
  exact va_sld C.1.1 C.1.2.1 h1 h2 h3 hR.2.2.1 hin hd K
theorem o_slen {L : Nat} {xs : Nat → Int32} (hd : decode (mC M) pc = .ok (.arraylength, 1)) (hS : S = some (L, xs)) (h : Ok M S (pc + 1) ls (.int (nI L) :: st) w k n P) : Ok M S pc ls (.ref 999 :: st) w k n P := by
  intro p l e s m args below meth c D cI A ad0 n0 Q C hr ad H locs LS hR hl
  obtain ⟨h1, h2, h3⟩ := C.2.2.2.2.2 _ hS
  have e9 : ad 999 = ad0 999 := hR.2.2.2.2.2.2
  have K := h p l e s m args below meth c D cI A ad0 n0 Q C hr ad H locs LS hR hl
  show W p l e (mR M) s m args below meth c H locs k n Q (F0 m pc LS (.ref (ad 999) :: st.map (tv ad)))
  rw [e9]
  exact va_slen C.1.1 C.1.2.1 h1 h2 h3 hR.2.2.1 hd K
def catS (st : List Value) : Nat := (st.map fun v => v.category).sum
theorem catS_tv (ad : Nat → Nat) : ∀ st : List Value, ((st.map (tv ad)).map fun v => v.category).sum = catS st
  | [] => rfl
  | v :: st => by
    have ih := catS_tv ad st
    simp only [catS, List.map_cons, List.sum_cons, tv_cat] at ih ⊢
    rw [ih]
theorem o_objInit {a idx : Nat} (hd : decode (mC M) pc = .ok (.invokespecial idx, 3)) (hlink : Cond.methodLink (mY M).cls idx objectInit ∈ GW) (hinst : Cond.instanceMethod objectInit ∈ GW) (hcode : Cond.code objectInit ⟨#[0xb1]⟩ 1 none ∈ GW) (hf : 1 ≤ (mR M).frames) (hlo : catS st + 12 ≤ (mR M).locals) (h : Ok M S (pc + 3) ls st w k n P) : Ok M S pc ls (.ref a :: st) w k n P := by
  intro p l e s m args below meth c D cI A ad0 n0 Q C hr ad H locs LS hR hl
  exact W.objInit C.1.1 C.1.2.1 C.1.2.2.2.1 (C.2.1 _ hlink) (C.2.1 _ hinst) (C.2.1 _ hcode) (g := F0 m pc LS (.ref (ad a) :: st.map (tv ad))) rfl (hl.1.trans C.1.2.2.1.symm) rfl hd hf (by show 2 * 0 + _ + 12 ≤ _; rw [catS_tv]; omega) (h p l e s m args below meth c D cI A ad0 n0 Q C hr ad H locs LS hR hl)
theorem o_mmax {x y : Int32} {idx : Nat} (hd : decode (mC M) pc = .ok (.invokestatic idx, 3)) (hlink : Cond.methodLink (mY M).cls idx Lib.Math.max.name ∈ GW) (hst : Cond.static Lib.Math.max.name ∈ GW) (hini : Cond.initialized "java/lang/Math" ∈ GW) (hcode : Cond.code Lib.Math.max.name Lib.Math.max.code 2 (some .int) ∈ GW) (hf : 1 ≤ (mR M).frames) (hlo : catS st + 13 ≤ (mR M).locals) (hk : k ≤ (mR M).cells) (hk2 : n ≤ (mR M).slots) (h : Ok M S (pc + 3) ls (.int (if x < y then y else x) :: st) w k n P) : Ok M S pc ls (.int y :: .int x :: st) w k n P := by
  intro p l e s m args below meth c D cI A ad0 n0 Q C hr ad H locs LS hR hl
  exact va_mmax C.1.1 C.1.2.1 (C.1.2.2.1.trans hl.1.symm) C.1.2.2.2.1 (C.2.1 _ hlink) (C.2.1 _ hst) (C.2.1 _ hini) (C.2.1 _ hcode) hf (by rw [catS_tv]; exact hlo) hk hk2 hd (h p l e s m args below meth c D cI A ad0 n0 Q C hr ad H locs LS hR hl)
theorem o_mmin {x y : Int32} {idx : Nat} (hd : decode (mC M) pc = .ok (.invokestatic idx, 3)) (hlink : Cond.methodLink (mY M).cls idx Lib.Math.min.name ∈ GW) (hst : Cond.static Lib.Math.min.name ∈ GW) (hini : Cond.initialized "java/lang/Math" ∈ GW) (hcode : Cond.code Lib.Math.min.name Lib.Math.min.code 2 (some .int) ∈ GW) (hf : 1 ≤ (mR M).frames) (hlo : catS st + 13 ≤ (mR M).locals) (hk : k ≤ (mR M).cells) (hk2 : n ≤ (mR M).slots) (h : Ok M S (pc + 3) ls (.int (if y < x then y else x) :: st) w k n P) : Ok M S pc ls (.int y :: .int x :: st) w k n P := by
  intro p l e s m args below meth c D cI A ad0 n0 Q C hr ad H locs LS hR hl
  exact va_mmin C.1.1 C.1.2.1 (C.1.2.2.1.trans hl.1.symm) C.1.2.2.2.1 (C.2.1 _ hlink) (C.2.1 _ hst) (C.2.1 _ hini) (C.2.1 _ hcode) hf (by rw [catS_tv]; exact hlo) hk hk2 hd (h p l e s m args below meth c D cI A ad0 n0 Q C hr ad H locs LS hR hl)
theorem o_copyi {a b N0 N1 idx : Nat} {f g : Nat → Int32} {sp dp q : Int32} {w2 : PW} (hd : decode (mC M) pc = .ok (.invokestatic idx, 3)) (hlink : Cond.methodLink (mY M).cls idx arraycopyName ∈ GW) (hnat : Cond.native arraycopyName ∈ GW) (hst : Cond.static arraycopyName ∈ GW) (hini : Cond.initialized "java/lang/System" ∈ GW) (hw : w[b]? = some (.inl (N0, f))) (hw1 : w[a]? = some (.inl (N1, g))) (h1 : ¬ sp < 0) (h2 : ¬ dp < 0) (h3 : ¬ q < 0) (h4 : sp.toNatClampNeg + q.toNatClampNeg ≤ N0) (h5 : dp.toNatClampNeg + q.toNatClampNeg ≤ N1) (hf : 1 ≤ (mR M).frames) (hlo : catS st + (nativeFrameWords "java/lang/System" "arraycopy" 5 + 11) ≤ (mR M).locals) (hw2 : w.set a (.inl (N1, va_cpy f g sp.toNatClampNeg dp.toNatClampNeg q.toNatClampNeg)) = w2) (h : Ok M S (pc + 3) ls st w2 k n P) : Ok M S pc ls (.int q :: .int dp :: .ref a :: .int sp :: .ref b :: st) w k n P := by
  subst hw2
  intro p l e s m args below meth c D cI A ad0 n0 Q C hr ad H locs LS hR hl
  exact va_copyi C.1.1 C.1.2.1 (C.1.2.2.1.trans hl.1.symm) C.1.2.2.2.1 (C.2.1 _ hlink) (C.2.1 _ hnat) (C.2.1 _ hst) (C.2.1 _ hini) C.2.2.1 hR.1 hR.2.1 hR.2.2.1 b a 0 0 (ty := .int) (tw_at hw) (tw_at hw1) rfl rfl rfl h1 h2 h3 h4 h5 (fun _ _ => rfl) hf (by rw [catS_tv]; exact hlo) hd (fun H1 locs1 hP hD hS => h p l e s m args below meth c D cI A ad0 n0 Q C hr ad H1 locs1 LS (rel_set (e := .inl (N1, va_cpy f g sp.toNatClampNeg dp.toNatClampNeg q.toNatClampNeg)) hR hP hD hS) hl)
def peq : PE → PE → Prop
  | .inl x, .inl y => x.1 = y.1 ∧ ∀ j, j < x.1 → x.2 j = y.2 j
  | x, y => x = y
theorem te_peq {cI : ClassId} {ad : Nat → Nat} {x y : PE} {D : va_G} {a : Nat} {H : Heap} (h : peq x y) (hx : va_at D vwCl (a, te cI ad x) H) : va_at D vwCl (a, te cI ad y) H := by
  match x, y, h with
  | .inl (n1, f), .inl (n2, g), h =>
    obtain ⟨h1, h2⟩ := h
    simp only at h1 h2
    subst h1
    have e : arrV cI n1 (fun j => .int (f j)) = arrV cI n1 (fun j => .int (g j)) := by
      unfold arrV
      congr 1
      apply Array.ext
      · simp
      · intro i hi1 hi2
        simp only [Array.getElem_ofFn]
        have : i < n1 := by simpa using hi1
        rw [h2 i this]
    show H[a]? = some (arrV cI n1 (fun j => .int (g j)))
    rw [← e]
    exact hx
  | .inl _, .inr _, h => cases h
  | .inr _, .inl _, h => cases h
  | .inr u, .inr v, h =>
    have e : (Sum.inr u : PE) = Sum.inr v := h
    rw [← e]; exact hx
/-- another picture of the same cells -/
theorem o_same {w2 : PW} (hn : w2.length = w.length) (hq : ∀ (j : Nat) (x y : PE), w[j]? = some x → w2[j]? = some y → peq x y) (h : Ok M S pc ls st w2 k n P) : Ok M S pc ls st w k n P := by
  intro p l e s m args below meth c D cI A ad0 n0 Q C hr ad H locs LS hR hl
  refine h p l e s m args below meth c D cI A ad0 n0 Q C hr ad H locs LS ⟨fun j q hj => ?_, ⟨fun i j p q hi hj e => ?_, fun j q hj => ?_⟩, hR.2.2.1, fun z => ⟨(hR.2.2.2.1 z).1, hn.trans (hR.2.2.2.1 z).2⟩, by rw [hn]; exact hR.2.2.2.2.1, hR.2.2.2.2.2⟩ hl
  · obtain ⟨y, hy, rfl⟩ := tw_of hj
    have hlt : j < w.length := by rw [← hn]; exact (List.getElem?_eq_some_iff.mp hy).1
    have hx : w[j]? = some w[j] := List.getElem?_eq_getElem hlt
    exact te_peq (hq j _ _ hx hy) (hR.1 j _ (tw_at hx))
  · obtain ⟨x, hx, rfl⟩ := tw_of hi
    obtain ⟨y, hy, rfl⟩ := tw_of hj
    have hl1 : i < w.length := by rw [← hn]; exact (List.getElem?_eq_some_iff.mp hx).1
    have hl2 : j < w.length := by rw [← hn]; exact (List.getElem?_eq_some_iff.mp hy).1
    exact hR.2.1.1 i j _ _ (tw_at (List.getElem?_eq_getElem hl1)) (tw_at (List.getElem?_eq_getElem hl2)) e
  · obtain ⟨y, hy, rfl⟩ := tw_of hj
    have hlt : j < w.length := by rw [← hn]; exact (List.getElem?_eq_some_iff.mp hy).1
    have := hR.2.1.2 j (ad j, te cI ad w[j]) (tw_at (List.getElem?_eq_getElem hlt))
    exact this
theorem o_post {P2 : Option Value → PW → Prop} (hp : ∀ r w, P2 r w → P r w) (h : Ok M S pc ls st w k n P2) : Ok M S pc ls st w k n P := by
  intro p l e s m args below meth c D cI A ad0 n0 Q C hr ad H locs LS hR hl
  exact h p l e s m args below meth c D cI A ad0 n0 Q C (fun pc LS r w ad H locs h1 h2 h3 => hr pc LS r w ad H locs h1 (hp r w h2) h3) ad H locs LS hR hl
end ROWS
