theorem PM.ofp {M : MI} {as : List Value} {w : PW} {Post : Option Value → PW → Prop} (j : Nat) (hy : plainName (mY M).cls = true) (hn : (enl as).length ≤ mL M) (hok : Ok M none 0 (enl as ++ List.replicate j none) [] w 0 0 Post) : PM M as w Post := by
  refine PM.of hy hn ?_
  intro p l e s m args below meth c D cI A ad0 n0 Q C hr ad H locs LS hR hl
  refine hok p l e s m args below meth c D cI A ad0 n0 Q C hr ad H locs LS hR ⟨hl.1, hl.2.1, fun i v hi => hl.2.2 i v ?_⟩
  by_cases h : i < (enl as).length
  · rwa [List.getElem?_append_left h] at hi
  · rw [List.getElem?_append_right (Nat.not_lt.mp h), List.getElem?_replicate] at hi
    split at hi <;> simp at hi
theorem vp_of {p : Int32} {n : Nat} (hn : n < 2147483648) (h0 : ¬ p < 0) (h1 : ¬ nI n ≤ p) : vp_in p n := by
  rw [vp_in_iff]
  have a0 : ¬ p.toInt < (0 : Int32).toInt := fun h => h0 (Int32.lt_iff_toInt_lt.mpr h)
  have a1 : ¬ (nI n).toInt ≤ p.toInt := fun h => h1 (Int32.le_iff_toInt_le.mpr h)
  rw [nI_toInt hn] at a1
  have z : (0 : Int32).toInt = 0 := by decide
  omega
theorem vp_nlt {p : Int32} {n : Nat} (h : vp_in p n) : ¬ p < 0 := fun q => h (Or.inl q)
theorem vp_nle {p : Int32} {n : Nat} (hn : n < 2147483648) (h : vp_in p n) : ¬ nI n ≤ p := by
  rw [vp_in_iff] at h
  intro q
  have := Int32.le_iff_toInt_le.mp q
  rw [nI_toInt hn] at this
  omega
def atF (n : Nat) (f : Nat → Int32) (p : Int32) : Int32 := if p < 0 ∨ n ≤ p.toNatClampNeg then -9 else f p.toNatClampNeg
def putF (n : Nat) (f : Nat → Int32) (p v : Int32) : Nat → Int32 := if p < 0 ∨ n ≤ p.toNatClampNeg then f else upd f p.toNatClampNeg v
theorem atF_in {n : Nat} {f : Nat → Int32} {p : Int32} (h : vp_in p n) : atF n f p = f p.toNatClampNeg := if_neg h
theorem atF_out {n : Nat} {f : Nat → Int32} {p : Int32} (h : ¬ vp_in p n) : atF n f p = -9 := if_pos (Classical.not_not.mp h)
theorem putF_in {n : Nat} {f : Nat → Int32} {p v : Int32} (h : vp_in p n) : putF n f p v = upd f p.toNatClampNeg v := if_neg h
theorem putF_out {n : Nat} {f : Nat → Int32} {p v : Int32} (h : ¬ vp_in p n) : putF n f p v = f := if_pos (Classical.not_not.mp h)
theorem atF_nI {n j : Nat} {f : Nat → Int32} (h : j < n) (hn : n < 2147483648) : atF n f (nI j) = f j := by rw [atF_in (vp_in_nI h hn), nI_clamp (by omega)]
theorem putF_nI {n j : Nat} {f : Nat → Int32} {v : Int32} (h : j < n) (hn : n < 2147483648) : putF n f (nI j) v = upd f j v := by rw [putF_in (vp_in_nI h hn), nI_clamp (by omega)]
theorem o_eql {M : MI} {S : Scr} {pc : Nat} {ls ls2 : List (Option Value)} {st : List Value} {w : PW} {k n : Nat} {P : Option Value → PW → Prop} (e : ls = ls2) (h : Ok M S pc ls2 st w k n P) : Ok M S pc ls st w k n P := by rw [e]; exact h
theorem ltI {a b : Nat} (ha : a < 2147483648) (hb : b < 2147483648) (h : ¬ nI b ≤ nI a) : a < b := Nat.lt_of_not_le (fun q => h ((nI_leI hb ha).mpr q))
theorem geI {a b : Nat} (ha : a < 2147483648) (hb : b < 2147483648) (h : nI b ≤ nI a) : b ≤ a := (nI_leI hb ha).mp h
def isRoomB (x : Int32) : Bool := !decide (x < 0) && !decide (8 ≤ x)
def isHalfB (x : Int32) : Bool := decide (x = 0) || decide (x = 1)
def hasB (b p : Int32) : Bool := decide ((b >>> (p &&& 31)) &&& 1 = 1)
def toldW (x : Int32) : Int32 := if x < 1000 then x else -9
def seedF (x : Int32) : Int32 := x * 1664525 + 1013904223
def drawF (x : Int32) : Int32 := (x &&& 2147483647) / 256 - (x &&& 2147483647) / 256 / 8 * 8
def bitsS (f : Nat → Int32) (v : Int32) : Nat → Int32
  | 0 => 0
  | k + 1 => if f k = v then bitsS f v k ||| (1 <<< (nI k &&& 31)) else bitsS f v k
def powL (b : Int64) : Nat → Int64
  | 0 => 1
  | k + 1 => powL b k * b
def gcdS : Nat → Int64 → Int64 → Int64
  | 0, a, _ => a
  | k + 1, a, b => if b = 0 then a else gcdS k b (a - a / b * b)
def partS (a b : Int64) (p : Int32) : Int64 := if gcdS 200 a b < 1 then p.toInt64 else (if p = 0 then a else b) / gcdS 200 a b
def ushF (x s : Int32) : Int32 := (x.toUInt32 >>> (s.toUInt32 &&& Int32.toUInt32 31)).toInt32
def bc1 (i : Int32) : Int32 := i - (ushF i 1 &&& 1431655765)
def bc2 (i : Int32) : Int32 := (i &&& 858993459) + (ushF i 2 &&& 858993459)
def bc3 (i : Int32) : Int32 := (i + ushF i 4) &&& 252645135
def bc4 (i : Int32) : Int32 := i + ushF i 8
def bc5 (i : Int32) : Int32 := i + ushF i 16
def bcF (i : Int32) : Int32 := bc5 (bc4 (bc3 (bc2 (bc1 i)))) &&& 63
theorem tX4_at {n : Nat} {f : Nat → Int32} {p : Int32} (hn : n < 2147483648) : PD mX4_at [.ref 0, .int p] ([.inl (n, f)]) (some (.int (atF n f p))) ([.inl (n, f)]) := by
  refine PM.ofp 0 (by decide) (Nat.le_of_ble_eq_true rfl) ?_
  show Ok mX4_at none 0 [some (.ref 0), some (.int p)] [] ([.inl (n, f)]) 0 0 _
  refine o_iload_n dX4_at_0 rfl rfl ?_
  refine o_if_lt (tgt := 16) dX4_at_1 (by decide) (fun c_1 => ?_) (fun c_1 => ?_)
  · skip
    refine o_bipush dX4_at_16 bp_m9 ?_
    refine o_iret dX4_at_18 rfl (vp_nar_int _) (Nat.le_of_ble_eq_true rfl) (Nat.le_of_ble_eq_true rfl) ?_
    exact ⟨by rw [atF_out (fun h => vp_nlt h c_1)], rfl⟩
  · skip
    refine o_iload_n dX4_at_4 rfl rfl ?_
    refine o_aload_n dX4_at_5 rfl rfl ?_
    refine o_alen dX4_at_6 rfl ?_
    refine o_icmp_ge (tgt := 16) dX4_at_7 (by decide) (fun c_7 => ?_) (fun c_7 => ?_)
    · skip
      refine o_bipush dX4_at_16 bp_m9 ?_
      refine o_iret dX4_at_18 rfl (vp_nar_int _) (Nat.le_of_ble_eq_true rfl) (Nat.le_of_ble_eq_true rfl) ?_
      exact ⟨by rw [atF_out (fun h => vp_nle hn h c_7)], rfl⟩
    · skip
      refine o_aload_n dX4_at_10 rfl rfl ?_
      refine o_iload_n dX4_at_11 rfl rfl ?_
      refine o_iald dX4_at_12 rfl (vp_of hn c_1 c_7) ?_
      refine o_goto (tgt := 18) dX4_at_13 (by decide) ?_
      refine o_iret dX4_at_18 rfl (vp_nar_int _) (Nat.le_of_ble_eq_true rfl) (Nat.le_of_ble_eq_true rfl) ?_
      exact ⟨by rw [atF_in (vp_of hn c_1 c_7)], rfl⟩
theorem tX4_put {n : Nat} {f : Nat → Int32} {p v : Int32} (hn : n < 2147483648) : PD mX4_put [.ref 0, .int p, .int v] ([.inl (n, f)]) (none) ([.inl (n, putF n f p v)]) := by
  refine PM.ofp 0 (by decide) (Nat.le_of_ble_eq_true rfl) ?_
  show Ok mX4_put none 0 [some (.ref 0), some (.int p), some (.int v)] [] ([.inl (n, f)]) 0 0 _
  refine o_iload_n dX4_put_0 rfl rfl ?_
  refine o_if_lt (tgt := 14) dX4_put_1 (by decide) (fun c_1 => ?_) (fun c_1 => ?_)
  · skip
    refine o_vret dX4_put_14 rfl (Nat.le_of_ble_eq_true rfl) (Nat.le_of_ble_eq_true rfl) ?_
    exact ⟨rfl, by rw [putF_out (fun h => vp_nlt h c_1)]⟩
  · skip
    refine o_iload_n dX4_put_4 rfl rfl ?_
    refine o_aload_n dX4_put_5 rfl rfl ?_
    refine o_alen dX4_put_6 rfl ?_
    refine o_icmp_ge (tgt := 14) dX4_put_7 (by decide) (fun c_7 => ?_) (fun c_7 => ?_)
    · skip
      refine o_vret dX4_put_14 rfl (Nat.le_of_ble_eq_true rfl) (Nat.le_of_ble_eq_true rfl) ?_
      exact ⟨rfl, by rw [putF_out (fun h => vp_nle hn h c_7)]⟩
    · skip
      refine o_aload_n dX4_put_10 rfl rfl ?_
      refine o_iload_n dX4_put_11 rfl rfl ?_
      refine o_iload_n dX4_put_12 rfl rfl ?_
      refine o_iast dX4_put_13 rfl (vp_of hn c_1 c_7) rfl ?_
      refine o_vret dX4_put_14 rfl (Nat.le_of_ble_eq_true rfl) (Nat.le_of_ble_eq_true rfl) ?_
      exact ⟨rfl, by rw [putF_in (vp_of hn c_1 c_7)]; rfl⟩
theorem tX4_exchange {n : Nat} {f : Nat → Int32} {p v : Int32} (hn : n < 2147483648) : PD mX4_exchange [.ref 0, .int p, .int v] ([.inl (n, f)]) (some (.int (atF n f p))) ([.inl (n, putF n f p v)]) := by
  refine PM.ofp 1 (by decide) (Nat.le_of_ble_eq_true rfl) ?_
  show Ok mX4_exchange none 0 [some (.ref 0), some (.int p), some (.int v), none] [] ([.inl (n, f)]) 0 0 _
  refine o_aload_n dX4_exchange_0 rfl rfl ?_
  refine o_iload_n dX4_exchange_1 rfl rfl ?_
  refine o_callSr (is := [0]) (tX4_at hn) ⟨rfl, rfl⟩ dX4_exchange_2 wd237 csX4_at rfl ⟨(Nat.le_of_ble_eq_true rfl), (Nat.le_of_ble_eq_true rfl)⟩ rfl rfl rfl (Nat.le_of_ble_eq_true rfl) (Nat.le_of_ble_eq_true rfl) (Nat.le_of_ble_eq_true rfl) ?_
  refine o_istn_3 dX4_exchange_5 rfl rfl (Nat.le_of_ble_eq_true rfl) ?_
  refine o_aload_n dX4_exchange_6 rfl rfl ?_
  refine o_iload_n dX4_exchange_7 rfl rfl ?_
  refine o_iload_n dX4_exchange_8 rfl rfl ?_
  refine o_callSd (is := [0]) (tX4_put hn) ⟨rfl, rfl⟩ dX4_exchange_9 wd238 csX4_put rfl ⟨(Nat.le_of_ble_eq_true rfl), (Nat.le_of_ble_eq_true rfl)⟩ rfl rfl rfl (Nat.le_of_ble_eq_true rfl) (Nat.le_of_ble_eq_true rfl) (Nat.le_of_ble_eq_true rfl) rfl ?_
  refine o_iload_n dX4_exchange_12 rfl rfl ?_
  refine o_iret dX4_exchange_13 rfl (vp_nar_int _) (Nat.le_of_ble_eq_true rfl) (Nat.le_of_ble_eq_true rfl) ?_
  exact ⟨rfl, rfl⟩
theorem tX4_isRoom {x : Int32} : PD mX4_isRoom [.int x] ([]) (some (.int (bI (isRoomB x)))) ([]) := by
  refine PM.ofp 0 (by decide) (Nat.le_of_ble_eq_true rfl) ?_
  show Ok mX4_isRoom none 0 [some (.int x)] [] ([]) 0 0 _
  refine o_iload_n dX4_isRoom_0 rfl rfl ?_
  refine o_if_lt (tgt := 14) dX4_isRoom_1 (by decide) (fun c_1 => ?_) (fun c_1 => ?_)
  · skip
    refine o_iconst dX4_isRoom_14 ic_0 ?_
    refine o_iret dX4_isRoom_15 rfl (by first | exact nz_b _ | decide) (Nat.le_of_ble_eq_true rfl) (Nat.le_of_ble_eq_true rfl) ?_
    exact ⟨by simp [isRoomB, bI, *], rfl⟩
  · skip
    refine o_iload_n dX4_isRoom_4 rfl rfl ?_
    refine o_bipush dX4_isRoom_5 bp_8 ?_
    refine o_icmp_ge (tgt := 14) dX4_isRoom_7 (by decide) (fun c_7 => ?_) (fun c_7 => ?_)
    · skip
      refine o_iconst dX4_isRoom_14 ic_0 ?_
      refine o_iret dX4_isRoom_15 rfl (by first | exact nz_b _ | decide) (Nat.le_of_ble_eq_true rfl) (Nat.le_of_ble_eq_true rfl) ?_
      exact ⟨by simp [isRoomB, bI, *], rfl⟩
    · skip
      refine o_iconst dX4_isRoom_10 ic_1 ?_
      refine o_goto (tgt := 15) dX4_isRoom_11 (by decide) ?_
      refine o_iret dX4_isRoom_15 rfl (by first | exact nz_b _ | decide) (Nat.le_of_ble_eq_true rfl) (Nat.le_of_ble_eq_true rfl) ?_
      exact ⟨by simp [isRoomB, bI, *], rfl⟩
theorem tX4_isHalf {x : Int32} : PD mX4_isHalf [.int x] ([]) (some (.int (bI (isHalfB x)))) ([]) := by
  refine PM.ofp 0 (by decide) (Nat.le_of_ble_eq_true rfl) ?_
  show Ok mX4_isHalf none 0 [some (.int x)] [] ([]) 0 0 _
  refine o_iload_n dX4_isHalf_0 rfl rfl ?_
  refine o_if_eq (tgt := 9) dX4_isHalf_1 (by decide) (fun c_1 => ?_) (fun c_1 => ?_)
  · skip
    refine o_iconst dX4_isHalf_9 ic_1 ?_
    refine o_goto (tgt := 14) dX4_isHalf_10 (by decide) ?_
    refine o_iret dX4_isHalf_14 rfl (by first | exact nz_b _ | decide) (Nat.le_of_ble_eq_true rfl) (Nat.le_of_ble_eq_true rfl) ?_
    exact ⟨by simp [isHalfB, bI, *], rfl⟩
  · skip
    refine o_iload_n dX4_isHalf_4 rfl rfl ?_
    refine o_iconst dX4_isHalf_5 ic_1 ?_
    refine o_icmp_ne (tgt := 13) dX4_isHalf_6 (by decide) (fun c_6 => ?_) (fun c_6 => ?_)
    · skip
      refine o_iconst dX4_isHalf_13 ic_0 ?_
      refine o_iret dX4_isHalf_14 rfl (by first | exact nz_b _ | decide) (Nat.le_of_ble_eq_true rfl) (Nat.le_of_ble_eq_true rfl) ?_
      exact ⟨by simp [isHalfB, bI, *], rfl⟩
    · skip
      refine o_iconst dX4_isHalf_9 ic_1 ?_
      refine o_goto (tgt := 14) dX4_isHalf_10 (by decide) ?_
      refine o_iret dX4_isHalf_14 rfl (by first | exact nz_b _ | decide) (Nat.le_of_ble_eq_true rfl) (Nat.le_of_ble_eq_true rfl) ?_
      exact ⟨by simp [isHalfB, bI, *], rfl⟩
theorem tX4_hasBit {b p : Int32} : PD mX4_hasBit [.int b, .int p] ([]) (some (.int (bI (hasB b p)))) ([]) := by
  refine PM.ofp 0 (by decide) (Nat.le_of_ble_eq_true rfl) ?_
  show Ok mX4_hasBit none 0 [some (.int b), some (.int p)] [] ([]) 0 0 _
  refine o_iload_n dX4_hasBit_0 rfl rfl ?_
  refine o_iload_n dX4_hasBit_1 rfl rfl ?_
  refine o_ishr dX4_hasBit_2 ?_
  refine o_iconst dX4_hasBit_3 ic_1 ?_
  refine o_iand dX4_hasBit_4 ?_
  refine o_iconst dX4_hasBit_5 ic_1 ?_
  refine o_icmp_ne (tgt := 13) dX4_hasBit_6 (by decide) (fun c_6 => ?_) (fun c_6 => ?_)
  · skip
    refine o_iconst dX4_hasBit_13 ic_0 ?_
    refine o_iret dX4_hasBit_14 rfl (by first | exact nz_b _ | decide) (Nat.le_of_ble_eq_true rfl) (Nat.le_of_ble_eq_true rfl) ?_
    exact ⟨by simp [hasB, bI, *], rfl⟩
  · skip
    refine o_iconst dX4_hasBit_9 ic_1 ?_
    refine o_goto (tgt := 14) dX4_hasBit_10 (by decide) ?_
    refine o_iret dX4_hasBit_14 rfl (by first | exact nz_b _ | decide) (Nat.le_of_ble_eq_true rfl) (Nat.le_of_ble_eq_true rfl) ?_
    exact ⟨by simp [hasB, bI, *], rfl⟩
theorem tX4_toldWay {x : Int32} : PD mX4_toldWay [.int x] ([]) (some (.int (toldW x))) ([]) := by
  refine PM.ofp 0 (by decide) (Nat.le_of_ble_eq_true rfl) ?_
  show Ok mX4_toldWay none 0 [some (.int x)] [] ([]) 0 0 _
  refine o_iload_n dX4_toldWay_0 rfl rfl ?_
  refine o_sipush dX4_toldWay_1 sp_1000 ?_
  refine o_icmp_lt (tgt := 12) dX4_toldWay_4 (by decide) (fun c_4 => ?_) (fun c_4 => ?_)
  · skip
    refine o_iload_n dX4_toldWay_12 rfl rfl ?_
    refine o_iret dX4_toldWay_13 rfl (vp_nar_int _) (Nat.le_of_ble_eq_true rfl) (Nat.le_of_ble_eq_true rfl) ?_
    exact ⟨by simp [toldW, *], rfl⟩
  · skip
    refine o_bipush dX4_toldWay_7 bp_m9 ?_
    refine o_goto (tgt := 13) dX4_toldWay_9 (by decide) ?_
    refine o_iret dX4_toldWay_13 rfl (vp_nar_int _) (Nat.le_of_ble_eq_true rfl) (Nat.le_of_ble_eq_true rfl) ?_
    exact ⟨by simp [toldW, *], rfl⟩
theorem tX4_nextSeed {x : Int32} : PD mX4_nextSeed [.int x] ([]) (some (.int (seedF x))) ([]) := by
  refine PM.ofp 0 (by decide) (Nat.le_of_ble_eq_true rfl) ?_
  show Ok mX4_nextSeed none 0 [some (.int x)] [] ([]) 0 0 _
  refine o_iload_n dX4_nextSeed_0 rfl rfl ?_
  refine o_ldcw dX4_nextSeed_1 wd661 ?_
  refine o_imul dX4_nextSeed_4 ?_
  refine o_ldcw dX4_nextSeed_5 wd662 ?_
  refine o_iadd dX4_nextSeed_8 ?_
  refine o_iret dX4_nextSeed_9 rfl (vp_nar_int _) (Nat.le_of_ble_eq_true rfl) (Nat.le_of_ble_eq_true rfl) ?_
  exact ⟨rfl, rfl⟩
theorem tX4_draw {x : Int32} : PD mX4_draw [.int x] ([]) (some (.int (drawF x))) ([]) := by
  refine PM.ofp 0 (by decide) (Nat.le_of_ble_eq_true rfl) ?_
  show Ok mX4_draw none 0 [some (.int x)] [] ([]) 0 0 _
  refine o_iload_n dX4_draw_0 rfl rfl ?_
  refine o_ldcw dX4_draw_1 wd666 ?_
  refine o_iand dX4_draw_4 ?_
  refine o_sipush dX4_draw_5 sp_256 ?_
  refine o_idiv dX4_draw_8 (by decide) ?_
  refine o_bipush dX4_draw_9 bp_8 ?_
  refine o_irem dX4_draw_11 (by decide) ?_
  refine o_iret dX4_draw_12 rfl (vp_nar_int _) (Nat.le_of_ble_eq_true rfl) (Nat.le_of_ble_eq_true rfl) ?_
  exact ⟨rfl, rfl⟩
theorem tX4_copy {n : Nat} {f g : Nat → Int32} (hn : n < 2147483648) : PD mX4_copy [.ref 0, .ref 1] ([.inl (n, f), .inl (n, g)]) (none) ([.inl (n, f), .inl (n, f)]) := by
  refine PM.ofp 0 (by decide) (Nat.le_of_ble_eq_true rfl) ?_
  show Ok mX4_copy none 0 [some (.ref 0), some (.ref 1)] [] ([.inl (n, f), .inl (n, g)]) 0 0 _
  refine o_aload_n dX4_copy_0 rfl rfl ?_
  refine o_iconst dX4_copy_1 ic_0 ?_
  refine o_aload_n dX4_copy_2 rfl rfl ?_
  refine o_iconst dX4_copy_3 ic_0 ?_
  refine o_aload_n dX4_copy_4 rfl rfl ?_
  refine o_alen dX4_copy_5 rfl ?_
  refine o_aload_n dX4_copy_6 rfl rfl ?_
  refine o_alen dX4_copy_7 rfl ?_
  refine o_mmin dX4_copy_8 wd284 wd285 wd60 wd286 (Nat.le_of_ble_eq_true rfl) (Nat.le_of_ble_eq_true rfl) (Nat.le_of_ble_eq_true rfl) (Nat.le_of_ble_eq_true rfl) ?_
  refine o_copyi dX4_copy_11 wd287 wd289 wd288 wd62 rfl rfl (by decide) (by decide) (by rw [ite_self]; exact nI_pos hn) (by rw [ite_self, nI_clamp hn]; exact Nat.le_of_eq (Nat.zero_add n)) (by rw [ite_self, nI_clamp hn]; exact Nat.le_of_eq (Nat.zero_add n)) (Nat.le_of_ble_eq_true rfl) (Nat.le_of_ble_eq_true rfl) rfl ?_
  refine o_same (w2 := [.inl (n, f), .inl (n, f)]) rfl (fun j x y hx hy => ?_) ?_
  · match j, hx, hy with
    | 0, hx, hy => cases hx; cases hy; exact ⟨rfl, fun _ _ => rfl⟩
    | 1, hx, hy =>
      cases hx; cases hy
      refine ⟨rfl, fun j hj => ?_⟩
      have hj : j < n := hj
      show va_cpy f g _ _ _ j = f j
      rw [ite_self, nI_clamp hn, show (0 : Int32).toNatClampNeg = 0 from rfl, pk_cpy_in (by omega) (by omega)]
      congr 1; omega
  refine o_vret dX4_copy_14 rfl (Nat.le_of_ble_eq_true rfl) (Nat.le_of_ble_eq_true rfl) ?_
  exact ⟨rfl, rfl⟩
theorem lX4_bitsOf {n N : Nat} {f : Nat → Int32} {v : Int32} (hn : n < 2147483648) (hN : N ≤ n) : ∀ (q k : Nat), N - k < q → k ≤ N → Ok mX4_bitsOf none 5 [some (.ref 0), some (.int (nI N)), some (.int v), some (.int (bitsS f v k)), some (.int (nI k))] [] ([.inl (n, f)]) 0 0 (fun r2 w2 => r2 = some (.int (bitsS f v N)) ∧ w2 = [.inl (n, f)]) := by
  intro q
  induction q with
  | zero => intro k hq hk; omega
  | succ q ih =>
  intro k hq hk
  refine o_iload dX4_bitsOf_5 rfl ?_
  refine o_iload_n dX4_bitsOf_7 rfl rfl ?_
  refine o_icmp_ge (tgt := 34) dX4_bitsOf_8 (by decide) (fun c_8 => ?_) (fun c_8 => ?_)
  · have hkN : k = N := Nat.le_antisymm hk (geI (by omega) (by omega) c_8)
    subst hkN
    refine o_iload_n dX4_bitsOf_34 rfl rfl ?_
    refine o_iret dX4_bitsOf_35 rfl (vp_nar_int _) (Nat.le_of_ble_eq_true rfl) (Nat.le_of_ble_eq_true rfl) ?_
    exact ⟨rfl, rfl⟩
  · have hkN : k < N := ltI (by omega) (by omega) c_8
    refine o_aload_n dX4_bitsOf_11 rfl rfl ?_
    refine o_iload dX4_bitsOf_12 rfl ?_
    refine o_callSr (is := [0]) (tX4_at hn) ⟨rfl, rfl⟩ dX4_bitsOf_14 wd237 csX4_at rfl ⟨(Nat.le_of_ble_eq_true rfl), (Nat.le_of_ble_eq_true rfl)⟩ rfl rfl rfl (Nat.le_of_ble_eq_true rfl) (Nat.le_of_ble_eq_true rfl) (Nat.le_of_ble_eq_true rfl) ?_
    refine o_iload_n dX4_bitsOf_17 rfl rfl ?_
    refine o_icmp_ne (tgt := 28) dX4_bitsOf_18 (by decide) (fun c_18 => ?_) (fun c_18 => ?_)
    · skip
      refine o_inc_4 dX4_bitsOf_28 rfl ic_1 (Nat.le_of_ble_eq_true rfl) ?_
      refine o_goto (tgt := 5) dX4_bitsOf_31 (by decide) ?_
      exact o_eql (by rw [nI_1, bitsS, if_neg (by rw [← atF_nI (f := f) (Nat.lt_of_lt_of_le hkN hN) hn]; exact c_18)]) (ih (k + 1) (by omega) (by omega))
    · skip
      refine o_iload_n dX4_bitsOf_21 rfl rfl ?_
      refine o_iconst dX4_bitsOf_22 ic_1 ?_
      refine o_iload dX4_bitsOf_23 rfl ?_
      refine o_ishl dX4_bitsOf_25 ?_
      refine o_ior dX4_bitsOf_26 ?_
      refine o_istn_3 dX4_bitsOf_27 rfl rfl (Nat.le_of_ble_eq_true rfl) ?_
      refine o_inc_4 dX4_bitsOf_28 rfl ic_1 (Nat.le_of_ble_eq_true rfl) ?_
      refine o_goto (tgt := 5) dX4_bitsOf_31 (by decide) ?_
      exact o_eql (by rw [nI_1, bitsS, if_pos (by rw [← atF_nI (f := f) (Nat.lt_of_lt_of_le hkN hN) hn]; exact c_18)]) (ih (k + 1) (by omega) (by omega))
theorem tX4_bitsOf {n N : Nat} {f : Nat → Int32} {v : Int32} (hn : n < 2147483648) (hN : N ≤ n) : PD mX4_bitsOf [.ref 0, .int (nI N), .int v] ([.inl (n, f)]) (some (.int (bitsS f v N))) ([.inl (n, f)]) := by
  refine PM.ofp 2 (by decide) (Nat.le_of_ble_eq_true rfl) ?_
  show Ok mX4_bitsOf none 0 [some (.ref 0), some (.int (nI N)), some (.int v), none, none] [] ([.inl (n, f)]) 0 0 _
  refine o_iconst dX4_bitsOf_0 ic_0 ?_
  refine o_istn_3 dX4_bitsOf_1 rfl rfl (Nat.le_of_ble_eq_true rfl) ?_
  refine o_iconst dX4_bitsOf_2 ic_0 ?_
  refine o_istg_4 dX4_bitsOf_3 rfl (Nat.le_of_ble_eq_true rfl) ?_
  exact o_eql (by rw [nI_0]; rfl) (lX4_bitsOf hn hN (N + 1) 0 (by omega) (by omega))
theorem lX4_power {b : Int32} {E : Nat} (hE : E < 2147483648) : ∀ (q k : Nat), E - k < q → k ≤ E → Ok mX4_power none 5 [some (.int b), some (.int (nI E)), some (.long (powL b.toInt64 k)), none, some (.int (nI k))] [] ([]) 0 0 (fun r2 w2 => r2 = some (.long (powL b.toInt64 E)) ∧ w2 = []) := by
  intro q
  induction q with
  | zero => intro k hq hk; omega
  | succ q ih =>
  intro k hq hk
  refine o_iload dX4_power_5 rfl ?_
  refine o_iload_n dX4_power_7 rfl rfl ?_
  refine o_icmp_ge (tgt := 22) dX4_power_8 (by decide) (fun c_8 => ?_) (fun c_8 => ?_)
  · have hkN : k = E := Nat.le_antisymm hk (geI (by omega) (by omega) c_8)
    subst hkN
    refine o_lload_n dX4_power_22 rfl rfl ?_
    refine o_lret dX4_power_23 rfl (Nat.le_of_ble_eq_true rfl) (Nat.le_of_ble_eq_true rfl) ?_
    exact ⟨rfl, rfl⟩
  · have hkN : k < E := ltI (by omega) (by omega) c_8
    refine o_lload_n dX4_power_11 rfl rfl ?_
    refine o_iload_n dX4_power_12 rfl rfl ?_
    refine o_i2l dX4_power_13 ?_
    refine o_lmul dX4_power_14 ?_
    refine o_lstn_2 dX4_power_15 rfl rfl (Nat.le_of_ble_eq_true rfl) ?_
    refine o_inc_4 dX4_power_16 rfl ic_1 (Nat.le_of_ble_eq_true rfl) ?_
    refine o_goto (tgt := 5) dX4_power_19 (by decide) ?_
    exact o_eql (by rw [nI_1, powL]) (ih (k + 1) (by omega) (by omega))
theorem tX4_power {b : Int32} {E : Nat} (hE : E < 2147483648) : PD mX4_power [.int b, .int (nI E)] ([]) (some (.long (powL b.toInt64 E))) ([]) := by
  refine PM.ofp 3 (by decide) (Nat.le_of_ble_eq_true rfl) ?_
  show Ok mX4_power none 0 [some (.int b), some (.int (nI E)), none, none, none] [] ([]) 0 0 _
  refine o_lconst dX4_power_0 lc_1 ?_
  refine o_lstn_2 dX4_power_1 rfl rfl (Nat.le_of_ble_eq_true rfl) ?_
  refine o_iconst dX4_power_2 ic_0 ?_
  refine o_istg_4 dX4_power_3 rfl (Nat.le_of_ble_eq_true rfl) ?_
  exact o_eql (by rw [nI_0]; rfl) (lX4_power hE (E + 1) 0 (by omega) (by omega))
theorem lX4_commonDivisor {a0 b0 G : Int64} : ∀ (q k : Nat) (a b : Int64) (xx yy : Option Value), k + q = 200 → gcdS q a b = G → Ok mX4_commonDivisor none 9 [some (.long a0), none, some (.long b0), none, some (.long a), none, some (.long b), none, some (.int (nI k)), xx, yy] [] ([]) 0 0 (fun r2 w2 => r2 = some (.long G) ∧ w2 = []) := by
  intro q
  induction q with
  | zero =>
    intro k a b xx yy hq hG
    have hk : k = 200 := by omega
    subst hk
    refine o_iload dX4_commonDivisor_9 rfl ?_
    refine o_sipush dX4_commonDivisor_11 sp_200 ?_
    refine o_icmp_ge (tgt := 45) dX4_commonDivisor_14 (by decide) (fun _ => ?_) (fun c => absurd (by decide) c)
    refine o_lload dX4_commonDivisor_45 rfl ?_
    refine o_lret dX4_commonDivisor_47 rfl (Nat.le_of_ble_eq_true rfl) (Nat.le_of_ble_eq_true rfl) ?_
    exact ⟨by rw [← hG]; rfl, rfl⟩
  | succ q ih =>
  intro k a b xx yy hq hG
  refine o_iload dX4_commonDivisor_9 rfl ?_
  refine o_sipush dX4_commonDivisor_11 sp_200 ?_
  refine o_icmp_ge (tgt := 45) dX4_commonDivisor_14 (by decide) (fun c_14 => ?_) (fun c_14 => ?_)
  · exact absurd c_14 (fun h => by have := geI (a := k) (b := 200) (by omega) (by omega) h; omega)
  · skip
    refine o_lload dX4_commonDivisor_17 rfl ?_
    refine o_lconst dX4_commonDivisor_19 lc_0 ?_
    refine o_lcmp dX4_commonDivisor_20 ?_
    refine o_if_eq (tgt := 45) dX4_commonDivisor_21 (by decide) (fun c_21 => ?_) (fun c_21 => ?_)
    · skip
      refine o_lload dX4_commonDivisor_45 rfl ?_
      refine o_lret dX4_commonDivisor_47 rfl (Nat.le_of_ble_eq_true rfl) (Nat.le_of_ble_eq_true rfl) ?_
      exact ⟨by rw [← hG, gcdS, if_pos ((lg_cmp_eq _ _).mp c_21)], rfl⟩
    · skip
      refine o_lload dX4_commonDivisor_24 rfl ?_
      refine o_lload dX4_commonDivisor_26 rfl ?_
      refine o_lrem dX4_commonDivisor_28 (fun e => c_21 ((lg_cmp_eq _ _).mpr e)) ?_
      refine o_lstg_9 dX4_commonDivisor_29 rfl (Nat.le_of_ble_eq_true rfl) ?_
      refine o_lload dX4_commonDivisor_31 rfl ?_
      refine o_lstg_4 dX4_commonDivisor_33 rfl (Nat.le_of_ble_eq_true rfl) ?_
      refine o_lload dX4_commonDivisor_35 rfl ?_
      refine o_lstg_6 dX4_commonDivisor_37 rfl (Nat.le_of_ble_eq_true rfl) ?_
      refine o_inc_8 dX4_commonDivisor_39 rfl ic_1 (Nat.le_of_ble_eq_true rfl) ?_
      refine o_goto (tgt := 9) dX4_commonDivisor_42 (by decide) ?_
      exact o_eql (by rw [nI_1]) (ih (k + 1) b (a - a / b * b) _ _ (by omega) (by rw [← hG, gcdS, if_neg (fun e => c_21 ((lg_cmp_eq _ _).mpr e))]))
theorem tX4_commonDivisor {a b : Int64} : PD mX4_commonDivisor [.long a, .long b] ([]) (some (.long (gcdS 200 a b))) ([]) := by
  refine PM.ofp 7 (by decide) (Nat.le_of_ble_eq_true rfl) ?_
  show Ok mX4_commonDivisor none 0 [some (.long a), none, some (.long b), none, none, none, none, none, none, none, none] [] ([]) 0 0 _
  refine o_lload_n dX4_commonDivisor_0 rfl rfl ?_
  refine o_lstg_4 dX4_commonDivisor_1 rfl (Nat.le_of_ble_eq_true rfl) ?_
  refine o_lload_n dX4_commonDivisor_3 rfl rfl ?_
  refine o_lstg_6 dX4_commonDivisor_4 rfl (Nat.le_of_ble_eq_true rfl) ?_
  refine o_iconst dX4_commonDivisor_6 ic_0 ?_
  refine o_istg_8 dX4_commonDivisor_7 rfl (Nat.le_of_ble_eq_true rfl) ?_
  exact o_eql (by rw [nI_0]) (lX4_commonDivisor 200 0 a b _ _ rfl rfl)
theorem tX4_partOf {a b : Int64} {p : Int32} : PD mX4_partOf [.long a, .long b, .int p] ([]) (some (.long (partS a b p))) ([]) := by
  refine PM.ofp 2 (by decide) (Nat.le_of_ble_eq_true rfl) ?_
  show Ok mX4_partOf none 0 [some (.long a), none, some (.long b), none, some (.int p), none, none] [] ([]) 0 0 _
  refine o_lload_n dX4_partOf_0 rfl rfl ?_
  refine o_lload_n dX4_partOf_1 rfl rfl ?_
  refine o_callSr (is := []) (tX4_commonDivisor) ⟨rfl, rfl⟩ dX4_partOf_2 wd611 csX4_commonDivisor rfl ⟨(Nat.le_of_ble_eq_true rfl), (Nat.le_of_ble_eq_true rfl)⟩ rfl rfl rfl (Nat.le_of_ble_eq_true rfl) (Nat.le_of_ble_eq_true rfl) (Nat.le_of_ble_eq_true rfl) ?_
  refine o_lstg_5 dX4_partOf_5 rfl (Nat.le_of_ble_eq_true rfl) ?_
  refine o_lload dX4_partOf_7 rfl ?_
  refine o_lconst dX4_partOf_9 lc_1 ?_
  refine o_lcmp dX4_partOf_10 ?_
  refine o_if_ge (tgt := 18) dX4_partOf_11 (by decide) (fun c_11 => ?_) (fun c_11 => ?_)
  · have hg : ¬ gcdS 200 a b < 1 := Int64.not_lt.mpr ((lg_cmp_ge _ _).mp c_11)
    refine o_iload dX4_partOf_18 rfl ?_
    refine o_if_ne (tgt := 27) dX4_partOf_20 (by decide) (fun c_20 => ?_) (fun c_20 => ?_)
    · skip
      refine o_lload_n dX4_partOf_27 rfl rfl ?_
      refine o_lload dX4_partOf_28 rfl ?_
      refine o_ldiv dX4_partOf_30 (fun e => hg (by rw [e]; decide)) ?_
      refine o_lret dX4_partOf_31 rfl (Nat.le_of_ble_eq_true rfl) (Nat.le_of_ble_eq_true rfl) ?_
      exact ⟨by simp [partS, *], rfl⟩
    · skip
      refine o_lload_n dX4_partOf_23 rfl rfl ?_
      refine o_goto (tgt := 28) dX4_partOf_24 (by decide) ?_
      refine o_lload dX4_partOf_28 rfl ?_
      refine o_ldiv dX4_partOf_30 (fun e => hg (by rw [e]; decide)) ?_
      refine o_lret dX4_partOf_31 rfl (Nat.le_of_ble_eq_true rfl) (Nat.le_of_ble_eq_true rfl) ?_
      exact ⟨by simp [partS, *], rfl⟩
  · have hg : gcdS 200 a b < 1 := Int64.not_le.mp (fun h => c_11 ((lg_cmp_ge _ _).mpr h))
    refine o_iload dX4_partOf_14 rfl ?_
    refine o_i2l dX4_partOf_16 ?_
    refine o_lret dX4_partOf_17 rfl (Nat.le_of_ble_eq_true rfl) (Nat.le_of_ble_eq_true rfl) ?_
    exact ⟨by simp [partS, *], rfl⟩
theorem tJ6_bitCount_0f7a4 {x : Int32} : PD mJ6_bitCount_0f7a4 [.int x] ([]) (some (.int (bcF x))) ([]) := by
  refine PM.ofp 0 (by decide) (Nat.le_of_ble_eq_true rfl) ?_
  show Ok mJ6_bitCount_0f7a4 none 0 [some (.int x)] [] ([]) 0 0 _
  refine o_iload_n dJ6_bitCount_0f7a4_0 rfl rfl ?_
  refine o_iload_n dJ6_bitCount_0f7a4_1 rfl rfl ?_
  refine o_iconst dJ6_bitCount_0f7a4_2 ic_1 ?_
  refine o_iushr dJ6_bitCount_0f7a4_3 ?_
  refine o_ldcw dJ6_bitCount_0f7a4_4 wd436 ?_
  refine o_iand dJ6_bitCount_0f7a4_7 ?_
  refine o_isub dJ6_bitCount_0f7a4_8 ?_
  refine o_istn_0 dJ6_bitCount_0f7a4_9 rfl rfl (Nat.le_of_ble_eq_true rfl) ?_
  refine o_iload_n dJ6_bitCount_0f7a4_10 rfl rfl ?_
  refine o_ldcw dJ6_bitCount_0f7a4_11 wd437 ?_
  refine o_iand dJ6_bitCount_0f7a4_14 ?_
  refine o_iload_n dJ6_bitCount_0f7a4_15 rfl rfl ?_
  refine o_iconst dJ6_bitCount_0f7a4_16 ic_2 ?_
  refine o_iushr dJ6_bitCount_0f7a4_17 ?_
  refine o_ldcw dJ6_bitCount_0f7a4_18 wd437 ?_
  refine o_iand dJ6_bitCount_0f7a4_21 ?_
  refine o_iadd dJ6_bitCount_0f7a4_22 ?_
  refine o_istn_0 dJ6_bitCount_0f7a4_23 rfl rfl (Nat.le_of_ble_eq_true rfl) ?_
  refine o_iload_n dJ6_bitCount_0f7a4_24 rfl rfl ?_
  refine o_iload_n dJ6_bitCount_0f7a4_25 rfl rfl ?_
  refine o_iconst dJ6_bitCount_0f7a4_26 ic_4 ?_
  refine o_iushr dJ6_bitCount_0f7a4_27 ?_
  refine o_iadd dJ6_bitCount_0f7a4_28 ?_
  refine o_ldcw dJ6_bitCount_0f7a4_29 wd438 ?_
  refine o_iand dJ6_bitCount_0f7a4_32 ?_
  refine o_istn_0 dJ6_bitCount_0f7a4_33 rfl rfl (Nat.le_of_ble_eq_true rfl) ?_
  refine o_iload_n dJ6_bitCount_0f7a4_34 rfl rfl ?_
  refine o_iload_n dJ6_bitCount_0f7a4_35 rfl rfl ?_
  refine o_bipush dJ6_bitCount_0f7a4_36 bp_8 ?_
  refine o_iushr dJ6_bitCount_0f7a4_38 ?_
  refine o_iadd dJ6_bitCount_0f7a4_39 ?_
  refine o_istn_0 dJ6_bitCount_0f7a4_40 rfl rfl (Nat.le_of_ble_eq_true rfl) ?_
  refine o_iload_n dJ6_bitCount_0f7a4_41 rfl rfl ?_
  refine o_iload_n dJ6_bitCount_0f7a4_42 rfl rfl ?_
  refine o_bipush dJ6_bitCount_0f7a4_43 bp_16 ?_
  refine o_iushr dJ6_bitCount_0f7a4_45 ?_
  refine o_iadd dJ6_bitCount_0f7a4_46 ?_
  refine o_istn_0 dJ6_bitCount_0f7a4_47 rfl rfl (Nat.le_of_ble_eq_true rfl) ?_
  refine o_iload_n dJ6_bitCount_0f7a4_48 rfl rfl ?_
  refine o_bipush dJ6_bitCount_0f7a4_49 bp_63 ?_
  refine o_iand dJ6_bitCount_0f7a4_51 ?_
  refine o_iret dJ6_bitCount_0f7a4_52 rfl (vp_nar_int _) (Nat.le_of_ble_eq_true rfl) (Nat.le_of_ble_eq_true rfl) ?_
  exact ⟨rfl, rfl⟩
