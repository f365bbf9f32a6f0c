def gup (g : Nat → Nat) (i v : Nat) : Nat → Nat := fun j => if j = i then v else g j
def nF (g : Nat → Nat) : Nat → Int32 := fun i => nI (g i)
theorem nF_up (g : Nat → Nat) (i v : Nat) : upd (nF g) i (nI v) = nF (gup g i v) := by
  funext j
  unfold upd nF gup
  split <;> rfl
theorem at_f {n j : Nat} {f : Nat → Int32} {p : Int32} (hn : n < 2147483648) (hp : p = nI j) (hj : j < n) : PD mX4_at [.ref 0, .int p] [.inl (n, f)] (some (.int (f j))) [.inl (n, f)] := (tX4_at hn).mono (by rw [hp, atF_nI hj hn])
theorem put_f {n j : Nat} {f : Nat → Int32} {p v : Int32} (hn : n < 2147483648) (hp : p = nI j) (hj : j < n) : PD mX4_put [.ref 0, .int p, .int v] [.inl (n, f)] none [.inl (n, upd f j v)] := by
  have := tX4_put (f := f) (p := p) (v := v) hn
  rwa [hp, putF_nI hj hn, ← hp] at this
theorem put_n {n j x : Nat} {g : Nat → Nat} {p v : Int32} (hn : n < 2147483648) (hp : p = nI j) (hj : j < n) (hv : v = nI x) : PD mX4_put [.ref 0, .int p, .int v] [.inl (n, nF g)] none [.inl (n, nF (gup g j x))] := by
  have := put_f (f := nF g) (v := v) hn hp hj
  rwa [hv, nF_up, ← hv] at this
theorem ix8 (a k : Nat) : nI a * 8 + nI k = nI (a * 8 + k) := by rw [show (8 : Int32) = nI 8 from rfl, pk_mul, nI_add]
theorem nI_1a (a : Nat) : 1 + nI a = nI (1 + a) := by rw [show (1 : Int32) = nI 1 from rfl, nI_add]
theorem o_eqa {M : MI} {S : Scr} {pc : Nat} {ls ls2 : List (Option Value)} {st : List Value} {w w2 : PW} {k n : Nat} {P : Option Value → PW → Prop} (e : ls = ls2) (e2 : w = w2) (h : Ok M S pc ls2 st w2 k n P) : Ok M S pc ls st w k n P := by rw [e, e2]; exact h
/-- a row of numbers -/
abbrev rowG (n : Nat) (f : Nat → Int32) (sz : Int32) : PW := [.inr (2, [.ref 1, .int sz]), .inl (n, f)]
/-- doors: kinds, figures, froms, intos, wedged, ways, firsts -/
abbrev dG (kd fg fr io wg ws fs : Nat → Int32) (sz : Int32) : PW := [.inr (0, [.ref 1, .ref 2, .ref 3, .ref 4, .ref 5, .ref 6, .ref 7, .int sz]), .inl (9, kd), .inl (9, fg), .inl (9, fr), .inl (9, io), .inl (9, wg), .inl (64, ws), .inl (64, fs)]
theorem tX2_isFull {n m : Nat} {f : Nat → Int32} (hn : n < 2147483648) (hm : m < 2147483648) : PD mX2_isFull [.ref 0] (rowG n f (nI m)) (some (.int (bI (decide (n ≤ m))))) (rowG n f (nI m)) := by
  refine PM.ofp 0 (by decide) (Nat.le_of_ble_eq_true rfl) ?_
  show Ok mX2_isFull none 0 [some (.ref 0)] [] (rowG n f (nI m)) 0 0 _
  refine o_aload_n dX2_isFull_0 rfl rfl ?_
  refine o_getf (j := 1) dX2_isFull_1 rfl hcX2 inX2 (Nat.le_of_ble_eq_true rfl) wd189 rfl rfl ?_
  refine o_aload_n dX2_isFull_4 rfl rfl ?_
  refine o_getf (j := 0) dX2_isFull_5 rfl hcX2 inX2 (Nat.le_of_ble_eq_true rfl) wd186 rfl rfl ?_
  refine o_alen dX2_isFull_8 rfl ?_
  refine o_icmp_lt (tgt := 16) dX2_isFull_9 (by decide) (fun c_9 => ?_) (fun c_9 => ?_)
  · have hq : ¬ n ≤ m := fun h => absurd ((nI_ltI hm hn).mp c_9) (Nat.not_lt.mpr h)
    refine o_iconst dX2_isFull_16 ic_0 ?_
    refine o_iret dX2_isFull_17 rfl (by first | exact nz_b _ | decide) (Nat.le_of_ble_eq_true rfl) (Nat.le_of_ble_eq_true rfl) ?_
    exact ⟨by simp [bI, hq], rfl⟩
  · have hq : n ≤ m := Nat.not_lt.mp (fun h => c_9 ((nI_ltI hm hn).mpr h))
    refine o_iconst dX2_isFull_12 ic_1 ?_
    refine o_goto (tgt := 17) dX2_isFull_13 (by decide) ?_
    refine o_iret dX2_isFull_17 rfl (by first | exact nz_b _ | decide) (Nat.le_of_ble_eq_true rfl) (Nat.le_of_ble_eq_true rfl) ?_
    exact ⟨by simp [bI, hq], rfl⟩
theorem tX2_add {n m : Nat} {f : Nat → Int32} {v : Int32} (hn : n < 2147483648) (hm : m < n) : PD mX2_add [.ref 0, .int v] (rowG n f (nI m)) (some (.int (nI (m + 1)))) (rowG n (upd f m v) (nI (m + 1))) := by
  refine PM.ofp 0 (by decide) (Nat.le_of_ble_eq_true rfl) ?_
  show Ok mX2_add none 0 [some (.ref 0), some (.int v)] [] (rowG n f (nI m)) 0 0 _
  refine o_aload_n dX2_add_0 rfl rfl ?_
  refine o_callVr (is := [0, 1]) (tX2_isFull hn (by omega)) ⟨rfl, rfl⟩ dX2_add_1 wd247 cvX2_isFull rfl ⟨(Nat.le_of_ble_eq_true rfl), (Nat.le_of_ble_eq_true rfl)⟩ hcX2 rfl rfl rfl rfl (Nat.le_of_ble_eq_true rfl) (Nat.le_of_ble_eq_true rfl) (Nat.le_of_ble_eq_true rfl) ?_
  refine o_if_ne (tgt := 29) dX2_add_4 (by decide) (fun c_4 => ?_) (fun c_4 => ?_)
  · exact absurd c_4 (by rw [bI_0]; simp; omega)
  · skip
    refine o_aload_n dX2_add_7 rfl rfl ?_
    refine o_getf (j := 0) dX2_add_8 rfl hcX2 inX2 (Nat.le_of_ble_eq_true rfl) wd186 rfl rfl ?_
    refine o_aload_n dX2_add_11 rfl rfl ?_
    refine o_getf (j := 1) dX2_add_12 rfl hcX2 inX2 (Nat.le_of_ble_eq_true rfl) wd189 rfl rfl ?_
    refine o_iload_n dX2_add_15 rfl rfl ?_
    refine o_callSNd (is := [1]) (put_f hn rfl hm) ⟨rfl, rfl⟩ dX2_add_16 wd248 csX4_put rfl ⟨(Nat.le_of_ble_eq_true rfl), (Nat.le_of_ble_eq_true rfl)⟩ rfl rfl rfl (Nat.le_of_ble_eq_true rfl) (Nat.le_of_ble_eq_true rfl) (Nat.le_of_ble_eq_true rfl) rfl ?_
    refine o_aload_n dX2_add_19 rfl rfl ?_
    refine o_dup dX2_add_20 rfl ?_
    refine o_getf (j := 1) dX2_add_21 rfl hcX2 inX2 (Nat.le_of_ble_eq_true rfl) wd189 rfl rfl ?_
    refine o_iconst dX2_add_24 ic_1 ?_
    refine o_iadd dX2_add_25 ?_
    refine o_putf (j := 1) tyX2 dX2_add_26 rfl hcX2 inX2 tyX2_ok nmX2 (Nat.le_of_ble_eq_true rfl) wd189 rfl rfl (fun _ => vp_nar_int _) (fun _ => rfl) (Nat.le_of_ble_eq_true rfl) rfl ?_
    refine o_aload_n dX2_add_29 rfl rfl ?_
    refine o_getf (j := 1) dX2_add_30 rfl hcX2 inX2 (Nat.le_of_ble_eq_true rfl) wd189 rfl rfl ?_
    refine o_iret dX2_add_33 rfl (vp_nar_int _) (Nat.le_of_ble_eq_true rfl) (Nat.le_of_ble_eq_true rfl) ?_
    exact ⟨by rw [← nI_1], by rw [← nI_1]; rfl⟩
theorem tX2_empty {n : Nat} {sz : Int32} {f : Nat → Int32} : PD mX2_empty [.ref 0] (rowG n f sz) (some (.int sz)) (rowG n f 0) := by
  refine PM.ofp 1 (by decide) (Nat.le_of_ble_eq_true rfl) ?_
  show Ok mX2_empty none 0 [some (.ref 0), none] [] (rowG n f sz) 0 0 _
  refine o_aload_n dX2_empty_0 rfl rfl ?_
  refine o_getf (j := 1) dX2_empty_1 rfl hcX2 inX2 (Nat.le_of_ble_eq_true rfl) wd189 rfl rfl ?_
  refine o_istn_1 dX2_empty_4 rfl rfl (Nat.le_of_ble_eq_true rfl) ?_
  refine o_aload_n dX2_empty_5 rfl rfl ?_
  refine o_iconst dX2_empty_6 ic_0 ?_
  refine o_putf (j := 1) tyX2 dX2_empty_7 rfl hcX2 inX2 tyX2_ok nmX2 (Nat.le_of_ble_eq_true rfl) wd189 rfl rfl (fun _ => vp_nar_int _) (fun _ => rfl) (Nat.le_of_ble_eq_true rfl) rfl ?_
  refine o_iload_n dX2_empty_10 rfl rfl ?_
  refine o_iret dX2_empty_11 rfl (vp_nar_int _) (Nat.le_of_ble_eq_true rfl) (Nat.le_of_ble_eq_true rfl) ?_
  exact ⟨rfl, rfl⟩
theorem tX0_has {kd fg fr io wg ws fs : Nat → Int32} {sz x : Int32} : PD mX0_has [.ref 0, .int x] (dG kd fg fr io wg ws fs sz) (some (.int (bI (!decide (x < 0) && !decide (sz ≤ x))))) (dG kd fg fr io wg ws fs sz) := by
  refine PM.ofp 0 (by decide) (Nat.le_of_ble_eq_true rfl) ?_
  show Ok mX0_has none 0 [some (.ref 0), some (.int x)] [] (dG kd fg fr io wg ws fs sz) 0 0 _
  refine o_iload_n dX0_has_0 rfl rfl ?_
  refine o_if_lt (tgt := 16) dX0_has_1 (by decide) (fun c_1 => ?_) (fun c_1 => ?_)
  · skip
    refine o_iconst dX0_has_16 ic_0 ?_
    refine o_iret dX0_has_17 rfl (by first | exact nz_b _ | decide) (Nat.le_of_ble_eq_true rfl) (Nat.le_of_ble_eq_true rfl) ?_
    exact ⟨by simp [bI, *], rfl⟩
  · skip
    refine o_iload_n dX0_has_4 rfl rfl ?_
    refine o_aload_n dX0_has_5 rfl rfl ?_
    refine o_getf (j := 7) dX0_has_6 rfl hcX0 inX0 (Nat.le_of_ble_eq_true rfl) wd116 rfl rfl ?_
    refine o_icmp_ge (tgt := 16) dX0_has_9 (by decide) (fun c_9 => ?_) (fun c_9 => ?_)
    · skip
      refine o_iconst dX0_has_16 ic_0 ?_
      refine o_iret dX0_has_17 rfl (by first | exact nz_b _ | decide) (Nat.le_of_ble_eq_true rfl) (Nat.le_of_ble_eq_true rfl) ?_
      exact ⟨by simp [bI, *], rfl⟩
    · skip
      refine o_iconst dX0_has_12 ic_1 ?_
      refine o_goto (tgt := 17) dX0_has_13 (by decide) ?_
      refine o_iret dX0_has_17 rfl (by first | exact nz_b _ | decide) (Nat.le_of_ble_eq_true rfl) (Nat.le_of_ble_eq_true rfl) ?_
      exact ⟨by simp [bI, *], rfl⟩
theorem tX0_wedgeOrNot {kd fg fr io wg ws fs : Nat → Int32} {sz : Int32} {d : Nat} (hd : d < 9) : PD mX0_wedgeOrNot [.ref 0, .int (nI d)] (dG kd fg fr io wg ws fs sz) (some (.int (1 - wg d))) (dG kd fg fr io (upd wg d (1 - wg d)) ws fs sz) := by
  refine PM.ofp 0 (by decide) (Nat.le_of_ble_eq_true rfl) ?_
  show Ok mX0_wedgeOrNot none 0 [some (.ref 0), some (.int (nI d))] [] (dG kd fg fr io wg ws fs sz) 0 0 _
  refine o_aload_n dX0_wedgeOrNot_0 rfl rfl ?_
  refine o_getf (j := 4) dX0_wedgeOrNot_1 rfl hcX0 inX0 (Nat.le_of_ble_eq_true rfl) wd111 rfl rfl ?_
  refine o_iload_n dX0_wedgeOrNot_4 rfl rfl ?_
  refine o_iconst dX0_wedgeOrNot_5 ic_1 ?_
  refine o_aload_n dX0_wedgeOrNot_6 rfl rfl ?_
  refine o_getf (j := 4) dX0_wedgeOrNot_7 rfl hcX0 inX0 (Nat.le_of_ble_eq_true rfl) wd111 rfl rfl ?_
  refine o_iload_n dX0_wedgeOrNot_10 rfl rfl ?_
  refine o_callSNr (is := [5]) (at_f (by decide) rfl hd) ⟨rfl, rfl⟩ dX0_wedgeOrNot_11 wd91 csX4_at rfl ⟨(Nat.le_of_ble_eq_true rfl), (Nat.le_of_ble_eq_true rfl)⟩ rfl rfl rfl (Nat.le_of_ble_eq_true rfl) (Nat.le_of_ble_eq_true rfl) (Nat.le_of_ble_eq_true rfl) ?_
  refine o_isub dX0_wedgeOrNot_14 ?_
  refine o_callSNd (is := [5]) (put_f (by decide) rfl hd) ⟨rfl, rfl⟩ dX0_wedgeOrNot_15 wd88 csX4_put rfl ⟨(Nat.le_of_ble_eq_true rfl), (Nat.le_of_ble_eq_true rfl)⟩ rfl rfl rfl (Nat.le_of_ble_eq_true rfl) (Nat.le_of_ble_eq_true rfl) (Nat.le_of_ble_eq_true rfl) rfl ?_
  refine o_aload_n dX0_wedgeOrNot_18 rfl rfl ?_
  refine o_getf (j := 4) dX0_wedgeOrNot_19 rfl hcX0 inX0 (Nat.le_of_ble_eq_true rfl) wd111 rfl rfl ?_
  refine o_iload_n dX0_wedgeOrNot_22 rfl rfl ?_
  refine o_callSNr (is := [5]) (at_f (by decide) rfl hd) ⟨rfl, rfl⟩ dX0_wedgeOrNot_23 wd91 csX4_at rfl ⟨(Nat.le_of_ble_eq_true rfl), (Nat.le_of_ble_eq_true rfl)⟩ rfl rfl rfl (Nat.le_of_ble_eq_true rfl) (Nat.le_of_ble_eq_true rfl) (Nat.le_of_ble_eq_true rfl) ?_
  refine o_iret dX0_wedgeOrNot_26 rfl (vp_nar_int _) (Nat.le_of_ble_eq_true rfl) (Nat.le_of_ble_eq_true rfl) ?_
  exact ⟨by simp [upd], rfl⟩
theorem rm_in {a : Nat} (ha : a < 8) : isRoomB (nI a) = true := by
  have h1 := nI_pos (n := a) (by omega)
  have h2 : ¬ (8 : Int32) ≤ nI a := nI_ge (a := a) (b := 8) ha (by omega)
  simp [isRoomB, h1, h2]
theorem tX0_wayBetween {kd fg fr io wg ws fs : Nat → Int32} {sz : Int32} {a b : Nat} (ha : a < 8) (hb : b < 8) : PD mX0_wayBetween [.ref 0, .int (nI a), .int (nI b)] (dG kd fg fr io wg ws fs sz) (some (.int (ws (a * 8 + b)))) (dG kd fg fr io wg ws fs sz) := by
  refine PM.ofp 0 (by decide) (Nat.le_of_ble_eq_true rfl) ?_
  show Ok mX0_wayBetween none 0 [some (.ref 0), some (.int (nI a)), some (.int (nI b))] [] (dG kd fg fr io wg ws fs sz) 0 0 _
  refine o_iload_n dX0_wayBetween_0 rfl rfl ?_
  refine o_callSNr (is := []) (tX4_isRoom) ⟨rfl, rfl⟩ dX0_wayBetween_1 wd303 csX4_isRoom rfl ⟨(Nat.le_of_ble_eq_true rfl), (Nat.le_of_ble_eq_true rfl)⟩ rfl rfl rfl (Nat.le_of_ble_eq_true rfl) (Nat.le_of_ble_eq_true rfl) (Nat.le_of_ble_eq_true rfl) ?_
  refine o_if_eq (tgt := 30) dX0_wayBetween_4 (by decide) (fun c_4 => ?_) (fun c_4 => ?_)
  · exact absurd c_4 (by rw [bI_0, rm_in ha]; decide)
  · skip
    refine o_iload_n dX0_wayBetween_7 rfl rfl ?_
    refine o_callSNr (is := []) (tX4_isRoom) ⟨rfl, rfl⟩ dX0_wayBetween_8 wd303 csX4_isRoom rfl ⟨(Nat.le_of_ble_eq_true rfl), (Nat.le_of_ble_eq_true rfl)⟩ rfl rfl rfl (Nat.le_of_ble_eq_true rfl) (Nat.le_of_ble_eq_true rfl) (Nat.le_of_ble_eq_true rfl) ?_
    refine o_if_eq (tgt := 30) dX0_wayBetween_11 (by decide) (fun c_11 => ?_) (fun c_11 => ?_)
    · exact absurd c_11 (by rw [bI_0, rm_in hb]; decide)
    · skip
      refine o_aload_n dX0_wayBetween_14 rfl rfl ?_
      refine o_getf (j := 5) dX0_wayBetween_15 rfl hcX0 inX0 (Nat.le_of_ble_eq_true rfl) wd114 rfl rfl ?_
      refine o_iload_n dX0_wayBetween_18 rfl rfl ?_
      refine o_bipush dX0_wayBetween_19 bp_8 ?_
      refine o_imul dX0_wayBetween_21 ?_
      refine o_iload_n dX0_wayBetween_22 rfl rfl ?_
      refine o_iadd dX0_wayBetween_23 ?_
      refine o_callSNr (is := [6]) (at_f (by decide) (ix8 a b) (by omega)) ⟨rfl, rfl⟩ dX0_wayBetween_24 wd91 csX4_at rfl ⟨(Nat.le_of_ble_eq_true rfl), (Nat.le_of_ble_eq_true rfl)⟩ rfl rfl rfl (Nat.le_of_ble_eq_true rfl) (Nat.le_of_ble_eq_true rfl) (Nat.le_of_ble_eq_true rfl) ?_
      refine o_goto (tgt := 33) dX0_wayBetween_27 (by decide) ?_
      refine o_iret dX0_wayBetween_33 rfl (vp_nar_int _) (Nat.le_of_ble_eq_true rfl) (Nat.le_of_ble_eq_true rfl) ?_
      exact ⟨rfl, rfl⟩
theorem tX0_firstDoors {kd fg fr io wg ws fs : Nat → Int32} {sz : Int32} {a b : Nat} (ha : a < 8) (hb : b < 8) : PD mX0_firstDoors [.ref 0, .int (nI a), .int (nI b)] (dG kd fg fr io wg ws fs sz) (some (.int (fs (a * 8 + b)))) (dG kd fg fr io wg ws fs sz) := by
  refine PM.ofp 0 (by decide) (Nat.le_of_ble_eq_true rfl) ?_
  show Ok mX0_firstDoors none 0 [some (.ref 0), some (.int (nI a)), some (.int (nI b))] [] (dG kd fg fr io wg ws fs sz) 0 0 _
  refine o_iload_n dX0_firstDoors_0 rfl rfl ?_
  refine o_callSNr (is := []) (tX4_isRoom) ⟨rfl, rfl⟩ dX0_firstDoors_1 wd303 csX4_isRoom rfl ⟨(Nat.le_of_ble_eq_true rfl), (Nat.le_of_ble_eq_true rfl)⟩ rfl rfl rfl (Nat.le_of_ble_eq_true rfl) (Nat.le_of_ble_eq_true rfl) (Nat.le_of_ble_eq_true rfl) ?_
  refine o_if_eq (tgt := 30) dX0_firstDoors_4 (by decide) (fun c_4 => ?_) (fun c_4 => ?_)
  · exact absurd c_4 (by rw [bI_0, rm_in ha]; decide)
  · skip
    refine o_iload_n dX0_firstDoors_7 rfl rfl ?_
    refine o_callSNr (is := []) (tX4_isRoom) ⟨rfl, rfl⟩ dX0_firstDoors_8 wd303 csX4_isRoom rfl ⟨(Nat.le_of_ble_eq_true rfl), (Nat.le_of_ble_eq_true rfl)⟩ rfl rfl rfl (Nat.le_of_ble_eq_true rfl) (Nat.le_of_ble_eq_true rfl) (Nat.le_of_ble_eq_true rfl) ?_
    refine o_if_eq (tgt := 30) dX0_firstDoors_11 (by decide) (fun c_11 => ?_) (fun c_11 => ?_)
    · exact absurd c_11 (by rw [bI_0, rm_in hb]; decide)
    · skip
      refine o_aload_n dX0_firstDoors_14 rfl rfl ?_
      refine o_getf (j := 6) dX0_firstDoors_15 rfl hcX0 inX0 (Nat.le_of_ble_eq_true rfl) wd115 rfl rfl ?_
      refine o_iload_n dX0_firstDoors_18 rfl rfl ?_
      refine o_bipush dX0_firstDoors_19 bp_8 ?_
      refine o_imul dX0_firstDoors_21 ?_
      refine o_iload_n dX0_firstDoors_22 rfl rfl ?_
      refine o_iadd dX0_firstDoors_23 ?_
      refine o_callSNr (is := [7]) (at_f (by decide) (ix8 a b) (by omega)) ⟨rfl, rfl⟩ dX0_firstDoors_24 wd91 csX4_at rfl ⟨(Nat.le_of_ble_eq_true rfl), (Nat.le_of_ble_eq_true rfl)⟩ rfl rfl rfl (Nat.le_of_ble_eq_true rfl) (Nat.le_of_ble_eq_true rfl) (Nat.le_of_ble_eq_true rfl) ?_
      refine o_goto (tgt := 31) dX0_firstDoors_27 (by decide) ?_
      refine o_iret dX0_firstDoors_31 rfl (vp_nar_int _) (Nat.le_of_ble_eq_true rfl) (Nat.le_of_ble_eq_true rfl) ?_
      exact ⟨rfl, rfl⟩
