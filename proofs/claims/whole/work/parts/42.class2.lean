theorem pbk_app (ren : PE → PE) : ∀ (is1 : List Nat) (wc1 w : PW) (is2 : List Nat) (wc2 : PW), is1.length = wc1.length → pbk ren w (is1 ++ is2) (wc1 ++ wc2) = pbk ren (pbk ren w is1 wc1) is2 wc2
  | [], [], w, is2, wc2, _ => rfl
  | [], e :: es, w, is2, wc2, h => by simp at h
  | i :: is, [], w, is2, wc2, h => by simp at h
  | i :: is, e :: es, w, is2, wc2, h => by
    show pbk ren (w.set i (ren e)) (is ++ is2) (es ++ wc2) = pbk ren (pbk ren (w.set i (ren e)) is es) is2 wc2
    exact pbk_app ren is es _ is2 wc2 (by simpa using h)
theorem pbk_seg {ren : PE → PE} {w wc : PW} {is : List Nat} (a : Nat) (hk : a + wc.length ≤ w.length) (hi : is.take wc.length = List.range' a wc.length) (hnd : va_nd (is.take wc.length) = true) : pbk ren w is wc = w.take a ++ (wc.map ren ++ w.drop (a + wc.length)) := by
  have hj : ∀ j, j < wc.length → is[j]? = some (a + j) := fun j hj => by
    have h1 : (is.take wc.length)[j]? = some (a + j) := by rw [hi, List.getElem?_range' hj, Nat.one_mul]
    rwa [List.getElem?_take, if_pos hj] at h1
  apply List.ext_getElem?
  intro i
  by_cases h1 : i < a
  · rw [List.getElem?_append_left (by rw [List.length_take]; omega), List.getElem?_take, if_pos h1]
    exact pbk_out ren is wc w i (fun j hj2 e => by rw [hj j hj2] at e; have := Option.some.inj e; omega)
  · have e0 : (w.take a).length = a := by rw [List.length_take]; omega
    rw [List.getElem?_append_right (by omega), e0]
    by_cases h2 : i < a + wc.length
    · have hx : i - a < wc.length := by omega
      rw [List.getElem?_append_left (by rw [List.length_map]; omega), List.getElem?_map, List.getElem?_eq_getElem hx]
      exact pbk_in ren is wc w i (i - a) _ hnd (by rw [hj _ hx]; congr 1; omega) (List.getElem?_eq_getElem hx) (by omega)
    · rw [List.getElem?_append_right (by rw [List.length_map]; omega), List.length_map, List.getElem?_drop, show a + wc.length + (i - a - wc.length) = i by omega]
      exact pbk_out ren is wc w i (fun j hj2 e => by rw [hj j hj2] at e; have := Option.some.inj e; omega)
theorem pb_two {w wc w1 w2 : PW} {is : List Nat} (n a b k : Nat) (hw : wc.length = n + k) (hl : (is.take n).length = (wc.take n).length) (g1 : a + (wc.take n).length ≤ w.length) (i1 : (is.take n).take (wc.take n).length = List.range' a (wc.take n).length) (d1 : va_nd ((is.take n).take (wc.take n).length) = true) (e1 : w.take a ++ ((wc.take n).map (re is) ++ w.drop (a + (wc.take n).length)) = w1) (g2 : b + (wc.drop n).length ≤ w1.length) (i2 : (is.drop n).take (wc.drop n).length = List.range' b (wc.drop n).length) (d2 : va_nd ((is.drop n).take (wc.drop n).length) = true) (e2 : w1.take b ++ ((wc.drop n).map (re is) ++ w1.drop (b + (wc.drop n).length)) = w2) : pb w is wc = w2 := by
  have h := pbk_app (re is) (is.take n) (wc.take n) w (is.drop n) (wc.drop n) hl
  rw [List.take_append_drop, List.take_append_drop, pbk_seg a g1 i1 d1, e1, pbk_seg b g2 i2 d2, e2] at h
  exact h
theorem goK {r ws : Nat → Int32} {k : Nat} (hS : SOk r) : PD mX3_goHours [.ref 0, .int 1, .int 0] (tW (hrs r k) ws (fsO r)) (some (.int (wentC (fsO r) (dN r) (nN r) false (hrs r k) 1))) (tW (hrs r (k + 1)) ws (fsO r)) := goW (n := 1) (hoursPM hS.R hS.on k).2.1 (hoursPM hS.R hS.on k).2.2 (by omega)
theorem isHalf_eq {x : Int32} : isHalfB x = inR 2 x := by
  cases h : inR 2 x with
  | true =>
    obtain ⟨d, hd, rfl⟩ := inR_yes (by omega) h
    match d, hd with
    | 0, _ => rfl
    | 1, _ => rfl
  | false =>
    unfold isHalfB
    rw [decide_eq_false (fun e => by subst e; exact absurd h (by decide)), decide_eq_false (fun e => by subst e; exact absurd h (by decide))]
    rfl
theorem xway {r fs : Nat → Int32} {x y : Int32} (hx : RmI x) (hy : RmI y) : PD mX0_wayBetween [.ref 0, .int x, .int y] (dW r (wsO r) fs) (some (.int (nI (wyT (fA r) (fB r) (dN r) (cN x * 8 + cN y))))) (dW r (wsO r) fs) := by
  obtain ⟨a, ha, rfl⟩ := hx
  obtain ⟨b, hb, rfl⟩ := hy
  rw [cN_nI (by omega), cN_nI (by omega)]
  exact tX0_wayBetween ha hb
theorem wy_c {r : Nat → Int32} (hS : SOk r) {a b : Nat} (ha : a < 8) (hb : b < 8) : (farOf r (8 * a + b) ≤ 7 ∧ wyT (fA r) (fB r) (dN r) (a * 8 + b) = farOf r (8 * a + b)) ∨ (farOf r (8 * a + b) = 99 ∧ wyT (fA r) (fB r) (dN r) (a * 8 + b) = 1000) := wy_fr hS.R.h9 ha hb
theorem wy_1000 {r : Nat → Int32} (hS : SOk r) {a b : Nat} (ha : a < 8) (hb : b < 8) : nI (wyT (fA r) (fB r) (dN r) (a * 8 + b)) = 1000 ↔ 99 ≤ farOf r (8 * a + b) := by
  have h1 : (nI (wyT (fA r) (fB r) (dN r) (a * 8 + b)) = 1000) ↔ wyT (fA r) (fB r) (dN r) (a * 8 + b) = 1000 := nI_eq (b := 1000) (by have := wyT_le (fa := fA r) (fb := fB r) (D := dN r) (a * 8 + b); omega) (by omega)
  rw [h1]
  rcases wy_c hS ha hb with ⟨q1, q2⟩ | ⟨q1, q2⟩ <;> omega
theorem tX4_hours {r m mw mf im lt rw rf ga : Nat → Int32} {hi : Int32} {L R : Nat} (hS : SOk r) {x : Int32} : PM mX4_hours [.ref 0, .int x] (xW r (wsO r) (fsO r) m mw mf im (wsO im) (fsO im) lt rw rf ga hi (nI L) (nI R)) (CP (s_hours x (r, im, hi, lt, L, rw, R, rf))) := by
  refine PM.ofp 0 (by decide) (Nat.le_of_ble_eq_true rfl) ?_
  show Ok mX4_hours none 0 [some (.ref 0), some (.int x)] [] (xW r (wsO r) (fsO r) m mw mf im (wsO im) (fsO im) lt rw rf ga hi (nI L) (nI R)) 0 0 _
  refine o_iload_n dX4_hours_0 rfl rfl ?_
  refine o_iconst dX4_hours_1 ic_1 ?_
  refine o_icmp_ge (tgt := 12) dX4_hours_2 (by decide) (fun c_2 => ?_) (fun c_2 => ?_)
  · have q1 : ¬ x < 1 := Int32.not_lt.mpr c_2
    refine o_iload_n dX4_hours_12 rfl rfl ?_
    refine o_bipush dX4_hours_13 bp_60 ?_
    refine o_icmp_gt (tgt := 33) dX4_hours_15 (by decide) (fun c_15 => ?_) (fun c_15 => ?_)
    · skip
      refine o_aload_n dX4_hours_33 rfl rfl ?_
      refine o_bipush dX4_hours_34 bp_m6 ?_
      refine o_callVd (w2 := xW r (wsO r) (fsO r) m mw mf im (wsO im) (fsO im) lt rw (rfu rf 6) ga hi (nI L) (nI R)) (is := [0, 1, 2, 3, 4, 5, 6, 7, 8, 9, 10, 11, 12, 13, 14, 15, 16, 17, 18, 19, 20, 21, 22, 23, 24, 25, 26, 27, 28, 29, 30, 31, 32, 33, 34, 35, 36, 37, 38, 39, 40, 41, 42, 43]) (tX4_refused (c := 6) rfl (by decide)) ⟨rfl, rfl⟩ dX4_hours_36 wd233 cvX4_refused rfl ⟨(Nat.le_of_ble_eq_true rfl), (Nat.le_of_ble_eq_true rfl)⟩ hcX4 rfl rfl rfl rfl (Nat.le_of_ble_eq_true rfl) (Nat.le_of_ble_eq_true rfl) (Nat.le_of_ble_eq_true rfl) (pb_seg 0 (Nat.le_of_ble_eq_true rfl) rfl rfl rfl) ?_
      refine o_iret dX4_hours_39 rfl (vp_nar_int _) (Nat.le_of_ble_eq_true rfl) (Nat.le_of_ble_eq_true rfl) ?_
      exact CP.mk (by simp only [s_hours, if_neg q1, c_15, true_or, if_true]; rfl)
    · skip
      refine o_aload_n dX4_hours_18 rfl rfl ?_
      refine o_getf (j := 0) dX4_hours_19 rfl hcX4 inX4 (Nat.le_of_ble_eq_true rfl) wd204 rfl rfl ?_
      refine o_getf (j := 5) dX4_hours_22 rfl hcX3 inX3 (Nat.le_of_ble_eq_true rfl) wd152 rfl rfl ?_
      refine o_iload_n dX4_hours_25 rfl rfl ?_
      refine o_iadd dX4_hours_26 ?_
      refine o_sipush dX4_hours_27 sp_999 ?_
      refine o_icmp_le (tgt := 40) dX4_hours_30 (by decide) (fun c_30 => ?_) (fun c_30 => ?_)
      · have q3 : ¬ 999 < r 2 + x := Int32.not_lt.mpr c_30
        obtain ⟨q, hq1, hq, rfl⟩ := rng1 (b := 60) (by omega) q1 c_15
        have eq := cN_nI (d := q) (by omega)
        refine o_aload_n dX4_hours_40 rfl rfl ?_
        refine o_getf (j := 0) dX4_hours_41 rfl hcX4 inX4 (Nat.le_of_ble_eq_true rfl) wd204 rfl rfl ?_
        refine o_iload_n dX4_hours_44 rfl rfl ?_
        refine o_iconst dX4_hours_45 ic_0 ?_
        refine o_callVd (w2 := xW (hrs r q) (wsO r) (fsO r) m mw mf im (wsO im) (fsO im) lt rw rf ga hi (nI L) (nI R)) (is := [2, 3, 4, 5, 6, 7, 8, 9, 10, 11, 12, 13]) (goS hS (by omega)) ⟨rfl, rfl⟩ dX4_hours_46 wd424 cvX3_goHours rfl ⟨(Nat.le_of_ble_eq_true rfl), (Nat.le_of_ble_eq_true rfl)⟩ hcX3 rfl rfl rfl rfl (Nat.le_of_ble_eq_true rfl) (Nat.le_of_ble_eq_true rfl) (Nat.le_of_ble_eq_true rfl) (pb_seg 2 (Nat.le_of_ble_eq_true rfl) rfl rfl rfl) ?_
        refine o_pop dX4_hours_49 rfl ?_
        refine o_aload_n dX4_hours_50 rfl rfl ?_
        refine o_getf (j := 0) dX4_hours_51 rfl hcX4 inX4 (Nat.le_of_ble_eq_true rfl) wd204 rfl rfl ?_
        refine o_callVr (is := [2, 3, 4, 5, 6, 7, 8, 9, 10, 11, 12, 13]) (hcS hS) ⟨rfl, rfl⟩ dX4_hours_54 wd425 cvX3_homeCount rfl ⟨(Nat.le_of_ble_eq_true rfl), (Nat.le_of_ble_eq_true rfl)⟩ hcX3 rfl rfl rfl rfl (Nat.le_of_ble_eq_true rfl) (Nat.le_of_ble_eq_true rfl) (Nat.le_of_ble_eq_true rfl) ?_
        refine o_iret dX4_hours_57 rfl (vp_nar_int _) (Nat.le_of_ble_eq_true rfl) (Nat.le_of_ble_eq_true rfl) ?_
        exact CP.mk (by simp only [s_hours, if_neg q1, c_15, q3, or_self, if_false, eq, stR]) (SD.hrs hS q).ws (SD.hrs hS q).fs
      · have q3 : 999 < r 2 + x := Int32.not_le.mp c_30
        refine o_aload_n dX4_hours_33 rfl rfl ?_
        refine o_bipush dX4_hours_34 bp_m6 ?_
        refine o_callVd (w2 := xW r (wsO r) (fsO r) m mw mf im (wsO im) (fsO im) lt rw (rfu rf 6) ga hi (nI L) (nI R)) (is := [0, 1, 2, 3, 4, 5, 6, 7, 8, 9, 10, 11, 12, 13, 14, 15, 16, 17, 18, 19, 20, 21, 22, 23, 24, 25, 26, 27, 28, 29, 30, 31, 32, 33, 34, 35, 36, 37, 38, 39, 40, 41, 42, 43]) (tX4_refused (c := 6) rfl (by decide)) ⟨rfl, rfl⟩ dX4_hours_36 wd233 cvX4_refused rfl ⟨(Nat.le_of_ble_eq_true rfl), (Nat.le_of_ble_eq_true rfl)⟩ hcX4 rfl rfl rfl rfl (Nat.le_of_ble_eq_true rfl) (Nat.le_of_ble_eq_true rfl) (Nat.le_of_ble_eq_true rfl) (pb_seg 0 (Nat.le_of_ble_eq_true rfl) rfl rfl rfl) ?_
        refine o_iret dX4_hours_39 rfl (vp_nar_int _) (Nat.le_of_ble_eq_true rfl) (Nat.le_of_ble_eq_true rfl) ?_
        exact CP.mk (by simp only [s_hours, if_neg q1, q3, or_true, if_true]; rfl)
  · have q1 : x < 1 := Int32.not_le.mp c_2
    refine o_aload_n dX4_hours_5 rfl rfl ?_
    refine o_bipush dX4_hours_6 bp_m4 ?_
    refine o_callVd (w2 := xW r (wsO r) (fsO r) m mw mf im (wsO im) (fsO im) lt rw (rfu rf 4) ga hi (nI L) (nI R)) (is := [0, 1, 2, 3, 4, 5, 6, 7, 8, 9, 10, 11, 12, 13, 14, 15, 16, 17, 18, 19, 20, 21, 22, 23, 24, 25, 26, 27, 28, 29, 30, 31, 32, 33, 34, 35, 36, 37, 38, 39, 40, 41, 42, 43]) (tX4_refused (c := 4) rfl (by decide)) ⟨rfl, rfl⟩ dX4_hours_8 wd233 cvX4_refused rfl ⟨(Nat.le_of_ble_eq_true rfl), (Nat.le_of_ble_eq_true rfl)⟩ hcX4 rfl rfl rfl rfl (Nat.le_of_ble_eq_true rfl) (Nat.le_of_ble_eq_true rfl) (Nat.le_of_ble_eq_true rfl) (pb_seg 0 (Nat.le_of_ble_eq_true rfl) rfl rfl rfl) ?_
    refine o_iret dX4_hours_11 rfl (vp_nar_int _) (Nat.le_of_ble_eq_true rfl) (Nat.le_of_ble_eq_true rfl) ?_
    exact CP.mk (by simp only [s_hours, if_pos q1]; rfl)
theorem tX4_letThen {r m mw mf im lt rw rf ga : Nat → Int32} {hi : Int32} {L R : Nat} (hS : SOk r) {x : Int32} : PM mX4_letThen [.ref 0, .int x] (xW r (wsO r) (fsO r) m mw mf im (wsO im) (fsO im) lt rw rf ga hi (nI L) (nI R)) (CP (s_letThen x (r, im, hi, lt, L, rw, R, rf))) := by
  refine PM.ofp 0 (by decide) (Nat.le_of_ble_eq_true rfl) ?_
  show Ok mX4_letThen none 0 [some (.ref 0), some (.int x)] [] (xW r (wsO r) (fsO r) m mw mf im (wsO im) (fsO im) lt rw rf ga hi (nI L) (nI R)) 0 0 _
  refine o_iload_n dX4_letThen_0 rfl rfl ?_
  refine o_if_lt (tgt := 10) dX4_letThen_1 (by decide) (fun c_1 => ?_) (fun c_1 => ?_)
  · skip
    refine o_aload_n dX4_letThen_10 rfl rfl ?_
    refine o_iload_n dX4_letThen_11 rfl rfl ?_
    refine o_callVd (w2 := xW r (wsO r) (fsO r) m mw mf im (wsO im) (fsO im) lt rw (rfu rf 4) ga hi (nI L) (nI R)) (is := [0, 1, 2, 3, 4, 5, 6, 7, 8, 9, 10, 11, 12, 13, 14, 15, 16, 17, 18, 19, 20, 21, 22, 23, 24, 25, 26, 27, 28, 29, 30, 31, 32, 33, 34, 35, 36, 37, 38, 39, 40, 41, 42, 43]) (rfn_lo c_1) ⟨rfl, rfl⟩ dX4_letThen_12 wd412 cvX4_refusedNumber rfl ⟨(Nat.le_of_ble_eq_true rfl), (Nat.le_of_ble_eq_true rfl)⟩ hcX4 rfl rfl rfl rfl (Nat.le_of_ble_eq_true rfl) (Nat.le_of_ble_eq_true rfl) (Nat.le_of_ble_eq_true rfl) (pb_seg 0 (Nat.le_of_ble_eq_true rfl) rfl rfl rfl) ?_
    refine o_iret dX4_letThen_15 rfl (vp_nar_int _) (Nat.le_of_ble_eq_true rfl) (Nat.le_of_ble_eq_true rfl) ?_
    exact CP.mk (by simp only [s_letThen, wrB, if_pos c_1]; rfl)
  · skip
    refine o_iload_n dX4_letThen_4 rfl rfl ?_
    refine o_bipush dX4_letThen_5 bp_60 ?_
    refine o_icmp_le (tgt := 16) dX4_letThen_7 (by decide) (fun c_7 => ?_) (fun c_7 => ?_)
    · have q2 : ¬ nI 60 < x := Int32.not_lt.mpr c_7
      obtain ⟨q, hq, rfl⟩ := rng (b := 60) (by omega) c_1 q2
      have eq := cN_nI (d := q) (by omega)
      refine o_aload_n dX4_letThen_16 rfl rfl ?_
      refine o_getf (j := 1) dX4_letThen_17 rfl hcX4 inX4 (Nat.le_of_ble_eq_true rfl) wd205 rfl rfl ?_
      refine o_aload_n dX4_letThen_20 rfl rfl ?_
      refine o_getf (j := 0) dX4_letThen_21 rfl hcX4 inX4 (Nat.le_of_ble_eq_true rfl) wd204 rfl rfl ?_
      refine o_callVd (w2 := xW r (wsO r) (fsO r) r (wsO r) (fsO r) im (wsO im) (fsO im) lt rw rf ga hi (nI L) (nI R)) (is := [14, 15, 16, 17, 18, 19, 20, 21, 22, 23, 24, 25, 2, 3, 4, 5, 6, 7, 8, 9, 10, 11, 12, 13]) (tX3_become) ⟨rfl, rfl⟩ dX4_letThen_24 wd273 cvX3_become rfl ⟨(Nat.le_of_ble_eq_true rfl), (Nat.le_of_ble_eq_true rfl)⟩ hcX3 rfl rfl rfl rfl (Nat.le_of_ble_eq_true rfl) (Nat.le_of_ble_eq_true rfl) (Nat.le_of_ble_eq_true rfl) (pb_two (w1 := xW r (wsO r) (fsO r) r (wsO r) (fsO r) im (wsO im) (fsO im) lt rw rf ga hi (nI L) (nI R)) 12 14 2 12 rfl rfl (Nat.le_of_ble_eq_true rfl) rfl rfl rfl (Nat.le_of_ble_eq_true rfl) rfl rfl rfl) ?_
      refine o_aload_n dX4_letThen_27 rfl rfl ?_
      refine o_getf (j := 1) dX4_letThen_28 rfl hcX4 inX4 (Nat.le_of_ble_eq_true rfl) wd205 rfl rfl ?_
      refine o_iload_n dX4_letThen_31 rfl rfl ?_
      refine o_iconst dX4_letThen_32 ic_0 ?_
      refine o_callVd (w2 := xW r (wsO r) (fsO r) (hrs r q) (wsO r) (fsO r) im (wsO im) (fsO im) lt rw rf ga hi (nI L) (nI R)) (is := [14, 15, 16, 17, 18, 19, 20, 21, 22, 23, 24, 25]) (goS hS (by omega)) ⟨rfl, rfl⟩ dX4_letThen_33 wd424 cvX3_goHours rfl ⟨(Nat.le_of_ble_eq_true rfl), (Nat.le_of_ble_eq_true rfl)⟩ hcX3 rfl rfl rfl rfl (Nat.le_of_ble_eq_true rfl) (Nat.le_of_ble_eq_true rfl) (Nat.le_of_ble_eq_true rfl) (pb_seg 14 (Nat.le_of_ble_eq_true rfl) rfl rfl rfl) ?_
      refine o_pop dX4_letThen_36 rfl ?_
      refine o_aload_n dX4_letThen_37 rfl rfl ?_
      refine o_getf (j := 1) dX4_letThen_38 rfl hcX4 inX4 (Nat.le_of_ble_eq_true rfl) wd205 rfl rfl ?_
      refine o_getf (j := 6) dX4_letThen_41 rfl hcX3 inX3 (Nat.le_of_ble_eq_true rfl) wd155 rfl rfl ?_
      refine o_iret dX4_letThen_44 rfl (vp_nar_int _) (Nat.le_of_ble_eq_true rfl) (Nat.le_of_ble_eq_true rfl) ?_
      exact CP.mk (by simp only [s_letThen, wrB, if_neg c_1, if_neg q2, eq])
    · have q2 : nI 60 < x := Int32.not_le.mp c_7
      refine o_aload_n dX4_letThen_10 rfl rfl ?_
      refine o_iload_n dX4_letThen_11 rfl rfl ?_
      refine o_callVd (w2 := xW r (wsO r) (fsO r) m mw mf im (wsO im) (fsO im) lt rw (rfu rf 6) ga hi (nI L) (nI R)) (is := [0, 1, 2, 3, 4, 5, 6, 7, 8, 9, 10, 11, 12, 13, 14, 15, 16, 17, 18, 19, 20, 21, 22, 23, 24, 25, 26, 27, 28, 29, 30, 31, 32, 33, 34, 35, 36, 37, 38, 39, 40, 41, 42, 43]) (rfn_hi c_1) ⟨rfl, rfl⟩ dX4_letThen_12 wd412 cvX4_refusedNumber rfl ⟨(Nat.le_of_ble_eq_true rfl), (Nat.le_of_ble_eq_true rfl)⟩ hcX4 rfl rfl rfl rfl (Nat.le_of_ble_eq_true rfl) (Nat.le_of_ble_eq_true rfl) (Nat.le_of_ble_eq_true rfl) (pb_seg 0 (Nat.le_of_ble_eq_true rfl) rfl rfl rfl) ?_
      refine o_iret dX4_letThen_15 rfl (vp_nar_int _) (Nat.le_of_ble_eq_true rfl) (Nat.le_of_ble_eq_true rfl) ?_
      exact CP.mk (by simp only [s_letThen, wrB, if_neg c_1, if_pos q2]; rfl)
theorem tX4_personThen {r m mw mf im lt rw rf ga : Nat → Int32} {hi : Int32} {L R : Nat} (hS : SOk r) {x n w : Int32} : PM mX4_personThen [.ref 0, .int x, .int n, .int w] (xW r (wsO r) (fsO r) m mw mf im (wsO im) (fsO im) lt rw rf ga hi (nI L) (nI R)) (CP (s_personThen x n w (r, im, hi, lt, L, rw, R, rf))) := by
  refine PM.ofp 0 (by decide) (Nat.le_of_ble_eq_true rfl) ?_
  show Ok mX4_personThen none 0 [some (.ref 0), some (.int x), some (.int n), some (.int w)] [] (xW r (wsO r) (fsO r) m mw mf im (wsO im) (fsO im) lt rw rf ga hi (nI L) (nI R)) 0 0 _
  refine o_aload_n dX4_personThen_0 rfl rfl ?_
  refine o_getf (j := 0) dX4_personThen_1 rfl hcX4 inX4 (Nat.le_of_ble_eq_true rfl) wd204 rfl rfl ?_
  refine o_iload_n dX4_personThen_4 rfl rfl ?_
  refine o_callVr (is := [2, 3, 4, 5, 6, 7, 8, 9, 10, 11, 12, 13]) (xhas hS) ⟨rfl, rfl⟩ dX4_personThen_5 wd384 cvX3_has rfl ⟨(Nat.le_of_ble_eq_true rfl), (Nat.le_of_ble_eq_true rfl)⟩ hcX3 rfl rfl rfl rfl (Nat.le_of_ble_eq_true rfl) (Nat.le_of_ble_eq_true rfl) (Nat.le_of_ble_eq_true rfl) ?_
  refine o_if_ne (tgt := 17) dX4_personThen_8 (by decide) (fun c_8 => ?_) (fun c_8 => ?_)
  · obtain ⟨d, hd, rfl⟩ := inR_yes (by have := hS.n6; omega) (bI_ne c_8)
    have h9 := hS.n6
    have hin := inR_nI (D := nN r) (by omega) hd
    have ec := cN_nI (d := d) (by omega)
    refine o_iload_n dX4_personThen_17 rfl rfl ?_
    refine o_if_lt (tgt := 27) dX4_personThen_18 (by decide) (fun c_18 => ?_) (fun c_18 => ?_)
    · skip
      refine o_aload_n dX4_personThen_27 rfl rfl ?_
      refine o_iload_n dX4_personThen_28 rfl rfl ?_
      refine o_callVd (w2 := xW r (wsO r) (fsO r) m mw mf im (wsO im) (fsO im) lt rw (rfu rf 4) ga hi (nI L) (nI R)) (is := [0, 1, 2, 3, 4, 5, 6, 7, 8, 9, 10, 11, 12, 13, 14, 15, 16, 17, 18, 19, 20, 21, 22, 23, 24, 25, 26, 27, 28, 29, 30, 31, 32, 33, 34, 35, 36, 37, 38, 39, 40, 41, 42, 43]) (rfn_lo c_18) ⟨rfl, rfl⟩ dX4_personThen_29 wd412 cvX4_refusedNumber rfl ⟨(Nat.le_of_ble_eq_true rfl), (Nat.le_of_ble_eq_true rfl)⟩ hcX4 rfl rfl rfl rfl (Nat.le_of_ble_eq_true rfl) (Nat.le_of_ble_eq_true rfl) (Nat.le_of_ble_eq_true rfl) (pb_seg 0 (Nat.le_of_ble_eq_true rfl) rfl rfl rfl) ?_
      refine o_iret dX4_personThen_32 rfl (vp_nar_int _) (Nat.le_of_ble_eq_true rfl) (Nat.le_of_ble_eq_true rfl) ?_
      exact CP.mk (by simp only [s_personThen, hin, if_true, wrB, if_pos c_18]; rfl)
    · skip
      refine o_iload_n dX4_personThen_21 rfl rfl ?_
      refine o_bipush dX4_personThen_22 bp_60 ?_
      refine o_icmp_le (tgt := 33) dX4_personThen_24 (by decide) (fun c_24 => ?_) (fun c_24 => ?_)
      · have q2 : ¬ nI 60 < n := Int32.not_lt.mpr c_24
        obtain ⟨q, hq, rfl⟩ := rng (b := 60) (by omega) c_18 q2
        have eq := cN_nI (d := q) (by omega)
        refine o_iload_n dX4_personThen_33 rfl rfl ?_
        refine o_callSr (is := []) (tX4_isHalf) ⟨rfl, rfl⟩ dX4_personThen_34 wd443 csX4_isHalf rfl ⟨(Nat.le_of_ble_eq_true rfl), (Nat.le_of_ble_eq_true rfl)⟩ rfl rfl rfl (Nat.le_of_ble_eq_true rfl) (Nat.le_of_ble_eq_true rfl) (Nat.le_of_ble_eq_true rfl) ?_
        refine o_if_ne (tgt := 47) dX4_personThen_37 (by decide) (fun c_37 => ?_) (fun c_37 => ?_)
        · have hww : inR 2 w = true := by rw [← isHalf_eq]; exact bI_ne c_37
          refine o_aload_n dX4_personThen_47 rfl rfl ?_
          refine o_getf (j := 1) dX4_personThen_48 rfl hcX4 inX4 (Nat.le_of_ble_eq_true rfl) wd205 rfl rfl ?_
          refine o_aload_n dX4_personThen_51 rfl rfl ?_
          refine o_getf (j := 0) dX4_personThen_52 rfl hcX4 inX4 (Nat.le_of_ble_eq_true rfl) wd204 rfl rfl ?_
          refine o_callVd (w2 := xW r (wsO r) (fsO r) r (wsO r) (fsO r) im (wsO im) (fsO im) lt rw rf ga hi (nI L) (nI R)) (is := [14, 15, 16, 17, 18, 19, 20, 21, 22, 23, 24, 25, 2, 3, 4, 5, 6, 7, 8, 9, 10, 11, 12, 13]) (tX3_become) ⟨rfl, rfl⟩ dX4_personThen_55 wd273 cvX3_become rfl ⟨(Nat.le_of_ble_eq_true rfl), (Nat.le_of_ble_eq_true rfl)⟩ hcX3 rfl rfl rfl rfl (Nat.le_of_ble_eq_true rfl) (Nat.le_of_ble_eq_true rfl) (Nat.le_of_ble_eq_true rfl) (pb_two (w1 := xW r (wsO r) (fsO r) r (wsO r) (fsO r) im (wsO im) (fsO im) lt rw rf ga hi (nI L) (nI R)) 12 14 2 12 rfl rfl (Nat.le_of_ble_eq_true rfl) rfl rfl rfl (Nat.le_of_ble_eq_true rfl) rfl rfl rfl) ?_
          refine o_aload_n dX4_personThen_58 rfl rfl ?_
          refine o_getf (j := 1) dX4_personThen_59 rfl hcX4 inX4 (Nat.le_of_ble_eq_true rfl) wd205 rfl rfl ?_
          refine o_iload_n dX4_personThen_62 rfl rfl ?_
          refine o_iconst dX4_personThen_63 ic_0 ?_
          refine o_callVd (w2 := xW r (wsO r) (fsO r) (hrs r q) (wsO r) (fsO r) im (wsO im) (fsO im) lt rw rf ga hi (nI L) (nI R)) (is := [14, 15, 16, 17, 18, 19, 20, 21, 22, 23, 24, 25]) (goS hS (by omega)) ⟨rfl, rfl⟩ dX4_personThen_64 wd424 cvX3_goHours rfl ⟨(Nat.le_of_ble_eq_true rfl), (Nat.le_of_ble_eq_true rfl)⟩ hcX3 rfl rfl rfl rfl (Nat.le_of_ble_eq_true rfl) (Nat.le_of_ble_eq_true rfl) (Nat.le_of_ble_eq_true rfl) (pb_seg 14 (Nat.le_of_ble_eq_true rfl) rfl rfl rfl) ?_
          refine o_pop dX4_personThen_67 rfl ?_
          refine o_iload_n dX4_personThen_68 rfl rfl ?_
          refine o_if_ne (tgt := 82) dX4_personThen_69 (by decide) (fun c_69 => ?_) (fun c_69 => ?_)
          · skip
            refine o_aload_n dX4_personThen_82 rfl rfl ?_
            refine o_getf (j := 1) dX4_personThen_83 rfl hcX4 inX4 (Nat.le_of_ble_eq_true rfl) wd205 rfl rfl ?_
            refine o_getf (j := 3) dX4_personThen_86 rfl hcX3 inX3 (Nat.le_of_ble_eq_true rfl) wd147 rfl rfl ?_
            refine o_iload_n dX4_personThen_89 rfl rfl ?_
            refine o_callSr (is := [25]) (at_p (b := 52) (s := 3) (n := 7) (by decide) (by omega)) ⟨rfl, rfl⟩ dX4_personThen_90 wd237 csX4_at rfl ⟨(Nat.le_of_ble_eq_true rfl), (Nat.le_of_ble_eq_true rfl)⟩ rfl rfl rfl (Nat.le_of_ble_eq_true rfl) (Nat.le_of_ble_eq_true rfl) (Nat.le_of_ble_eq_true rfl) ?_
            refine o_iret dX4_personThen_93 rfl (vp_nar_int _) (Nat.le_of_ble_eq_true rfl) (Nat.le_of_ble_eq_true rfl) ?_
            exact CP.mk (by simp only [s_personThen, hin, if_true, wrB, if_neg c_18, if_neg q2, hww, eq, ec, if_neg c_69])
          · skip
            refine o_aload_n dX4_personThen_72 rfl rfl ?_
            refine o_getf (j := 1) dX4_personThen_73 rfl hcX4 inX4 (Nat.le_of_ble_eq_true rfl) wd205 rfl rfl ?_
            refine o_getf (j := 1) dX4_personThen_76 rfl hcX3 inX3 (Nat.le_of_ble_eq_true rfl) wd141 rfl rfl ?_
            refine o_goto (tgt := 89) dX4_personThen_79 (by decide) ?_
            refine o_iload_n dX4_personThen_89 rfl rfl ?_
            refine o_callSr (is := [23]) (at_p (b := 50) (s := 3) (n := 7) (by decide) (by omega)) ⟨rfl, rfl⟩ dX4_personThen_90 wd237 csX4_at rfl ⟨(Nat.le_of_ble_eq_true rfl), (Nat.le_of_ble_eq_true rfl)⟩ rfl rfl rfl (Nat.le_of_ble_eq_true rfl) (Nat.le_of_ble_eq_true rfl) (Nat.le_of_ble_eq_true rfl) ?_
            refine o_iret dX4_personThen_93 rfl (vp_nar_int _) (Nat.le_of_ble_eq_true rfl) (Nat.le_of_ble_eq_true rfl) ?_
            exact CP.mk (by simp only [s_personThen, hin, if_true, wrB, if_neg c_18, if_neg q2, hww, eq, ec, if_pos c_69])
        · have hww : inR 2 w = false := by rw [← isHalf_eq]; exact bI_0.mp c_37
          refine o_aload_n dX4_personThen_40 rfl rfl ?_
          refine o_bipush dX4_personThen_41 bp_m2 ?_
          refine o_callVd (w2 := xW r (wsO r) (fsO r) m mw mf im (wsO im) (fsO im) lt rw (rfu rf 2) ga hi (nI L) (nI R)) (is := [0, 1, 2, 3, 4, 5, 6, 7, 8, 9, 10, 11, 12, 13, 14, 15, 16, 17, 18, 19, 20, 21, 22, 23, 24, 25, 26, 27, 28, 29, 30, 31, 32, 33, 34, 35, 36, 37, 38, 39, 40, 41, 42, 43]) (tX4_refused (c := 2) rfl (by decide)) ⟨rfl, rfl⟩ dX4_personThen_43 wd233 cvX4_refused rfl ⟨(Nat.le_of_ble_eq_true rfl), (Nat.le_of_ble_eq_true rfl)⟩ hcX4 rfl rfl rfl rfl (Nat.le_of_ble_eq_true rfl) (Nat.le_of_ble_eq_true rfl) (Nat.le_of_ble_eq_true rfl) (pb_seg 0 (Nat.le_of_ble_eq_true rfl) rfl rfl rfl) ?_
          refine o_iret dX4_personThen_46 rfl (vp_nar_int _) (Nat.le_of_ble_eq_true rfl) (Nat.le_of_ble_eq_true rfl) ?_
          exact CP.mk (by simp only [s_personThen, hin, if_true, wrB, if_neg c_18, if_neg q2, hww]; rfl)
      · have q2 : nI 60 < n := Int32.not_le.mp c_24
        refine o_aload_n dX4_personThen_27 rfl rfl ?_
        refine o_iload_n dX4_personThen_28 rfl rfl ?_
        refine o_callVd (w2 := xW r (wsO r) (fsO r) m mw mf im (wsO im) (fsO im) lt rw (rfu rf 6) ga hi (nI L) (nI R)) (is := [0, 1, 2, 3, 4, 5, 6, 7, 8, 9, 10, 11, 12, 13, 14, 15, 16, 17, 18, 19, 20, 21, 22, 23, 24, 25, 26, 27, 28, 29, 30, 31, 32, 33, 34, 35, 36, 37, 38, 39, 40, 41, 42, 43]) (rfn_hi c_18) ⟨rfl, rfl⟩ dX4_personThen_29 wd412 cvX4_refusedNumber rfl ⟨(Nat.le_of_ble_eq_true rfl), (Nat.le_of_ble_eq_true rfl)⟩ hcX4 rfl rfl rfl rfl (Nat.le_of_ble_eq_true rfl) (Nat.le_of_ble_eq_true rfl) (Nat.le_of_ble_eq_true rfl) (pb_seg 0 (Nat.le_of_ble_eq_true rfl) rfl rfl rfl) ?_
        refine o_iret dX4_personThen_32 rfl (vp_nar_int _) (Nat.le_of_ble_eq_true rfl) (Nat.le_of_ble_eq_true rfl) ?_
        exact CP.mk (by simp only [s_personThen, hin, if_true, wrB, if_neg c_18, if_pos q2]; rfl)
  · have hno := bI_0.mp c_8
    refine o_aload_n dX4_personThen_11 rfl rfl ?_
    refine o_iconst dX4_personThen_12 ic_m1 ?_
    refine o_callVd (w2 := xW r (wsO r) (fsO r) m mw mf im (wsO im) (fsO im) lt rw (rfu rf 1) ga hi (nI L) (nI R)) (is := [0, 1, 2, 3, 4, 5, 6, 7, 8, 9, 10, 11, 12, 13, 14, 15, 16, 17, 18, 19, 20, 21, 22, 23, 24, 25, 26, 27, 28, 29, 30, 31, 32, 33, 34, 35, 36, 37, 38, 39, 40, 41, 42, 43]) (tX4_refused (c := 1) rfl (by decide)) ⟨rfl, rfl⟩ dX4_personThen_13 wd233 cvX4_refused rfl ⟨(Nat.le_of_ble_eq_true rfl), (Nat.le_of_ble_eq_true rfl)⟩ hcX4 rfl rfl rfl rfl (Nat.le_of_ble_eq_true rfl) (Nat.le_of_ble_eq_true rfl) (Nat.le_of_ble_eq_true rfl) (pb_seg 0 (Nat.le_of_ble_eq_true rfl) rfl rfl rfl) ?_
    refine o_iret dX4_personThen_16 rfl (vp_nar_int _) (Nat.le_of_ble_eq_true rfl) (Nat.le_of_ble_eq_true rfl) ?_
    exact CP.mk (by simp only [s_personThen, hno]; rfl)
theorem lX4_firstHourIn {r im lt rw rf ga : Nat → Int32} {hi : Int32} {L R : Nat} (hS : SOk r) {x : Int32} {d : Nat} (hd : d < nN r) : ∀ (q k : Nat), k + q = 61 → dfS (fun n => decide (hrs r n (50 + 3 * d) = x)) q k = cmF r d x → Ok mX4_firstHourIn none 13 [some (.ref 0), some (.int (nI d)), some (.int x), some (.int (nI k))] [] (xW r (wsO r) (fsO r) (hrs r k) (wsO r) (fsO r) im (wsO im) (fsO im) lt rw rf ga hi (nI L) (nI R)) 0 0 (fun a w => a = some (.int (cmF r d x)) ∧ ∃ m2 mw2 mf2, w = xW r (wsO r) (fsO r) m2 mw2 mf2 im (wsO im) (fsO im) lt rw rf ga hi (nI L) (nI R)) := by
  have h6 := hS.n6
  intro q
  induction q with
  | zero =>
    intro k hk hR
    have hk : k = 61 := by omega
    subst hk
    refine o_iload_n dX4_firstHourIn_13 rfl rfl ?_
    refine o_bipush dX4_firstHourIn_14 bp_60 ?_
    refine o_icmp_gt (tgt := 52) dX4_firstHourIn_16 (by decide) (fun _ => ?_) (fun c => absurd (by decide) c)
    refine o_bipush dX4_firstHourIn_52 bp_m9 ?_
    refine o_iret dX4_firstHourIn_54 rfl (vp_nar_int _) (Nat.le_of_ble_eq_true rfl) (Nat.le_of_ble_eq_true rfl) ?_
    exact ⟨by rw [← hR]; rfl, _, _, _, rfl⟩
  | succ q ih =>
  intro k hk hR
  refine o_iload_n dX4_firstHourIn_13 rfl rfl ?_
  refine o_bipush dX4_firstHourIn_14 bp_60 ?_
  refine o_icmp_gt (tgt := 52) dX4_firstHourIn_16 (by decide) (fun c_16 => ?_) (fun c_16 => ?_)
  · exact absurd ((nI_ltI (a := 60) (by omega) (by omega)).mp c_16) (by omega)
  · skip
    refine o_aload_n dX4_firstHourIn_19 rfl rfl ?_
    refine o_getf (j := 1) dX4_firstHourIn_20 rfl hcX4 inX4 (Nat.le_of_ble_eq_true rfl) wd205 rfl rfl ?_
    refine o_getf (j := 1) dX4_firstHourIn_23 rfl hcX3 inX3 (Nat.le_of_ble_eq_true rfl) wd141 rfl rfl ?_
    refine o_iload_n dX4_firstHourIn_26 rfl rfl ?_
    refine o_callSr (is := [23]) (at_p (b := 50) (s := 3) (n := 7) (by decide) (by omega)) ⟨rfl, rfl⟩ dX4_firstHourIn_27 wd237 csX4_at rfl ⟨(Nat.le_of_ble_eq_true rfl), (Nat.le_of_ble_eq_true rfl)⟩ rfl rfl rfl (Nat.le_of_ble_eq_true rfl) (Nat.le_of_ble_eq_true rfl) (Nat.le_of_ble_eq_true rfl) ?_
    refine o_iload_n dX4_firstHourIn_30 rfl rfl ?_
    refine o_icmp_ne (tgt := 36) dX4_firstHourIn_31 (by decide) (fun c_31 => ?_) (fun c_31 => ?_)
    · skip
      refine o_aload_n dX4_firstHourIn_36 rfl rfl ?_
      refine o_getf (j := 1) dX4_firstHourIn_37 rfl hcX4 inX4 (Nat.le_of_ble_eq_true rfl) wd205 rfl rfl ?_
      refine o_iconst dX4_firstHourIn_40 ic_1 ?_
      refine o_iconst dX4_firstHourIn_41 ic_0 ?_
      refine o_callVd (w2 := xW r (wsO r) (fsO r) (hrs r (k + 1)) (wsO r) (fsO r) im (wsO im) (fsO im) lt rw rf ga hi (nI L) (nI R)) (is := [14, 15, 16, 17, 18, 19, 20, 21, 22, 23, 24, 25]) (goK hS) ⟨rfl, rfl⟩ dX4_firstHourIn_42 wd424 cvX3_goHours rfl ⟨(Nat.le_of_ble_eq_true rfl), (Nat.le_of_ble_eq_true rfl)⟩ hcX3 rfl rfl rfl rfl (Nat.le_of_ble_eq_true rfl) (Nat.le_of_ble_eq_true rfl) (Nat.le_of_ble_eq_true rfl) (pb_seg 14 (Nat.le_of_ble_eq_true rfl) rfl rfl rfl) ?_
      refine o_pop dX4_firstHourIn_45 rfl ?_
      refine o_inc_3 dX4_firstHourIn_46 rfl ic_1 (Nat.le_of_ble_eq_true rfl) ?_
      refine o_goto (tgt := 13) dX4_firstHourIn_49 (by decide) ?_
      exact o_eqa (by rw [nI_1]) rfl (ih (k + 1) (by omega) (by rw [← hR, dfS, decide_eq_false c_31]; rfl))
    · skip
      refine o_iload_n dX4_firstHourIn_34 rfl rfl ?_
      refine o_iret dX4_firstHourIn_35 rfl (vp_nar_int _) (Nat.le_of_ble_eq_true rfl) (Nat.le_of_ble_eq_true rfl) ?_
      exact ⟨by rw [← hR, dfS, if_pos (decide_eq_true c_31)], _, _, _, rfl⟩
theorem tX4_firstHourIn {r m mw mf im lt rw rf ga : Nat → Int32} {hi : Int32} {L R : Nat} (hS : SOk r) {x : Int32} {d : Nat} (hd : d < nN r) : PM mX4_firstHourIn [.ref 0, .int (nI d), .int x] (xW r (wsO r) (fsO r) m mw mf im (wsO im) (fsO im) lt rw rf ga hi (nI L) (nI R)) (fun a w => a = some (.int (cmF r d x)) ∧ ∃ m2 mw2 mf2, w = xW r (wsO r) (fsO r) m2 mw2 mf2 im (wsO im) (fsO im) lt rw rf ga hi (nI L) (nI R)) := by
  refine PM.ofp 1 (by decide) (Nat.le_of_ble_eq_true rfl) ?_
  show Ok mX4_firstHourIn none 0 [some (.ref 0), some (.int (nI d)), some (.int x), none] [] (xW r (wsO r) (fsO r) m mw mf im (wsO im) (fsO im) lt rw rf ga hi (nI L) (nI R)) 0 0 _
  refine o_aload_n dX4_firstHourIn_0 rfl rfl ?_
  refine o_getf (j := 1) dX4_firstHourIn_1 rfl hcX4 inX4 (Nat.le_of_ble_eq_true rfl) wd205 rfl rfl ?_
  refine o_aload_n dX4_firstHourIn_4 rfl rfl ?_
  refine o_getf (j := 0) dX4_firstHourIn_5 rfl hcX4 inX4 (Nat.le_of_ble_eq_true rfl) wd204 rfl rfl ?_
  refine o_callVd (w2 := xW r (wsO r) (fsO r) r (wsO r) (fsO r) im (wsO im) (fsO im) lt rw rf ga hi (nI L) (nI R)) (is := [14, 15, 16, 17, 18, 19, 20, 21, 22, 23, 24, 25, 2, 3, 4, 5, 6, 7, 8, 9, 10, 11, 12, 13]) (tX3_become) ⟨rfl, rfl⟩ dX4_firstHourIn_8 wd273 cvX3_become rfl ⟨(Nat.le_of_ble_eq_true rfl), (Nat.le_of_ble_eq_true rfl)⟩ hcX3 rfl rfl rfl rfl (Nat.le_of_ble_eq_true rfl) (Nat.le_of_ble_eq_true rfl) (Nat.le_of_ble_eq_true rfl) (pb_two (w1 := xW r (wsO r) (fsO r) r (wsO r) (fsO r) im (wsO im) (fsO im) lt rw rf ga hi (nI L) (nI R)) 12 14 2 12 rfl rfl (Nat.le_of_ble_eq_true rfl) rfl rfl rfl (Nat.le_of_ble_eq_true rfl) rfl rfl rfl) ?_
  refine o_iconst dX4_firstHourIn_11 ic_0 ?_
  refine o_istn_3 dX4_firstHourIn_12 rfl rfl (Nat.le_of_ble_eq_true rfl) ?_
  exact o_eqa (by rw [nI_0]) rfl (lX4_firstHourIn hS hd 61 0 (by omega) rfl)
theorem tX4_comes {r m mw mf im lt rw rf ga : Nat → Int32} {hi : Int32} {L R : Nat} (hS : SOk r) {x y : Int32} : PM mX4_comes [.ref 0, .int x, .int y] (xW r (wsO r) (fsO r) m mw mf im (wsO im) (fsO im) lt rw rf ga hi (nI L) (nI R)) (CP (s_comes x y (r, im, hi, lt, L, rw, R, rf))) := by
  refine PM.ofp 0 (by decide) (Nat.le_of_ble_eq_true rfl) ?_
  show Ok mX4_comes none 0 [some (.ref 0), some (.int x), some (.int y)] [] (xW r (wsO r) (fsO r) m mw mf im (wsO im) (fsO im) lt rw rf ga hi (nI L) (nI R)) 0 0 _
  refine o_aload_n dX4_comes_0 rfl rfl ?_
  refine o_getf (j := 0) dX4_comes_1 rfl hcX4 inX4 (Nat.le_of_ble_eq_true rfl) wd204 rfl rfl ?_
  refine o_iload_n dX4_comes_4 rfl rfl ?_
  refine o_callVr (is := [2, 3, 4, 5, 6, 7, 8, 9, 10, 11, 12, 13]) (xhas hS) ⟨rfl, rfl⟩ dX4_comes_5 wd384 cvX3_has rfl ⟨(Nat.le_of_ble_eq_true rfl), (Nat.le_of_ble_eq_true rfl)⟩ hcX3 rfl rfl rfl rfl (Nat.le_of_ble_eq_true rfl) (Nat.le_of_ble_eq_true rfl) (Nat.le_of_ble_eq_true rfl) ?_
  refine o_if_eq (tgt := 18) dX4_comes_8 (by decide) (fun c_8 => ?_) (fun c_8 => ?_)
  · have hno := bI_0.mp c_8
    refine o_aload_n dX4_comes_18 rfl rfl ?_
    refine o_iconst dX4_comes_19 ic_m1 ?_
    refine o_callVd (w2 := xW r (wsO r) (fsO r) m mw mf im (wsO im) (fsO im) lt rw (rfu rf 1) ga hi (nI L) (nI R)) (is := [0, 1, 2, 3, 4, 5, 6, 7, 8, 9, 10, 11, 12, 13, 14, 15, 16, 17, 18, 19, 20, 21, 22, 23, 24, 25, 26, 27, 28, 29, 30, 31, 32, 33, 34, 35, 36, 37, 38, 39, 40, 41, 42, 43]) (tX4_refused (c := 1) rfl (by decide)) ⟨rfl, rfl⟩ dX4_comes_20 wd233 cvX4_refused rfl ⟨(Nat.le_of_ble_eq_true rfl), (Nat.le_of_ble_eq_true rfl)⟩ hcX4 rfl rfl rfl rfl (Nat.le_of_ble_eq_true rfl) (Nat.le_of_ble_eq_true rfl) (Nat.le_of_ble_eq_true rfl) (pb_seg 0 (Nat.le_of_ble_eq_true rfl) rfl rfl rfl) ?_
    refine o_iret dX4_comes_23 rfl (vp_nar_int _) (Nat.le_of_ble_eq_true rfl) (Nat.le_of_ble_eq_true rfl) ?_
    exact CP.mk (by simp only [s_comes, hno, Bool.false_and]; rfl)
  · obtain ⟨d, hd, rfl⟩ := inR_yes (by have := hS.n6; omega) (bI_ne c_8)
    have h9 := hS.n6
    have hin := inR_nI (D := nN r) (by omega) hd
    have ec := cN_nI (d := d) (by omega)
    refine o_iload_n dX4_comes_11 rfl rfl ?_
    refine o_callSr (is := []) (tX4_isRoom) ⟨rfl, rfl⟩ dX4_comes_12 wd400 csX4_isRoom rfl ⟨(Nat.le_of_ble_eq_true rfl), (Nat.le_of_ble_eq_true rfl)⟩ rfl rfl rfl (Nat.le_of_ble_eq_true rfl) (Nat.le_of_ble_eq_true rfl) (Nat.le_of_ble_eq_true rfl) ?_
    refine o_if_ne (tgt := 24) dX4_comes_15 (by decide) (fun c_15 => ?_) (fun c_15 => ?_)
    · have hy : inR 8 y = true := bI_ne c_15
      refine o_aload_n dX4_comes_24 rfl rfl ?_
      refine o_iload_n dX4_comes_25 rfl rfl ?_
      refine o_iload_n dX4_comes_26 rfl rfl ?_
      refine o_callV (is := [0, 1, 2, 3, 4, 5, 6, 7, 8, 9, 10, 11, 12, 13, 14, 15, 16, 17, 18, 19, 20, 21, 22, 23, 24, 25, 26, 27, 28, 29, 30, 31, 32, 33, 34, 35, 36, 37, 38, 39, 40, 41, 42, 43]) (tX4_firstHourIn hS hd) ⟨rfl, rfl⟩ dX4_comes_27 wd454 cvX4_firstHourIn rfl ⟨(Nat.le_of_ble_eq_true rfl), (Nat.le_of_ble_eq_true rfl)⟩ hcX4 rfl rfl rfl rfl (Nat.le_of_ble_eq_true rfl) (Nat.le_of_ble_eq_true rfl) (Nat.le_of_ble_eq_true rfl) (fun ra wb hq hqn => ?_)
      obtain ⟨rfl, m2, mw2, mf2, rfl⟩ := hq
      refine o_eqw (w2 := xW r (wsO r) (fsO r) m2 mw2 mf2 im (wsO im) (fsO im) lt rw rf ga hi (nI L) (nI R)) (pb_seg 0 (Nat.le_of_ble_eq_true rfl) rfl rfl rfl) ?_
      refine o_iret dX4_comes_30 rfl (vp_nar_int _) (Nat.le_of_ble_eq_true rfl) (Nat.le_of_ble_eq_true rfl) ?_
      exact CP.mk (by simp only [s_comes, hin, hy, Bool.and_self, if_true, ec])
    · have hy : inR 8 y = false := bI_0.mp c_15
      refine o_aload_n dX4_comes_18 rfl rfl ?_
      refine o_iconst dX4_comes_19 ic_m1 ?_
      refine o_callVd (w2 := xW r (wsO r) (fsO r) m mw mf im (wsO im) (fsO im) lt rw (rfu rf 1) ga hi (nI L) (nI R)) (is := [0, 1, 2, 3, 4, 5, 6, 7, 8, 9, 10, 11, 12, 13, 14, 15, 16, 17, 18, 19, 20, 21, 22, 23, 24, 25, 26, 27, 28, 29, 30, 31, 32, 33, 34, 35, 36, 37, 38, 39, 40, 41, 42, 43]) (tX4_refused (c := 1) rfl (by decide)) ⟨rfl, rfl⟩ dX4_comes_20 wd233 cvX4_refused rfl ⟨(Nat.le_of_ble_eq_true rfl), (Nat.le_of_ble_eq_true rfl)⟩ hcX4 rfl rfl rfl rfl (Nat.le_of_ble_eq_true rfl) (Nat.le_of_ble_eq_true rfl) (Nat.le_of_ble_eq_true rfl) (pb_seg 0 (Nat.le_of_ble_eq_true rfl) rfl rfl rfl) ?_
      refine o_iret dX4_comes_23 rfl (vp_nar_int _) (Nat.le_of_ble_eq_true rfl) (Nat.le_of_ble_eq_true rfl) ?_
      exact CP.mk (by simp only [s_comes, hin, hy, Bool.and_false]; rfl)
theorem lX4_firstHourAllHome {r im lt rw rf ga : Nat → Int32} {hi : Int32} {L R : Nat} (hS : SOk r) : ∀ (q k : Nat), k + q = 61 → dfS (fun n => decide (bitsM (homeM (hrs r n) (nN r)) 9 = nI (nN r))) q k = ahF r → Ok mX4_firstHourAllHome none 13 [some (.ref 0), some (.int (nI k))] [] (xW r (wsO r) (fsO r) (hrs r k) (wsO r) (fsO r) im (wsO im) (fsO im) lt rw rf ga hi (nI L) (nI R)) 0 0 (fun a w => a = some (.int (ahF r)) ∧ ∃ m2 mw2 mf2, w = xW r (wsO r) (fsO r) m2 mw2 mf2 im (wsO im) (fsO im) lt rw rf ga hi (nI L) (nI R)) := by
  have h6 := hS.n6
  intro q
  induction q with
  | zero =>
    intro k hk hR
    have hk : k = 61 := by omega
    subst hk
    refine o_iload_n dX4_firstHourAllHome_13 rfl rfl ?_
    refine o_bipush dX4_firstHourAllHome_14 bp_60 ?_
    refine o_icmp_gt (tgt := 54) dX4_firstHourAllHome_16 (by decide) (fun _ => ?_) (fun c => absurd (by decide) c)
    refine o_bipush dX4_firstHourAllHome_54 bp_m9 ?_
    refine o_iret dX4_firstHourAllHome_56 rfl (vp_nar_int _) (Nat.le_of_ble_eq_true rfl) (Nat.le_of_ble_eq_true rfl) ?_
    exact ⟨by rw [← hR]; rfl, _, _, _, rfl⟩
  | succ q ih =>
  intro k hk hR
  refine o_iload_n dX4_firstHourAllHome_13 rfl rfl ?_
  refine o_bipush dX4_firstHourAllHome_14 bp_60 ?_
  refine o_icmp_gt (tgt := 54) dX4_firstHourAllHome_16 (by decide) (fun c_16 => ?_) (fun c_16 => ?_)
  · exact absurd ((nI_ltI (a := 60) (by omega) (by omega)).mp c_16) (by omega)
  · skip
    refine o_aload_n dX4_firstHourAllHome_19 rfl rfl ?_
    refine o_getf (j := 1) dX4_firstHourAllHome_20 rfl hcX4 inX4 (Nat.le_of_ble_eq_true rfl) wd205 rfl rfl ?_
    refine o_callVr (is := [14, 15, 16, 17, 18, 19, 20, 21, 22, 23, 24, 25]) (hcS hS) ⟨rfl, rfl⟩ dX4_firstHourAllHome_23 wd425 cvX3_homeCount rfl ⟨(Nat.le_of_ble_eq_true rfl), (Nat.le_of_ble_eq_true rfl)⟩ hcX3 rfl rfl rfl rfl (Nat.le_of_ble_eq_true rfl) (Nat.le_of_ble_eq_true rfl) (Nat.le_of_ble_eq_true rfl) ?_
    refine o_aload_n dX4_firstHourAllHome_26 rfl rfl ?_
    refine o_getf (j := 1) dX4_firstHourAllHome_27 rfl hcX4 inX4 (Nat.le_of_ble_eq_true rfl) wd205 rfl rfl ?_
    refine o_getf (j := 4) dX4_firstHourAllHome_30 rfl hcX3 inX3 (Nat.le_of_ble_eq_true rfl) wd150 rfl rfl ?_
    refine o_icmp_ne (tgt := 38) dX4_firstHourAllHome_33 (by decide) (fun c_33 => ?_) (fun c_33 => ?_)
    · rw [hrs_n hS k] at c_33
      refine o_aload_n dX4_firstHourAllHome_38 rfl rfl ?_
      refine o_getf (j := 1) dX4_firstHourAllHome_39 rfl hcX4 inX4 (Nat.le_of_ble_eq_true rfl) wd205 rfl rfl ?_
      refine o_iconst dX4_firstHourAllHome_42 ic_1 ?_
      refine o_iconst dX4_firstHourAllHome_43 ic_0 ?_
      refine o_callVd (w2 := xW r (wsO r) (fsO r) (hrs r (k + 1)) (wsO r) (fsO r) im (wsO im) (fsO im) lt rw rf ga hi (nI L) (nI R)) (is := [14, 15, 16, 17, 18, 19, 20, 21, 22, 23, 24, 25]) (goK hS) ⟨rfl, rfl⟩ dX4_firstHourAllHome_44 wd424 cvX3_goHours rfl ⟨(Nat.le_of_ble_eq_true rfl), (Nat.le_of_ble_eq_true rfl)⟩ hcX3 rfl rfl rfl rfl (Nat.le_of_ble_eq_true rfl) (Nat.le_of_ble_eq_true rfl) (Nat.le_of_ble_eq_true rfl) (pb_seg 14 (Nat.le_of_ble_eq_true rfl) rfl rfl rfl) ?_
      refine o_pop dX4_firstHourAllHome_47 rfl ?_
      refine o_inc_1 dX4_firstHourAllHome_48 rfl ic_1 (Nat.le_of_ble_eq_true rfl) ?_
      refine o_goto (tgt := 13) dX4_firstHourAllHome_51 (by decide) ?_
      exact o_eqa (by rw [nI_1]) rfl (ih (k + 1) (by omega) (by rw [← hR, dfS, decide_eq_false c_33]; rfl))
    · rw [hrs_n hS k] at c_33
      refine o_iload_n dX4_firstHourAllHome_36 rfl rfl ?_
      refine o_iret dX4_firstHourAllHome_37 rfl (vp_nar_int _) (Nat.le_of_ble_eq_true rfl) (Nat.le_of_ble_eq_true rfl) ?_
      exact ⟨by rw [← hR, dfS, if_pos (decide_eq_true c_33)], _, _, _, rfl⟩
theorem tX4_firstHourAllHome {r m mw mf im lt rw rf ga : Nat → Int32} {hi : Int32} {L R : Nat} (hS : SOk r) : PM mX4_firstHourAllHome [.ref 0] (xW r (wsO r) (fsO r) m mw mf im (wsO im) (fsO im) lt rw rf ga hi (nI L) (nI R)) (fun a w => a = some (.int (ahF r)) ∧ ∃ m2 mw2 mf2, w = xW r (wsO r) (fsO r) m2 mw2 mf2 im (wsO im) (fsO im) lt rw rf ga hi (nI L) (nI R)) := by
  refine PM.ofp 1 (by decide) (Nat.le_of_ble_eq_true rfl) ?_
  show Ok mX4_firstHourAllHome none 0 [some (.ref 0), none] [] (xW r (wsO r) (fsO r) m mw mf im (wsO im) (fsO im) lt rw rf ga hi (nI L) (nI R)) 0 0 _
  refine o_aload_n dX4_firstHourAllHome_0 rfl rfl ?_
  refine o_getf (j := 1) dX4_firstHourAllHome_1 rfl hcX4 inX4 (Nat.le_of_ble_eq_true rfl) wd205 rfl rfl ?_
  refine o_aload_n dX4_firstHourAllHome_4 rfl rfl ?_
  refine o_getf (j := 0) dX4_firstHourAllHome_5 rfl hcX4 inX4 (Nat.le_of_ble_eq_true rfl) wd204 rfl rfl ?_
  refine o_callVd (w2 := xW r (wsO r) (fsO r) r (wsO r) (fsO r) im (wsO im) (fsO im) lt rw rf ga hi (nI L) (nI R)) (is := [14, 15, 16, 17, 18, 19, 20, 21, 22, 23, 24, 25, 2, 3, 4, 5, 6, 7, 8, 9, 10, 11, 12, 13]) (tX3_become) ⟨rfl, rfl⟩ dX4_firstHourAllHome_8 wd273 cvX3_become rfl ⟨(Nat.le_of_ble_eq_true rfl), (Nat.le_of_ble_eq_true rfl)⟩ hcX3 rfl rfl rfl rfl (Nat.le_of_ble_eq_true rfl) (Nat.le_of_ble_eq_true rfl) (Nat.le_of_ble_eq_true rfl) (pb_two (w1 := xW r (wsO r) (fsO r) r (wsO r) (fsO r) im (wsO im) (fsO im) lt rw rf ga hi (nI L) (nI R)) 12 14 2 12 rfl rfl (Nat.le_of_ble_eq_true rfl) rfl rfl rfl (Nat.le_of_ble_eq_true rfl) rfl rfl rfl) ?_
  refine o_iconst dX4_firstHourAllHome_11 ic_0 ?_
  refine o_istn_1 dX4_firstHourAllHome_12 rfl rfl (Nat.le_of_ble_eq_true rfl) ?_
  exact o_eqa (by rw [nI_0]) rfl (lX4_firstHourAllHome hS 61 0 (by omega) rfl)
theorem tX4_home {r m mw mf im lt rw rf ga : Nat → Int32} {hi : Int32} {L R : Nat} (hS : SOk r) {x : Int32} : PM mX4_home [.ref 0, .int x] (xW r (wsO r) (fsO r) m mw mf im (wsO im) (fsO im) lt rw rf ga hi (nI L) (nI R)) (CP (s_home x (r, im, hi, lt, L, rw, R, rf))) := by
  refine PM.ofp 0 (by decide) (Nat.le_of_ble_eq_true rfl) ?_
  show Ok mX4_home none 0 [some (.ref 0), some (.int x)] [] (xW r (wsO r) (fsO r) m mw mf im (wsO im) (fsO im) lt rw rf ga hi (nI L) (nI R)) 0 0 _
  refine o_iload_n dX4_home_0 rfl rfl ?_
  refine o_iconst dX4_home_1 ic_m1 ?_
  refine o_icmp_ne (tgt := 10) dX4_home_2 (by decide) (fun c_2 => ?_) (fun c_2 => ?_)
  · skip
    refine o_aload_n dX4_home_10 rfl rfl ?_
    refine o_getf (j := 0) dX4_home_11 rfl hcX4 inX4 (Nat.le_of_ble_eq_true rfl) wd204 rfl rfl ?_
    refine o_iload_n dX4_home_14 rfl rfl ?_
    refine o_callVr (is := [2, 3, 4, 5, 6, 7, 8, 9, 10, 11, 12, 13]) (xhas hS) ⟨rfl, rfl⟩ dX4_home_15 wd384 cvX3_has rfl ⟨(Nat.le_of_ble_eq_true rfl), (Nat.le_of_ble_eq_true rfl)⟩ hcX3 rfl rfl rfl rfl (Nat.le_of_ble_eq_true rfl) (Nat.le_of_ble_eq_true rfl) (Nat.le_of_ble_eq_true rfl) ?_
    refine o_if_ne (tgt := 27) dX4_home_18 (by decide) (fun c_18 => ?_) (fun c_18 => ?_)
    · obtain ⟨d, hd, rfl⟩ := inR_yes (by have := hS.n6; omega) (bI_ne c_18)
      have h9 := hS.n6
      have hin := inR_nI (D := nN r) (by omega) hd
      have ec := cN_nI (d := d) (by omega)
      refine o_aload_n dX4_home_27 rfl rfl ?_
      refine o_iload_n dX4_home_28 rfl rfl ?_
      refine o_aload_n dX4_home_29 rfl rfl ?_
      refine o_getf (j := 0) dX4_home_30 rfl hcX4 inX4 (Nat.le_of_ble_eq_true rfl) wd204 rfl rfl ?_
      refine o_getf (j := 2) dX4_home_33 rfl hcX3 inX3 (Nat.le_of_ble_eq_true rfl) wd144 rfl rfl ?_
      refine o_iload_n dX4_home_36 rfl rfl ?_
      refine o_callSr (is := [12]) (at_p (b := 51) (s := 3) (n := 7) (by decide) (by omega)) ⟨rfl, rfl⟩ dX4_home_37 wd237 csX4_at rfl ⟨(Nat.le_of_ble_eq_true rfl), (Nat.le_of_ble_eq_true rfl)⟩ rfl rfl rfl (Nat.le_of_ble_eq_true rfl) (Nat.le_of_ble_eq_true rfl) (Nat.le_of_ble_eq_true rfl) ?_
      refine o_callV (is := [0, 1, 2, 3, 4, 5, 6, 7, 8, 9, 10, 11, 12, 13, 14, 15, 16, 17, 18, 19, 20, 21, 22, 23, 24, 25, 26, 27, 28, 29, 30, 31, 32, 33, 34, 35, 36, 37, 38, 39, 40, 41, 42, 43]) (tX4_firstHourIn hS hd) ⟨rfl, rfl⟩ dX4_home_40 wd454 cvX4_firstHourIn rfl ⟨(Nat.le_of_ble_eq_true rfl), (Nat.le_of_ble_eq_true rfl)⟩ hcX4 rfl rfl rfl rfl (Nat.le_of_ble_eq_true rfl) (Nat.le_of_ble_eq_true rfl) (Nat.le_of_ble_eq_true rfl) (fun ra wb hq hqn => ?_)
      obtain ⟨rfl, m2, mw2, mf2, rfl⟩ := hq
      refine o_eqw (w2 := xW r (wsO r) (fsO r) m2 mw2 mf2 im (wsO im) (fsO im) lt rw rf ga hi (nI L) (nI R)) (pb_seg 0 (Nat.le_of_ble_eq_true rfl) rfl rfl rfl) ?_
      refine o_iret dX4_home_43 rfl (vp_nar_int _) (Nat.le_of_ble_eq_true rfl) (Nat.le_of_ble_eq_true rfl) ?_
      exact CP.mk (by simp only [s_home, if_neg c_2, hin, if_true, ec])
    · have hno := bI_0.mp c_18
      refine o_aload_n dX4_home_21 rfl rfl ?_
      refine o_iconst dX4_home_22 ic_m1 ?_
      refine o_callVd (w2 := xW r (wsO r) (fsO r) m mw mf im (wsO im) (fsO im) lt rw (rfu rf 1) ga hi (nI L) (nI R)) (is := [0, 1, 2, 3, 4, 5, 6, 7, 8, 9, 10, 11, 12, 13, 14, 15, 16, 17, 18, 19, 20, 21, 22, 23, 24, 25, 26, 27, 28, 29, 30, 31, 32, 33, 34, 35, 36, 37, 38, 39, 40, 41, 42, 43]) (tX4_refused (c := 1) rfl (by decide)) ⟨rfl, rfl⟩ dX4_home_23 wd233 cvX4_refused rfl ⟨(Nat.le_of_ble_eq_true rfl), (Nat.le_of_ble_eq_true rfl)⟩ hcX4 rfl rfl rfl rfl (Nat.le_of_ble_eq_true rfl) (Nat.le_of_ble_eq_true rfl) (Nat.le_of_ble_eq_true rfl) (pb_seg 0 (Nat.le_of_ble_eq_true rfl) rfl rfl rfl) ?_
      refine o_iret dX4_home_26 rfl (vp_nar_int _) (Nat.le_of_ble_eq_true rfl) (Nat.le_of_ble_eq_true rfl) ?_
      exact CP.mk (by simp only [s_home, if_neg c_2, hno]; rfl)
  · skip
    refine o_aload_n dX4_home_5 rfl rfl ?_
    refine o_callV (is := [0, 1, 2, 3, 4, 5, 6, 7, 8, 9, 10, 11, 12, 13, 14, 15, 16, 17, 18, 19, 20, 21, 22, 23, 24, 25, 26, 27, 28, 29, 30, 31, 32, 33, 34, 35, 36, 37, 38, 39, 40, 41, 42, 43]) (tX4_firstHourAllHome hS) ⟨rfl, rfl⟩ dX4_home_6 wd462 cvX4_firstHourAllHome rfl ⟨(Nat.le_of_ble_eq_true rfl), (Nat.le_of_ble_eq_true rfl)⟩ hcX4 rfl rfl rfl rfl (Nat.le_of_ble_eq_true rfl) (Nat.le_of_ble_eq_true rfl) (Nat.le_of_ble_eq_true rfl) (fun ra wb hq hqn => ?_)
    obtain ⟨rfl, m2, mw2, mf2, rfl⟩ := hq
    refine o_eqw (w2 := xW r (wsO r) (fsO r) m2 mw2 mf2 im (wsO im) (fsO im) lt rw rf ga hi (nI L) (nI R)) (pb_seg 0 (Nat.le_of_ble_eq_true rfl) rfl rfl rfl) ?_
    refine o_iret dX4_home_9 rfl (vp_nar_int _) (Nat.le_of_ble_eq_true rfl) (Nat.le_of_ble_eq_true rfl) ?_
    exact CP.mk (by simp only [s_home, if_pos c_2])
theorem lX4_shutIn {r m mw mf im lt rw rf ga : Nat → Int32} {hi : Int32} {L R : Nat} (hS : SOk r) : ∀ (q k : Nat), nN r - k < q → k ≤ nN r → Ok mX4_shutIn none 4 [some (.ref 0), some (.int (siS r (farOf r) k)), some (.int (nI k))] [] (xW r (wsO r) (fsO r) m mw mf im (wsO im) (fsO im) lt rw rf ga hi (nI L) (nI R)) 0 0 (CP (s_shutIn (r, im, hi, lt, L, rw, R, rf))) := by
  intro q
  induction q with
  | zero => intro k hq hk; omega
  | succ q ih =>
  intro k hq hk
  have h6 := hS.n6
  refine o_iload_n dX4_shutIn_4 rfl rfl ?_
  refine o_aload_n dX4_shutIn_5 rfl rfl ?_
  refine o_getf (j := 0) dX4_shutIn_6 rfl hcX4 inX4 (Nat.le_of_ble_eq_true rfl) wd204 rfl rfl ?_
  refine o_getf (j := 4) dX4_shutIn_9 rfl hcX3 inX3 (Nat.le_of_ble_eq_true rfl) wd150 rfl rfl ?_
  refine o_eqs (by rw [hS.e1]) ?_
  refine o_icmp_ge (tgt := 65) dX4_shutIn_12 (by decide) (fun c_12 => ?_) (fun c_12 => ?_)
  · have hkN : k = nN r := Nat.le_antisymm hk (geI (by omega) (by omega) c_12)
    subst hkN
    refine o_iload_n dX4_shutIn_65 rfl rfl ?_
    refine o_iret dX4_shutIn_66 rfl (vp_nar_int _) (Nat.le_of_ble_eq_true rfl) (Nat.le_of_ble_eq_true rfl) ?_
    exact CP.mk (rfl)
  · have hkN : k < nN r := ltI (by omega) (by omega) c_12
    obtain ⟨t1, t2⟩ := hS.T.2.2.2.2.1 k hkN
    refine o_aload_n dX4_shutIn_15 rfl rfl ?_
    refine o_getf (j := 0) dX4_shutIn_16 rfl hcX4 inX4 (Nat.le_of_ble_eq_true rfl) wd204 rfl rfl ?_
    refine o_getf (j := 0) dX4_shutIn_19 rfl hcX3 inX3 (Nat.le_of_ble_eq_true rfl) wd138 rfl rfl ?_
    refine o_aload_n dX4_shutIn_22 rfl rfl ?_
    refine o_getf (j := 0) dX4_shutIn_23 rfl hcX4 inX4 (Nat.le_of_ble_eq_true rfl) wd204 rfl rfl ?_
    refine o_getf (j := 1) dX4_shutIn_26 rfl hcX3 inX3 (Nat.le_of_ble_eq_true rfl) wd141 rfl rfl ?_
    refine o_iload_n dX4_shutIn_29 rfl rfl ?_
    refine o_callSr (is := [11]) (at_p (b := 50) (s := 3) (n := 7) (by decide) (by omega)) ⟨rfl, rfl⟩ dX4_shutIn_30 wd237 csX4_at rfl ⟨(Nat.le_of_ble_eq_true rfl), (Nat.le_of_ble_eq_true rfl)⟩ rfl rfl rfl (Nat.le_of_ble_eq_true rfl) (Nat.le_of_ble_eq_true rfl) (Nat.le_of_ble_eq_true rfl) ?_
    refine o_aload_n dX4_shutIn_33 rfl rfl ?_
    refine o_getf (j := 0) dX4_shutIn_34 rfl hcX4 inX4 (Nat.le_of_ble_eq_true rfl) wd204 rfl rfl ?_
    refine o_getf (j := 2) dX4_shutIn_37 rfl hcX3 inX3 (Nat.le_of_ble_eq_true rfl) wd144 rfl rfl ?_
    refine o_iload_n dX4_shutIn_40 rfl rfl ?_
    refine o_callSr (is := [12]) (at_p (b := 51) (s := 3) (n := 7) (by decide) (by omega)) ⟨rfl, rfl⟩ dX4_shutIn_41 wd237 csX4_at rfl ⟨(Nat.le_of_ble_eq_true rfl), (Nat.le_of_ble_eq_true rfl)⟩ rfl rfl rfl (Nat.le_of_ble_eq_true rfl) (Nat.le_of_ble_eq_true rfl) (Nat.le_of_ble_eq_true rfl) ?_
    refine o_callVr (is := [3, 4, 5, 6, 7, 8, 9, 10]) (xway t1 t2) ⟨rfl, rfl⟩ dX4_shutIn_44 wd470 cvX0_wayBetween rfl ⟨(Nat.le_of_ble_eq_true rfl), (Nat.le_of_ble_eq_true rfl)⟩ hcX0 rfl rfl rfl rfl (Nat.le_of_ble_eq_true rfl) (Nat.le_of_ble_eq_true rfl) (Nat.le_of_ble_eq_true rfl) ?_
    refine o_sipush dX4_shutIn_47 sp_1000 ?_
    refine o_icmp_ne (tgt := 59) dX4_shutIn_50 (by decide) (fun c_50 => ?_) (fun c_50 => ?_)
    · have q9 : ¬ 99 ≤ farOf r (8 * cN (r (50 + 3 * k)) + cN (r (51 + 3 * k))) := fun z => c_50 ((wy_1000 hS t1.cN.1 t2.cN.1).mpr z)
      refine o_inc_2 dX4_shutIn_59 rfl ic_1 (Nat.le_of_ble_eq_true rfl) ?_
      refine o_goto (tgt := 4) dX4_shutIn_62 (by decide) ?_
      exact o_eqa (by rw [nI_1, siS, if_neg q9, Int32.or_zero]) rfl (ih (k + 1) (by omega) (by omega))
    · have q9 : 99 ≤ farOf r (8 * cN (r (50 + 3 * k)) + cN (r (51 + 3 * k))) := (wy_1000 hS t1.cN.1 t2.cN.1).mp c_50
      refine o_iload_n dX4_shutIn_53 rfl rfl ?_
      refine o_iconst dX4_shutIn_54 ic_1 ?_
      refine o_iload_n dX4_shutIn_55 rfl rfl ?_
      refine o_ishl dX4_shutIn_56 ?_
      refine o_ior dX4_shutIn_57 ?_
      refine o_istn_1 dX4_shutIn_58 rfl rfl (Nat.le_of_ble_eq_true rfl) ?_
      refine o_inc_2 dX4_shutIn_59 rfl ic_1 (Nat.le_of_ble_eq_true rfl) ?_
      refine o_goto (tgt := 4) dX4_shutIn_62 (by decide) ?_
      exact o_eqa (by rw [nI_1, siS, if_pos q9]) rfl (ih (k + 1) (by omega) (by omega))
theorem tX4_shutIn {r m mw mf im lt rw rf ga : Nat → Int32} {hi : Int32} {L R : Nat} (hS : SOk r) : PM mX4_shutIn [.ref 0] (xW r (wsO r) (fsO r) m mw mf im (wsO im) (fsO im) lt rw rf ga hi (nI L) (nI R)) (CP (s_shutIn (r, im, hi, lt, L, rw, R, rf))) := by
  refine PM.ofp 2 (by decide) (Nat.le_of_ble_eq_true rfl) ?_
  show Ok mX4_shutIn none 0 [some (.ref 0), none, none] [] (xW r (wsO r) (fsO r) m mw mf im (wsO im) (fsO im) lt rw rf ga hi (nI L) (nI R)) 0 0 _
  refine o_iconst dX4_shutIn_0 ic_0 ?_
  refine o_istn_1 dX4_shutIn_1 rfl rfl (Nat.le_of_ble_eq_true rfl) ?_
  refine o_iconst dX4_shutIn_2 ic_0 ?_
  refine o_istn_2 dX4_shutIn_3 rfl rfl (Nat.le_of_ble_eq_true rfl) ?_
  exact o_eqa (by rw [nI_0]; rfl) rfl (lX4_shutIn hS (nN r + 1) 0 (by omega) (by omega))
