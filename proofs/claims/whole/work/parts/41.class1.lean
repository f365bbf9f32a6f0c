theorem rdN_congr {fa fb fa2 fb2 g : Nat → Nat} : ∀ k, (∀ d, d < k → fa d = fa2 d ∧ fb d = fb2 d) → rdN fa fb g k = rdN fa2 fb2 g k ∧ rdB fa fb g k = rdB fa2 fb2 g k
  | 0, _ => ⟨rfl, rfl⟩
  | k + 1, h => by
    obtain ⟨h1, h2⟩ := rdN_congr (g := g) k (fun d hd => h d (by omega))
    obtain ⟨h3, h4⟩ := h k (by omega)
    rw [rdN, rdN, rdB, rdB, h1, h2, h3, h4]
    exact ⟨rfl, rfl⟩
theorem bfN_congr {fa fb fa2 fb2 : Nat → Nat} {D : Nat} (h : ∀ d, d < D → fa d = fa2 d ∧ fb d = fb2 d) : ∀ q g, bfN fa fb D q g = bfN fa2 fb2 D q g
  | 0, g => rfl
  | q + 1, g => by
    obtain ⟨h1, h2⟩ := rdN_congr (g := g) D h
    rw [bfN, bfN, h1, h2, bfN_congr h q]
theorem wyT_congr {fa fb fa2 fb2 : Nat → Nat} {D : Nat} (h : ∀ d, d < D → fa d = fa2 d ∧ fb d = fb2 d) : wyT fa fb D = wyT fa2 fb2 D := bfN_congr h 7 _
theorem ffS_congr {g fa fb fa2 fb2 : Nat → Nat} {D : Nat} (h : ∀ d, d < D → fa d = fa2 d ∧ fb d = fb2 d) : ∀ i, i ≤ D * 8 → ffS g fa fb i = ffS g fa2 fb2 i
  | 0, _ => rfl
  | i + 1, hi => by
    obtain ⟨h1, h2⟩ := h (i / 8) (by omega)
    rw [ffS, ffS, ffS_congr h i (by omega), h1, h2]
theorem fsT_congr {fa fb fa2 fb2 : Nat → Nat} {D : Nat} (h : ∀ d, d < D → fa d = fa2 d ∧ fb d = fb2 d) : fsT fa fb D = fsT fa2 fb2 D := by
  unfold fsT; rw [wyT_congr h, ffS_congr h _ (Nat.le_refl _)]
theorem feN_congr {fa fb fa2 fb2 : Nat → Nat} : ∀ D, (∀ d, d < D → fa d = fa2 d ∧ fb d = fb2 d) → feN fa fb D = feN fa2 fb2 D
  | 0, _ => rfl
  | D + 1, h => by
    obtain ⟨h1, h2⟩ := h D (by omega)
    rw [feN, feN, feN_congr D (fun d hd => h d (by omega)), h1, h2]
theorem frT_congr {fa fb fa2 fb2 : Nat → Nat} {D : Nat} (h : ∀ d, d < D → fa d = fa2 d ∧ fb d = fb2 d) : frT fa fb D = frT fa2 fb2 D := by
  unfold frT; rw [feN_congr D h]
/-- the same doors -/
def SD (r r2 : Nat → Int32) : Prop := r2 0 = r 0 ∧ ∀ d, d < dN r → r2 (7 + 5 * d) = r (7 + 5 * d) ∧ r2 (8 + 5 * d) = r (8 + 5 * d)
theorem SD.all {r r2 : Nat → Int32} (h : SD r r2) : wsO r2 = wsO r ∧ fsO r2 = fsO r ∧ farOf r2 = farOf r := by
  have e0 : dN r2 = dN r := by unfold dN; rw [h.1]
  have e : ∀ d, d < dN r → fA r2 d = fA r d ∧ fB r2 d = fB r d := fun d hd => by
    unfold fA fB; rw [(h.2 d hd).1, (h.2 d hd).2]; exact ⟨rfl, rfl⟩
  unfold wsO fsO farOf
  rw [e0, wyT_congr e, fsT_congr e, frT_congr e]
  exact ⟨rfl, rfl, rfl⟩
theorem SD.ws {r r2 : Nat → Int32} (h : SD r r2) : wsO r = wsO r2 := h.all.1.symm
theorem SD.fs {r r2 : Nat → Int32} (h : SD r r2) : fsO r = fsO r2 := h.all.2.1.symm
theorem SD.up {r : Nat → Int32} (hS : SOk r) {i : Nat} {v : Int32} (h : 50 ≤ i ∨ i = 2 ∨ i = 3 ∨ ∃ d, i = 5 + 5 * d ∨ i = 6 + 5 * d ∨ i = 9 + 5 * d) : SD r (upd r i v) := by
  have h9 := hS.d9
  have e : ∀ d, d < dN r → i ≠ 7 + 5 * d ∧ i ≠ 8 + 5 * d ∧ i ≠ 0 := fun d hd => by
    rcases h with h | h | h | ⟨e, h⟩ <;> omega
  refine ⟨upd_ne ?_, fun d hd => ⟨upd_ne (by have := e d hd; omega), upd_ne (by have := e d hd; omega)⟩⟩
  rcases h with h | h | h | ⟨e, h⟩ <;> omega
theorem SD.trans {r r2 r3 : Nat → Int32} (h : SD r r2) (h2 : SD r2 r3) : SD r r3 := by
  have e0 : dN r2 = dN r := by unfold dN; rw [h.1]
  exact ⟨h2.1.trans h.1, fun d hd => ⟨(h2.2 d (by omega)).1.trans (h.2 d hd).1, (h2.2 d (by omega)).2.trans (h.2 d hd).2⟩⟩
theorem SD.hrs {r : Nat → Int32} (hS : SOk r) (n : Nat) : SD r (hrs r n) := by
  have h9 := hS.d9
  have h6 := hS.n6
  exact ⟨hoursM_ne (by omega) (by omega) (fun p hp => by omega) n, fun d hd => ⟨hoursM_ne (by omega) (by omega) (fun p hp => by omega) n, hoursM_ne (by omega) (by omega) (fun p hp => by omega) n⟩⟩
abbrev xW (r ws fs m mw mf im iw jf lt rw rf ga : Nat → Int32) (hi lm rn : Int32) : PW := [.inr (4, [.ref 2, .ref 14, .ref 32, .int hi, .ref 29, .ref 27, .ref 1, .ref 26]), .inl (7, rf), .inr (3, [.ref 3, .ref 11, .ref 12, .ref 13, .int (r 1), .int (r 2), .int (r 3)]), .inr (0, [.ref 4, .ref 5, .ref 6, .ref 7, .ref 8, .ref 9, .ref 10, .int (r 0)]), .inl (9, kdO r), .inl (9, fgO r), .inl (9, frO r), .inl (9, inO r), .inl (9, wdO r), .inl (64, ws), .inl (64, fs), .inl (7, rmO r), .inl (7, glO r), .inl (7, mdO r), .inr (3, [.ref 15, .ref 23, .ref 24, .ref 25, .int (m 1), .int (m 2), .int (m 3)]), .inr (0, [.ref 16, .ref 17, .ref 18, .ref 19, .ref 20, .ref 21, .ref 22, .int (m 0)]), .inl (9, kdO m), .inl (9, fgO m), .inl (9, frO m), .inl (9, inO m), .inl (9, wdO m), .inl (64, mw), .inl (64, mf), .inl (7, rmO m), .inl (7, glO m), .inl (7, mdO m), .inl (8, ga), .inr (2, [.ref 28, .int rn]), .inl (16, rw), .inr (1, [.ref 30]), .inr (2, [.ref 31, .int lm]), .inl (96, lt), .inr (3, [.ref 33, .ref 41, .ref 42, .ref 43, .int (im 1), .int (im 2), .int (im 3)]), .inr (0, [.ref 34, .ref 35, .ref 36, .ref 37, .ref 38, .ref 39, .ref 40, .int (im 0)]), .inl (9, kdO im), .inl (9, fgO im), .inl (9, frO im), .inl (9, inO im), .inl (9, wdO im), .inl (64, iw), .inl (64, jf), .inl (7, rmO im), .inl (7, glO im), .inl (7, mdO im)]
def X44 : List Nat := [0, 1, 2, 3, 4, 5, 6, 7, 8, 9, 10, 11, 12, 13, 14, 15, 16, 17, 18, 19, 20, 21, 22, 23, 24, 25, 26, 27, 28, 29, 30, 31, 32, 33, 34, 35, 36, 37, 38, 39, 40, 41, 42, 43]
theorem pb_seg {w wc w2 : PW} {is : List Nat} (a : Nat) (hk : a + wc.length ≤ w.length) (hi : is.take wc.length = List.range' a wc.length) (hnd : va_nd (is.take wc.length) = true) (h : w.take a ++ (wc.map (re is) ++ w.drop (a + wc.length)) = w2) : pb w is wc = w2 := by
  rw [← h]
  have hj : ∀ j, j < wc.length → is[j]? = some (a + j) := fun j hj => by
    have h1 : (is.take wc.length)[j]? = some (a + j) := by rw [hi, List.getElem?_range' hj, Nat.one_mul]
    rwa [List.getElem?_take, if_pos hj] at h1
  apply List.ext_getElem?
  intro i
  by_cases h1 : i < a
  · rw [List.getElem?_append_left (by rw [List.length_take]; omega), List.getElem?_take, if_pos h1]
    exact pbk_out (re is) is wc w i (fun j hj2 e => by rw [hj j hj2] at e; have := Option.some.inj e; omega)
  · have e0 : (w.take a).length = a := by rw [List.length_take]; omega
    rw [List.getElem?_append_right (by omega), e0]
    by_cases h2 : i < a + wc.length
    · have hx : i - a < wc.length := by omega
      rw [List.getElem?_append_left (by rw [List.length_map]; omega), List.getElem?_map, List.getElem?_eq_getElem hx]
      exact pbk_in (re is) is wc w i (i - a) _ hnd (by rw [hj _ hx]; congr 1; omega) (List.getElem?_eq_getElem hx) (by omega)
    · rw [List.getElem?_append_right (by rw [List.length_map]; omega), List.length_map, List.getElem?_drop, show a + wc.length + (i - a - wc.length) = i by omega]
      exact pbk_out (re is) is wc w i (fun j hj2 e => by rw [hj j hj2] at e; have := Option.some.inj e; omega)
def CP (res : Res) : Option Value → PW → Prop := fun a w => ∃ (m mw mf ga : Nat → Int32), a = res.1 ∧ w = xW res.2.1 (wsO res.2.1) (fsO res.2.1) m mw mf res.2.2.1 (wsO res.2.2.1) (fsO res.2.2.1) res.2.2.2.2.1 res.2.2.2.2.2.2.1 res.2.2.2.2.2.2.2.2 ga res.2.2.2.1 (nI res.2.2.2.2.2.1) (nI res.2.2.2.2.2.2.2.1)
theorem CP.mk {res : Res} {a : Option Value} {r im lt rw rf ws fs m mw mf iw jf ga : Nat → Int32} {hi : Int32} {L R : Nat} (h : res = (a, (r, im, hi, lt, L, rw, R, rf))) (h1 : ws = wsO r := by rfl) (h2 : fs = fsO r := by rfl) (h3 : iw = wsO im := by rfl) (h4 : jf = fsO im := by rfl) : CP res a (xW r ws fs m mw mf im iw jf lt rw rf ga hi (nI L) (nI R)) := by
  subst h; subst h1; subst h2; subst h3; subst h4
  exact ⟨m, mw, mf, ga, rfl, rfl⟩
theorem tX4_refused {rf : Nat → Int32} {hi x : Int32} {c : Nat} (hx : -x = nI c) (hc : c < 7) : PD mX4_refused [.ref 0, .int x] ([.inr (4, [.ref 2, .ref 14, .ref 32, .int hi, .ref 29, .ref 27, .ref 1, .ref 26]), .inl (7, rf)]) (some (.int x)) ([.inr (4, [.ref 2, .ref 14, .ref 32, .int hi, .ref 29, .ref 27, .ref 1, .ref 26]), .inl (7, rfu rf c)]) := by
  refine PM.ofp 0 (by decide) (Nat.le_of_ble_eq_true rfl) ?_
  show Ok mX4_refused none 0 [some (.ref 0), some (.int x)] [] ([.inr (4, [.ref 2, .ref 14, .ref 32, .int hi, .ref 29, .ref 27, .ref 1, .ref 26]), .inl (7, rf)]) 0 0 _
  refine o_aload_n dX4_refused_0 rfl rfl ?_
  refine o_getf (j := 6) dX4_refused_1 rfl hcX4 inX4 (Nat.le_of_ble_eq_true rfl) wd210 rfl rfl ?_
  refine o_iload_n dX4_refused_4 rfl rfl ?_
  refine o_ineg dX4_refused_5 ?_
  refine o_aload_n dX4_refused_6 rfl rfl ?_
  refine o_getf (j := 6) dX4_refused_7 rfl hcX4 inX4 (Nat.le_of_ble_eq_true rfl) wd210 rfl rfl ?_
  refine o_iload_n dX4_refused_10 rfl rfl ?_
  refine o_ineg dX4_refused_11 ?_
  refine o_callSr (is := [1]) (at_f (by decide) hx hc) ⟨rfl, rfl⟩ dX4_refused_12 wd237 csX4_at rfl ⟨(Nat.le_of_ble_eq_true rfl), (Nat.le_of_ble_eq_true rfl)⟩ rfl rfl rfl (Nat.le_of_ble_eq_true rfl) (Nat.le_of_ble_eq_true rfl) (Nat.le_of_ble_eq_true rfl) ?_
  refine o_iconst dX4_refused_15 ic_1 ?_
  refine o_iadd dX4_refused_16 ?_
  refine o_callSd (is := [1]) (put_f (by decide) hx hc) ⟨rfl, rfl⟩ dX4_refused_17 wd238 csX4_put rfl ⟨(Nat.le_of_ble_eq_true rfl), (Nat.le_of_ble_eq_true rfl)⟩ rfl rfl rfl (Nat.le_of_ble_eq_true rfl) (Nat.le_of_ble_eq_true rfl) (Nat.le_of_ble_eq_true rfl) rfl ?_
  refine o_iload_n dX4_refused_20 rfl rfl ?_
  refine o_iret dX4_refused_21 rfl (vp_nar_int _) (Nat.le_of_ble_eq_true rfl) (Nat.le_of_ble_eq_true rfl) ?_
  exact ⟨rfl, rfl⟩
theorem tX4_refusedLong {rf : Nat → Int32} {hi x : Int32} {c : Nat} (hx : -x = nI c) (hc : c < 7) : PD mX4_refusedLong [.ref 0, .int x] ([.inr (4, [.ref 2, .ref 14, .ref 32, .int hi, .ref 29, .ref 27, .ref 1, .ref 26]), .inl (7, rf)]) (some (.long (4000000000000000000 - x.toInt64))) ([.inr (4, [.ref 2, .ref 14, .ref 32, .int hi, .ref 29, .ref 27, .ref 1, .ref 26]), .inl (7, rfu rf c)]) := by
  refine PM.ofp 0 (by decide) (Nat.le_of_ble_eq_true rfl) ?_
  show Ok mX4_refusedLong none 0 [some (.ref 0), some (.int x)] [] ([.inr (4, [.ref 2, .ref 14, .ref 32, .int hi, .ref 29, .ref 27, .ref 1, .ref 26]), .inl (7, rf)]) 0 0 _
  refine o_ldc2 dX4_refusedLong_0 wd600 ?_
  refine o_aload_n dX4_refusedLong_3 rfl rfl ?_
  refine o_iload_n dX4_refusedLong_4 rfl rfl ?_
  refine o_callVd (is := [0, 1, 2, 3, 4, 5, 6, 7, 8, 9, 10, 11, 12, 13, 14, 15, 16, 17, 18, 19, 20, 21, 22, 23, 24, 25, 26, 27, 28, 29, 30, 31, 32, 33, 34, 35, 36, 37, 38, 39, 40, 41, 42, 43]) (tX4_refused hx hc) ⟨rfl, rfl⟩ dX4_refusedLong_5 wd233 cvX4_refused rfl ⟨(Nat.le_of_ble_eq_true rfl), (Nat.le_of_ble_eq_true rfl)⟩ hcX4 rfl rfl rfl rfl (Nat.le_of_ble_eq_true rfl) (Nat.le_of_ble_eq_true rfl) (Nat.le_of_ble_eq_true rfl) rfl ?_
  refine o_i2l dX4_refusedLong_8 ?_
  refine o_lsub dX4_refusedLong_9 ?_
  refine o_lret dX4_refusedLong_10 rfl (Nat.le_of_ble_eq_true rfl) (Nat.le_of_ble_eq_true rfl) ?_
  exact ⟨rfl, rfl⟩
theorem rfn_lo {rf : Nat → Int32} {hi x : Int32} (h : x < 0) : PD mX4_refusedNumber [.ref 0, .int x] ([.inr (4, [.ref 2, .ref 14, .ref 32, .int hi, .ref 29, .ref 27, .ref 1, .ref 26]), .inl (7, rf)]) (some (.int (-4))) ([.inr (4, [.ref 2, .ref 14, .ref 32, .int hi, .ref 29, .ref 27, .ref 1, .ref 26]), .inl (7, rfu rf 4)]) := by
  refine PM.ofp 0 (by decide) (Nat.le_of_ble_eq_true rfl) ?_
  show Ok mX4_refusedNumber none 0 [some (.ref 0), some (.int x)] [] ([.inr (4, [.ref 2, .ref 14, .ref 32, .int hi, .ref 29, .ref 27, .ref 1, .ref 26]), .inl (7, rf)]) 0 0 _
  refine o_aload_n dX4_refusedNumber_0 rfl rfl ?_
  refine o_iload_n dX4_refusedNumber_1 rfl rfl ?_
  refine o_if_ge (tgt := 10) dX4_refusedNumber_2 (by decide) (fun c_2 => ?_) (fun c_2 => ?_)
  · exact absurd h (Int32.not_lt.mpr c_2)
  · skip
    refine o_bipush dX4_refusedNumber_5 bp_m4 ?_
    refine o_goto (tgt := 12) dX4_refusedNumber_7 (by decide) ?_
    refine o_callVd (is := [0, 1, 2, 3, 4, 5, 6, 7, 8, 9, 10, 11, 12, 13, 14, 15, 16, 17, 18, 19, 20, 21, 22, 23, 24, 25, 26, 27, 28, 29, 30, 31, 32, 33, 34, 35, 36, 37, 38, 39, 40, 41, 42, 43]) (tX4_refused (c := 4) rfl (by decide)) ⟨rfl, rfl⟩ dX4_refusedNumber_12 wd233 cvX4_refused rfl ⟨(Nat.le_of_ble_eq_true rfl), (Nat.le_of_ble_eq_true rfl)⟩ hcX4 rfl rfl rfl rfl (Nat.le_of_ble_eq_true rfl) (Nat.le_of_ble_eq_true rfl) (Nat.le_of_ble_eq_true rfl) rfl ?_
    refine o_iret dX4_refusedNumber_15 rfl (vp_nar_int _) (Nat.le_of_ble_eq_true rfl) (Nat.le_of_ble_eq_true rfl) ?_
    exact ⟨rfl, rfl⟩
theorem rfn_hi {rf : Nat → Int32} {hi x : Int32} (h : ¬ x < 0) : PD mX4_refusedNumber [.ref 0, .int x] ([.inr (4, [.ref 2, .ref 14, .ref 32, .int hi, .ref 29, .ref 27, .ref 1, .ref 26]), .inl (7, rf)]) (some (.int (-6))) ([.inr (4, [.ref 2, .ref 14, .ref 32, .int hi, .ref 29, .ref 27, .ref 1, .ref 26]), .inl (7, rfu rf 6)]) := by
  refine PM.ofp 0 (by decide) (Nat.le_of_ble_eq_true rfl) ?_
  show Ok mX4_refusedNumber none 0 [some (.ref 0), some (.int x)] [] ([.inr (4, [.ref 2, .ref 14, .ref 32, .int hi, .ref 29, .ref 27, .ref 1, .ref 26]), .inl (7, rf)]) 0 0 _
  refine o_aload_n dX4_refusedNumber_0 rfl rfl ?_
  refine o_iload_n dX4_refusedNumber_1 rfl rfl ?_
  refine o_if_ge (tgt := 10) dX4_refusedNumber_2 (by decide) (fun c_2 => ?_) (fun c_2 => ?_)
  · skip
    refine o_bipush dX4_refusedNumber_10 bp_m6 ?_
    refine o_callVd (is := [0, 1, 2, 3, 4, 5, 6, 7, 8, 9, 10, 11, 12, 13, 14, 15, 16, 17, 18, 19, 20, 21, 22, 23, 24, 25, 26, 27, 28, 29, 30, 31, 32, 33, 34, 35, 36, 37, 38, 39, 40, 41, 42, 43]) (tX4_refused (c := 6) rfl (by decide)) ⟨rfl, rfl⟩ dX4_refusedNumber_12 wd233 cvX4_refused rfl ⟨(Nat.le_of_ble_eq_true rfl), (Nat.le_of_ble_eq_true rfl)⟩ hcX4 rfl rfl rfl rfl (Nat.le_of_ble_eq_true rfl) (Nat.le_of_ble_eq_true rfl) (Nat.le_of_ble_eq_true rfl) rfl ?_
    refine o_iret dX4_refusedNumber_15 rfl (vp_nar_int _) (Nat.le_of_ble_eq_true rfl) (Nat.le_of_ble_eq_true rfl) ?_
    exact ⟨rfl, rfl⟩
  · exact absurd (Int32.not_le.mp c_2) h
theorem xhas {r ws fs : Nat → Int32} {x : Int32} (hS : SOk r) : PD mX3_has [.ref 0, .int x] (tW r ws fs) (some (.int (bI (inR (nN r) x)))) (tW r ws fs) := tX3_has.mono (by rw [hS.e1]; rfl)
theorem dhas {r ws fs : Nat → Int32} {x : Int32} (hS : SOk r) : PD mX0_has [.ref 0, .int x] (dW r ws fs) (some (.int (bI (inR (dN r) x)))) (dW r ws fs) := tX0_has.mono (by rw [hS.e0]; rfl)
theorem sw_inR {x : Int32} {hi : Int} {D : Nat} (h : x.toInt < 0 ∨ hi < x.toInt) (hh : hi + 1 = (D : Int)) (hD : D < 1000) : inR D x = false := by
  cases hc : inR D x with
  | false => rfl
  | true =>
    obtain ⟨d, hd, rfl⟩ := inR_yes (by omega) hc
    rw [nI_toInt (by omega)] at h
    omega
theorem tX4_letter {r m mw mf im lt rw rf ga : Nat → Int32} {hi : Int32} {L R : Nat} (hS : SOk r) (hL : L ≤ 96) {c : Int32} : PM mX4_letter [.ref 0, .int c] (xW r (wsO r) (fsO r) m mw mf im (wsO im) (fsO im) lt rw rf ga hi (nI L) (nI R)) (CP (s_letter c (r, im, hi, lt, L, rw, R, rf))) := by
  refine PM.ofp 0 (by decide) (Nat.le_of_ble_eq_true rfl) ?_
  show Ok mX4_letter none 0 [some (.ref 0), some (.int c)] [] (xW r (wsO r) (fsO r) m mw mf im (wsO im) (fsO im) lt rw rf ga hi (nI L) (nI R)) 0 0 _
  refine o_iload_n dX4_letter_0 rfl rfl ?_
  refine o_if_ge (tgt := 11) dX4_letter_1 (by decide) (fun c_1 => ?_) (fun c_1 => ?_)
  · have q1 : ¬ c < 0 := Int32.not_lt.mpr c_1
    refine o_iload_n dX4_letter_11 rfl rfl ?_
    refine o_sipush dX4_letter_12 sp_255 ?_
    refine o_icmp_gt (tgt := 31) dX4_letter_15 (by decide) (fun c_15 => ?_) (fun c_15 => ?_)
    · skip
      refine o_aload_n dX4_letter_31 rfl rfl ?_
      refine o_bipush dX4_letter_32 bp_m6 ?_
      refine o_callVd (w2 := xW r (wsO r) (fsO r) m mw mf im (wsO im) (fsO im) lt rw (rfu rf 6) ga hi (nI L) (nI R)) (is := [0, 1, 2, 3, 4, 5, 6, 7, 8, 9, 10, 11, 12, 13, 14, 15, 16, 17, 18, 19, 20, 21, 22, 23, 24, 25, 26, 27, 28, 29, 30, 31, 32, 33, 34, 35, 36, 37, 38, 39, 40, 41, 42, 43]) (tX4_refused (c := 6) rfl (by decide)) ⟨rfl, rfl⟩ dX4_letter_34 wd233 cvX4_refused rfl ⟨(Nat.le_of_ble_eq_true rfl), (Nat.le_of_ble_eq_true rfl)⟩ hcX4 rfl rfl rfl rfl (Nat.le_of_ble_eq_true rfl) (Nat.le_of_ble_eq_true rfl) (Nat.le_of_ble_eq_true rfl) (pb_seg 0 (Nat.le_of_ble_eq_true rfl) rfl rfl rfl) ?_
      refine o_iret dX4_letter_37 rfl (vp_nar_int _) (Nat.le_of_ble_eq_true rfl) (Nat.le_of_ble_eq_true rfl) ?_
      exact CP.mk (by simp only [s_letter, if_neg q1, c_15, true_or, if_true]; rfl)
    · skip
      refine o_aload_n dX4_letter_18 rfl rfl ?_
      refine o_getf (j := 4) dX4_letter_19 rfl hcX4 inX4 (Nat.le_of_ble_eq_true rfl) wd208 rfl rfl ?_
      refine o_getf (j := 0) dX4_letter_22 rfl hcX1 inX1 (Nat.le_of_ble_eq_true rfl) wd198 rfl rfl ?_
      refine o_callVr (is := [30, 31]) (tX2_isFull (by decide) (by omega)) ⟨rfl, rfl⟩ dX4_letter_25 wd239 cvX2_isFull rfl ⟨(Nat.le_of_ble_eq_true rfl), (Nat.le_of_ble_eq_true rfl)⟩ hcX2 rfl rfl rfl rfl (Nat.le_of_ble_eq_true rfl) (Nat.le_of_ble_eq_true rfl) (Nat.le_of_ble_eq_true rfl) ?_
      refine o_if_eq (tgt := 38) dX4_letter_28 (by decide) (fun c_28 => ?_) (fun c_28 => ?_)
      · have q3 : ¬ L = 96 := fun e => absurd (bI_0.mp c_28) (by rw [e]; decide)
        refine o_aload_n dX4_letter_38 rfl rfl ?_
        refine o_getf (j := 4) dX4_letter_39 rfl hcX4 inX4 (Nat.le_of_ble_eq_true rfl) wd208 rfl rfl ?_
        refine o_getf (j := 0) dX4_letter_42 rfl hcX1 inX1 (Nat.le_of_ble_eq_true rfl) wd198 rfl rfl ?_
        refine o_iload_n dX4_letter_45 rfl rfl ?_
        refine o_callVd (w2 := xW r (wsO r) (fsO r) m mw mf im (wsO im) (fsO im) (upd lt L c) rw rf ga hi (nI (L + 1)) (nI R)) (is := [30, 31]) (tX2_add (by decide) (by omega)) ⟨rfl, rfl⟩ dX4_letter_46 wd243 cvX2_add rfl ⟨(Nat.le_of_ble_eq_true rfl), (Nat.le_of_ble_eq_true rfl)⟩ hcX2 rfl rfl rfl rfl (Nat.le_of_ble_eq_true rfl) (Nat.le_of_ble_eq_true rfl) (Nat.le_of_ble_eq_true rfl) rfl ?_
        refine o_iret dX4_letter_49 rfl (vp_nar_int _) (Nat.le_of_ble_eq_true rfl) (Nat.le_of_ble_eq_true rfl) ?_
        exact CP.mk (by simp only [s_letter, if_neg q1, c_15, q3, or_self, if_false])
      · have q3 : L = 96 := Nat.le_antisymm hL (of_decide_eq_true (bI_ne c_28))
        refine o_aload_n dX4_letter_31 rfl rfl ?_
        refine o_bipush dX4_letter_32 bp_m6 ?_
        refine o_callVd (w2 := xW r (wsO r) (fsO r) m mw mf im (wsO im) (fsO im) lt rw (rfu rf 6) ga hi (nI L) (nI R)) (is := [0, 1, 2, 3, 4, 5, 6, 7, 8, 9, 10, 11, 12, 13, 14, 15, 16, 17, 18, 19, 20, 21, 22, 23, 24, 25, 26, 27, 28, 29, 30, 31, 32, 33, 34, 35, 36, 37, 38, 39, 40, 41, 42, 43]) (tX4_refused (c := 6) rfl (by decide)) ⟨rfl, rfl⟩ dX4_letter_34 wd233 cvX4_refused rfl ⟨(Nat.le_of_ble_eq_true rfl), (Nat.le_of_ble_eq_true rfl)⟩ hcX4 rfl rfl rfl rfl (Nat.le_of_ble_eq_true rfl) (Nat.le_of_ble_eq_true rfl) (Nat.le_of_ble_eq_true rfl) (pb_seg 0 (Nat.le_of_ble_eq_true rfl) rfl rfl rfl) ?_
        refine o_iret dX4_letter_37 rfl (vp_nar_int _) (Nat.le_of_ble_eq_true rfl) (Nat.le_of_ble_eq_true rfl) ?_
        exact CP.mk (by simp only [s_letter, if_neg q1, q3, or_true, if_true]; rfl)
  · have q1 : c < 0 := Int32.not_le.mp c_1
    refine o_aload_n dX4_letter_4 rfl rfl ?_
    refine o_bipush dX4_letter_5 bp_m4 ?_
    refine o_callVd (w2 := xW r (wsO r) (fsO r) m mw mf im (wsO im) (fsO im) lt rw (rfu rf 4) ga hi (nI L) (nI R)) (is := [0, 1, 2, 3, 4, 5, 6, 7, 8, 9, 10, 11, 12, 13, 14, 15, 16, 17, 18, 19, 20, 21, 22, 23, 24, 25, 26, 27, 28, 29, 30, 31, 32, 33, 34, 35, 36, 37, 38, 39, 40, 41, 42, 43]) (tX4_refused (c := 4) rfl (by decide)) ⟨rfl, rfl⟩ dX4_letter_7 wd233 cvX4_refused rfl ⟨(Nat.le_of_ble_eq_true rfl), (Nat.le_of_ble_eq_true rfl)⟩ hcX4 rfl rfl rfl rfl (Nat.le_of_ble_eq_true rfl) (Nat.le_of_ble_eq_true rfl) (Nat.le_of_ble_eq_true rfl) (pb_seg 0 (Nat.le_of_ble_eq_true rfl) rfl rfl rfl) ?_
    refine o_iret dX4_letter_10 rfl (vp_nar_int _) (Nat.le_of_ble_eq_true rfl) (Nat.le_of_ble_eq_true rfl) ?_
    exact CP.mk (by simp only [s_letter, if_pos q1]; rfl)
theorem tX4_door {r m mw mf im lt rw rf ga : Nat → Int32} {hi : Int32} {L R : Nat} (hS : SOk r) {x w : Int32} : PM mX4_door [.ref 0, .int x, .int w] (xW r (wsO r) (fsO r) m mw mf im (wsO im) (fsO im) lt rw rf ga hi (nI L) (nI R)) (CP (s_door x w (r, im, hi, lt, L, rw, R, rf))) := by
  refine PM.ofp 0 (by decide) (Nat.le_of_ble_eq_true rfl) ?_
  show Ok mX4_door none 0 [some (.ref 0), some (.int x), some (.int w)] [] (xW r (wsO r) (fsO r) m mw mf im (wsO im) (fsO im) lt rw rf ga hi (nI L) (nI R)) 0 0 _
  refine o_aload_n dX4_door_0 rfl rfl ?_
  refine o_getf (j := 0) dX4_door_1 rfl hcX4 inX4 (Nat.le_of_ble_eq_true rfl) wd204 rfl rfl ?_
  refine o_getf (j := 0) dX4_door_4 rfl hcX3 inX3 (Nat.le_of_ble_eq_true rfl) wd138 rfl rfl ?_
  refine o_iload_n dX4_door_7 rfl rfl ?_
  refine o_callVr (is := [3, 4, 5, 6, 7, 8, 9, 10]) (dhas hS) ⟨rfl, rfl⟩ dX4_door_8 wd379 cvX0_has rfl ⟨(Nat.le_of_ble_eq_true rfl), (Nat.le_of_ble_eq_true rfl)⟩ hcX0 rfl rfl rfl rfl (Nat.le_of_ble_eq_true rfl) (Nat.le_of_ble_eq_true rfl) (Nat.le_of_ble_eq_true rfl) ?_
  refine o_if_ne (tgt := 20) dX4_door_11 (by decide) (fun c_11 => ?_) (fun c_11 => ?_)
  · obtain ⟨d, hd, rfl⟩ := inR_yes (by have := hS.d9; omega) (bI_ne c_11)
    have h9 := hS.d9
    have hin := inR_nI (D := dN r) (by omega) hd
    have ec := cN_nI (d := d) (by omega)
    refine o_iload_n dX4_door_20 rfl rfl ?_
    refine o_sw (lo := 0) (hi := 4) 5 (by decide) (by decide) (by decide) (fun hsw => ?_) (fun j hj hsw => ?_)
    · refine o_tabOut (tgt := 131) dX4_door_21 hsw (by decide) ?_
      refine o_aload_n dX4_door_131 rfl rfl ?_
      refine o_bipush dX4_door_132 bp_m2 ?_
      refine o_callVd (w2 := xW r (wsO r) (fsO r) m mw mf im (wsO im) (fsO im) lt rw (rfu rf 2) ga hi (nI L) (nI R)) (is := [0, 1, 2, 3, 4, 5, 6, 7, 8, 9, 10, 11, 12, 13, 14, 15, 16, 17, 18, 19, 20, 21, 22, 23, 24, 25, 26, 27, 28, 29, 30, 31, 32, 33, 34, 35, 36, 37, 38, 39, 40, 41, 42, 43]) (tX4_refused (c := 2) rfl (by decide)) ⟨rfl, rfl⟩ dX4_door_134 wd233 cvX4_refused rfl ⟨(Nat.le_of_ble_eq_true rfl), (Nat.le_of_ble_eq_true rfl)⟩ hcX4 rfl rfl rfl rfl (Nat.le_of_ble_eq_true rfl) (Nat.le_of_ble_eq_true rfl) (Nat.le_of_ble_eq_true rfl) (pb_seg 0 (Nat.le_of_ble_eq_true rfl) rfl rfl rfl) ?_
      refine o_iret dX4_door_137 rfl (vp_nar_int _) (Nat.le_of_ble_eq_true rfl) (Nat.le_of_ble_eq_true rfl) ?_
      exact CP.mk (by simp only [s_door, hin, sw_inR (D := 5) hsw rfl (by omega), if_true]; rfl)
    · match j, hj, hsw with
      | 0, _, hsw =>
        refine o_tabInE (tgt := 56) (off := 35) dX4_door_21 hsw (by decide) (by decide) (by decide) (by decide) ?_
        have hsw := sw_eq (l := 0) hsw (by decide)
        refine o_aload_n dX4_door_56 rfl rfl ?_
        refine o_getf (j := 0) dX4_door_57 rfl hcX4 inX4 (Nat.le_of_ble_eq_true rfl) wd204 rfl rfl ?_
        refine o_getf (j := 0) dX4_door_60 rfl hcX3 inX3 (Nat.le_of_ble_eq_true rfl) wd138 rfl rfl ?_
        refine o_getf (j := 0) dX4_door_63 rfl hcX0 inX0 (Nat.le_of_ble_eq_true rfl) wd103 rfl rfl ?_
        refine o_iload_n dX4_door_66 rfl rfl ?_
        refine o_callSr (is := [4]) (at_p (b := 5) (s := 5) (n := 9) (by decide) (by omega)) ⟨rfl, rfl⟩ dX4_door_67 wd237 csX4_at rfl ⟨(Nat.le_of_ble_eq_true rfl), (Nat.le_of_ble_eq_true rfl)⟩ rfl rfl rfl (Nat.le_of_ble_eq_true rfl) (Nat.le_of_ble_eq_true rfl) (Nat.le_of_ble_eq_true rfl) ?_
        refine o_iret dX4_door_70 rfl (vp_nar_int _) (Nat.le_of_ble_eq_true rfl) (Nat.le_of_ble_eq_true rfl) ?_
        exact CP.mk (by subst hsw; rw [show r (5 + 5 * d) = r (5 + 5 * d + cN 0) by rw [show 5 + 5 * d + cN 0 = 5 + 5 * d from (by rw [show cN 0 = 0 from rfl]; omega)]]; simp only [s_door, hin, if_true, ec]; rfl)
      | 1, _, hsw =>
        refine o_tabInE (tgt := 71) (off := 50) dX4_door_21 hsw (by decide) (by decide) (by decide) (by decide) ?_
        have hsw := sw_eq (l := 1) hsw (by decide)
        refine o_aload_n dX4_door_71 rfl rfl ?_
        refine o_getf (j := 0) dX4_door_72 rfl hcX4 inX4 (Nat.le_of_ble_eq_true rfl) wd204 rfl rfl ?_
        refine o_getf (j := 0) dX4_door_75 rfl hcX3 inX3 (Nat.le_of_ble_eq_true rfl) wd138 rfl rfl ?_
        refine o_getf (j := 1) dX4_door_78 rfl hcX0 inX0 (Nat.le_of_ble_eq_true rfl) wd105 rfl rfl ?_
        refine o_iload_n dX4_door_81 rfl rfl ?_
        refine o_callSr (is := [5]) (at_p (b := 6) (s := 5) (n := 9) (by decide) (by omega)) ⟨rfl, rfl⟩ dX4_door_82 wd237 csX4_at rfl ⟨(Nat.le_of_ble_eq_true rfl), (Nat.le_of_ble_eq_true rfl)⟩ rfl rfl rfl (Nat.le_of_ble_eq_true rfl) (Nat.le_of_ble_eq_true rfl) (Nat.le_of_ble_eq_true rfl) ?_
        refine o_iret dX4_door_85 rfl (vp_nar_int _) (Nat.le_of_ble_eq_true rfl) (Nat.le_of_ble_eq_true rfl) ?_
        exact CP.mk (by subst hsw; rw [show r (6 + 5 * d) = r (5 + 5 * d + cN 1) by rw [show 5 + 5 * d + cN 1 = 6 + 5 * d from (by rw [show cN 1 = 1 from rfl]; omega)]]; simp only [s_door, hin, if_true, ec]; rfl)
      | 2, _, hsw =>
        refine o_tabInE (tgt := 86) (off := 65) dX4_door_21 hsw (by decide) (by decide) (by decide) (by decide) ?_
        have hsw := sw_eq (l := 2) hsw (by decide)
        refine o_aload_n dX4_door_86 rfl rfl ?_
        refine o_getf (j := 0) dX4_door_87 rfl hcX4 inX4 (Nat.le_of_ble_eq_true rfl) wd204 rfl rfl ?_
        refine o_getf (j := 0) dX4_door_90 rfl hcX3 inX3 (Nat.le_of_ble_eq_true rfl) wd138 rfl rfl ?_
        refine o_getf (j := 2) dX4_door_93 rfl hcX0 inX0 (Nat.le_of_ble_eq_true rfl) wd107 rfl rfl ?_
        refine o_iload_n dX4_door_96 rfl rfl ?_
        refine o_callSr (is := [6]) (at_p (b := 7) (s := 5) (n := 9) (by decide) (by omega)) ⟨rfl, rfl⟩ dX4_door_97 wd237 csX4_at rfl ⟨(Nat.le_of_ble_eq_true rfl), (Nat.le_of_ble_eq_true rfl)⟩ rfl rfl rfl (Nat.le_of_ble_eq_true rfl) (Nat.le_of_ble_eq_true rfl) (Nat.le_of_ble_eq_true rfl) ?_
        refine o_iret dX4_door_100 rfl (vp_nar_int _) (Nat.le_of_ble_eq_true rfl) (Nat.le_of_ble_eq_true rfl) ?_
        exact CP.mk (by subst hsw; rw [show r (7 + 5 * d) = r (5 + 5 * d + cN 2) by rw [show 5 + 5 * d + cN 2 = 7 + 5 * d from (by rw [show cN 2 = 2 from rfl]; omega)]]; simp only [s_door, hin, if_true, ec]; rfl)
      | 3, _, hsw =>
        refine o_tabInE (tgt := 101) (off := 80) dX4_door_21 hsw (by decide) (by decide) (by decide) (by decide) ?_
        have hsw := sw_eq (l := 3) hsw (by decide)
        refine o_aload_n dX4_door_101 rfl rfl ?_
        refine o_getf (j := 0) dX4_door_102 rfl hcX4 inX4 (Nat.le_of_ble_eq_true rfl) wd204 rfl rfl ?_
        refine o_getf (j := 0) dX4_door_105 rfl hcX3 inX3 (Nat.le_of_ble_eq_true rfl) wd138 rfl rfl ?_
        refine o_getf (j := 3) dX4_door_108 rfl hcX0 inX0 (Nat.le_of_ble_eq_true rfl) wd109 rfl rfl ?_
        refine o_iload_n dX4_door_111 rfl rfl ?_
        refine o_callSr (is := [7]) (at_p (b := 8) (s := 5) (n := 9) (by decide) (by omega)) ⟨rfl, rfl⟩ dX4_door_112 wd237 csX4_at rfl ⟨(Nat.le_of_ble_eq_true rfl), (Nat.le_of_ble_eq_true rfl)⟩ rfl rfl rfl (Nat.le_of_ble_eq_true rfl) (Nat.le_of_ble_eq_true rfl) (Nat.le_of_ble_eq_true rfl) ?_
        refine o_iret dX4_door_115 rfl (vp_nar_int _) (Nat.le_of_ble_eq_true rfl) (Nat.le_of_ble_eq_true rfl) ?_
        exact CP.mk (by subst hsw; rw [show r (8 + 5 * d) = r (5 + 5 * d + cN 3) by rw [show 5 + 5 * d + cN 3 = 8 + 5 * d from (by rw [show cN 3 = 3 from rfl]; omega)]]; simp only [s_door, hin, if_true, ec]; rfl)
      | 4, _, hsw =>
        refine o_tabInE (tgt := 116) (off := 95) dX4_door_21 hsw (by decide) (by decide) (by decide) (by decide) ?_
        have hsw := sw_eq (l := 4) hsw (by decide)
        refine o_aload_n dX4_door_116 rfl rfl ?_
        refine o_getf (j := 0) dX4_door_117 rfl hcX4 inX4 (Nat.le_of_ble_eq_true rfl) wd204 rfl rfl ?_
        refine o_getf (j := 0) dX4_door_120 rfl hcX3 inX3 (Nat.le_of_ble_eq_true rfl) wd138 rfl rfl ?_
        refine o_getf (j := 4) dX4_door_123 rfl hcX0 inX0 (Nat.le_of_ble_eq_true rfl) wd112 rfl rfl ?_
        refine o_iload_n dX4_door_126 rfl rfl ?_
        refine o_callSr (is := [8]) (at_p (b := 9) (s := 5) (n := 9) (by decide) (by omega)) ⟨rfl, rfl⟩ dX4_door_127 wd237 csX4_at rfl ⟨(Nat.le_of_ble_eq_true rfl), (Nat.le_of_ble_eq_true rfl)⟩ rfl rfl rfl (Nat.le_of_ble_eq_true rfl) (Nat.le_of_ble_eq_true rfl) (Nat.le_of_ble_eq_true rfl) ?_
        refine o_iret dX4_door_130 rfl (vp_nar_int _) (Nat.le_of_ble_eq_true rfl) (Nat.le_of_ble_eq_true rfl) ?_
        exact CP.mk (by subst hsw; rw [show r (9 + 5 * d) = r (5 + 5 * d + cN 4) by rw [show 5 + 5 * d + cN 4 = 9 + 5 * d from (by rw [show cN 4 = 4 from rfl]; omega)]]; simp only [s_door, hin, if_true, ec]; rfl)
      | j + 5, hj, _ => exact absurd hj (by omega)
  · have hno := bI_0.mp c_11
    refine o_aload_n dX4_door_14 rfl rfl ?_
    refine o_iconst dX4_door_15 ic_m1 ?_
    refine o_callVd (w2 := xW r (wsO r) (fsO r) m mw mf im (wsO im) (fsO im) lt rw (rfu rf 1) ga hi (nI L) (nI R)) (is := [0, 1, 2, 3, 4, 5, 6, 7, 8, 9, 10, 11, 12, 13, 14, 15, 16, 17, 18, 19, 20, 21, 22, 23, 24, 25, 26, 27, 28, 29, 30, 31, 32, 33, 34, 35, 36, 37, 38, 39, 40, 41, 42, 43]) (tX4_refused (c := 1) rfl (by decide)) ⟨rfl, rfl⟩ dX4_door_16 wd233 cvX4_refused rfl ⟨(Nat.le_of_ble_eq_true rfl), (Nat.le_of_ble_eq_true rfl)⟩ hcX4 rfl rfl rfl rfl (Nat.le_of_ble_eq_true rfl) (Nat.le_of_ble_eq_true rfl) (Nat.le_of_ble_eq_true rfl) (pb_seg 0 (Nat.le_of_ble_eq_true rfl) rfl rfl rfl) ?_
    refine o_iret dX4_door_19 rfl (vp_nar_int _) (Nat.le_of_ble_eq_true rfl) (Nat.le_of_ble_eq_true rfl) ?_
    exact CP.mk (by simp only [s_door, hno]; rfl)
theorem xdoor {r ws : Nat → Int32} {p : Nat} {h : Int32} (hS : SOk r) (hp : p < nN r) : PD mX3_doorFor [.ref 0, .int (nI p), .int h, .int 0] (tW r ws (fsO r)) (some (.int (doorM r (farOf r) (dN r) (nN r) p h))) (tW r ws (fsO r)) := (tX3_doorFor (fire := false) hS.T hp).mono (by rw [doorPM hS.R hS.on hp])
theorem tX4_person {r m mw mf im lt rw rf ga : Nat → Int32} {hi : Int32} {L R : Nat} (hS : SOk r) {x w : Int32} : PM mX4_person [.ref 0, .int x, .int w] (xW r (wsO r) (fsO r) m mw mf im (wsO im) (fsO im) lt rw rf ga hi (nI L) (nI R)) (CP (s_person x w (r, im, hi, lt, L, rw, R, rf))) := by
  refine PM.ofp 0 (by decide) (Nat.le_of_ble_eq_true rfl) ?_
  show Ok mX4_person none 0 [some (.ref 0), some (.int x), some (.int w)] [] (xW r (wsO r) (fsO r) m mw mf im (wsO im) (fsO im) lt rw rf ga hi (nI L) (nI R)) 0 0 _
  refine o_aload_n dX4_person_0 rfl rfl ?_
  refine o_getf (j := 0) dX4_person_1 rfl hcX4 inX4 (Nat.le_of_ble_eq_true rfl) wd204 rfl rfl ?_
  refine o_iload_n dX4_person_4 rfl rfl ?_
  refine o_callVr (is := [2, 3, 4, 5, 6, 7, 8, 9, 10, 11, 12, 13]) (xhas hS) ⟨rfl, rfl⟩ dX4_person_5 wd384 cvX3_has rfl ⟨(Nat.le_of_ble_eq_true rfl), (Nat.le_of_ble_eq_true rfl)⟩ hcX3 rfl rfl rfl rfl (Nat.le_of_ble_eq_true rfl) (Nat.le_of_ble_eq_true rfl) (Nat.le_of_ble_eq_true rfl) ?_
  refine o_if_ne (tgt := 17) dX4_person_8 (by decide) (fun c_8 => ?_) (fun c_8 => ?_)
  · obtain ⟨d, hd, rfl⟩ := inR_yes (by have := hS.n6; omega) (bI_ne c_8)
    have h9 := hS.n6
    have hin := inR_nI (D := nN r) (by omega) hd
    have ec := cN_nI (d := d) (by omega)
    refine o_iload_n dX4_person_17 rfl rfl ?_
    refine o_sw (lo := 0) (hi := 3) 4 (by decide) (by decide) (by decide) (fun hsw => ?_) (fun j hj hsw => ?_)
    · refine o_tabOut (tgt := 103) dX4_person_18 hsw (by decide) ?_
      refine o_aload_n dX4_person_103 rfl rfl ?_
      refine o_bipush dX4_person_104 bp_m2 ?_
      refine o_callVd (w2 := xW r (wsO r) (fsO r) m mw mf im (wsO im) (fsO im) lt rw (rfu rf 2) ga hi (nI L) (nI R)) (is := [0, 1, 2, 3, 4, 5, 6, 7, 8, 9, 10, 11, 12, 13, 14, 15, 16, 17, 18, 19, 20, 21, 22, 23, 24, 25, 26, 27, 28, 29, 30, 31, 32, 33, 34, 35, 36, 37, 38, 39, 40, 41, 42, 43]) (tX4_refused (c := 2) rfl (by decide)) ⟨rfl, rfl⟩ dX4_person_106 wd233 cvX4_refused rfl ⟨(Nat.le_of_ble_eq_true rfl), (Nat.le_of_ble_eq_true rfl)⟩ hcX4 rfl rfl rfl rfl (Nat.le_of_ble_eq_true rfl) (Nat.le_of_ble_eq_true rfl) (Nat.le_of_ble_eq_true rfl) (pb_seg 0 (Nat.le_of_ble_eq_true rfl) rfl rfl rfl) ?_
      refine o_iret dX4_person_109 rfl (vp_nar_int _) (Nat.le_of_ble_eq_true rfl) (Nat.le_of_ble_eq_true rfl) ?_
      exact CP.mk (by have h3 : inR 3 w = false := sw_inR (D := 3) (hi := 2) (by omega) rfl (by omega); simp only [s_person, hin, h3, if_true]; rw [if_neg (show ¬ w = 3 from fun e => by subst e; exact absurd hsw (by decide))]; rfl)
    · match j, hj, hsw with
      | 0, _, hsw =>
        refine o_tabInE (tgt := 48) (off := 30) dX4_person_18 hsw (by decide) (by decide) (by decide) (by decide) ?_
        have hsw := sw_eq (l := 0) hsw (by decide)
        refine o_aload_n dX4_person_48 rfl rfl ?_
        refine o_getf (j := 0) dX4_person_49 rfl hcX4 inX4 (Nat.le_of_ble_eq_true rfl) wd204 rfl rfl ?_
        refine o_getf (j := 1) dX4_person_52 rfl hcX3 inX3 (Nat.le_of_ble_eq_true rfl) wd141 rfl rfl ?_
        refine o_iload_n dX4_person_55 rfl rfl ?_
        refine o_callSr (is := [11]) (at_p (b := 50) (s := 3) (n := 7) (by decide) (by omega)) ⟨rfl, rfl⟩ dX4_person_56 wd237 csX4_at rfl ⟨(Nat.le_of_ble_eq_true rfl), (Nat.le_of_ble_eq_true rfl)⟩ rfl rfl rfl (Nat.le_of_ble_eq_true rfl) (Nat.le_of_ble_eq_true rfl) (Nat.le_of_ble_eq_true rfl) ?_
        refine o_iret dX4_person_59 rfl (vp_nar_int _) (Nat.le_of_ble_eq_true rfl) (Nat.le_of_ble_eq_true rfl) ?_
        exact CP.mk (by subst hsw; rw [show r (50 + 3 * d) = r (50 + 3 * d + cN 0) by rw [show 50 + 3 * d + cN 0 = 50 + 3 * d from (by rw [show cN 0 = 0 from rfl]; omega)]]; simp only [s_person, hin, if_true, ec]; rfl)
      | 1, _, hsw =>
        refine o_tabInE (tgt := 60) (off := 42) dX4_person_18 hsw (by decide) (by decide) (by decide) (by decide) ?_
        have hsw := sw_eq (l := 1) hsw (by decide)
        refine o_aload_n dX4_person_60 rfl rfl ?_
        refine o_getf (j := 0) dX4_person_61 rfl hcX4 inX4 (Nat.le_of_ble_eq_true rfl) wd204 rfl rfl ?_
        refine o_getf (j := 2) dX4_person_64 rfl hcX3 inX3 (Nat.le_of_ble_eq_true rfl) wd144 rfl rfl ?_
        refine o_iload_n dX4_person_67 rfl rfl ?_
        refine o_callSr (is := [12]) (at_p (b := 51) (s := 3) (n := 7) (by decide) (by omega)) ⟨rfl, rfl⟩ dX4_person_68 wd237 csX4_at rfl ⟨(Nat.le_of_ble_eq_true rfl), (Nat.le_of_ble_eq_true rfl)⟩ rfl rfl rfl (Nat.le_of_ble_eq_true rfl) (Nat.le_of_ble_eq_true rfl) (Nat.le_of_ble_eq_true rfl) ?_
        refine o_iret dX4_person_71 rfl (vp_nar_int _) (Nat.le_of_ble_eq_true rfl) (Nat.le_of_ble_eq_true rfl) ?_
        exact CP.mk (by subst hsw; rw [show r (51 + 3 * d) = r (50 + 3 * d + cN 1) by rw [show 50 + 3 * d + cN 1 = 51 + 3 * d from (by rw [show cN 1 = 1 from rfl]; omega)]]; simp only [s_person, hin, if_true, ec]; rfl)
      | 2, _, hsw =>
        refine o_tabInE (tgt := 72) (off := 54) dX4_person_18 hsw (by decide) (by decide) (by decide) (by decide) ?_
        have hsw := sw_eq (l := 2) hsw (by decide)
        refine o_aload_n dX4_person_72 rfl rfl ?_
        refine o_getf (j := 0) dX4_person_73 rfl hcX4 inX4 (Nat.le_of_ble_eq_true rfl) wd204 rfl rfl ?_
        refine o_getf (j := 3) dX4_person_76 rfl hcX3 inX3 (Nat.le_of_ble_eq_true rfl) wd147 rfl rfl ?_
        refine o_iload_n dX4_person_79 rfl rfl ?_
        refine o_callSr (is := [13]) (at_p (b := 52) (s := 3) (n := 7) (by decide) (by omega)) ⟨rfl, rfl⟩ dX4_person_80 wd237 csX4_at rfl ⟨(Nat.le_of_ble_eq_true rfl), (Nat.le_of_ble_eq_true rfl)⟩ rfl rfl rfl (Nat.le_of_ble_eq_true rfl) (Nat.le_of_ble_eq_true rfl) (Nat.le_of_ble_eq_true rfl) ?_
        refine o_iret dX4_person_83 rfl (vp_nar_int _) (Nat.le_of_ble_eq_true rfl) (Nat.le_of_ble_eq_true rfl) ?_
        exact CP.mk (by subst hsw; rw [show r (52 + 3 * d) = r (50 + 3 * d + cN 2) by rw [show 50 + 3 * d + cN 2 = 52 + 3 * d from (by rw [show cN 2 = 2 from rfl]; omega)]]; simp only [s_person, hin, if_true, ec]; rfl)
      | 3, _, hsw =>
        refine o_tabInE (tgt := 84) (off := 66) dX4_person_18 hsw (by decide) (by decide) (by decide) (by decide) ?_
        have hsw := sw_eq (l := 3) hsw (by decide)
        refine o_aload_n dX4_person_84 rfl rfl ?_
        refine o_getf (j := 0) dX4_person_85 rfl hcX4 inX4 (Nat.le_of_ble_eq_true rfl) wd204 rfl rfl ?_
        refine o_iload_n dX4_person_88 rfl rfl ?_
        refine o_aload_n dX4_person_89 rfl rfl ?_
        refine o_getf (j := 0) dX4_person_90 rfl hcX4 inX4 (Nat.le_of_ble_eq_true rfl) wd204 rfl rfl ?_
        refine o_getf (j := 5) dX4_person_93 rfl hcX3 inX3 (Nat.le_of_ble_eq_true rfl) wd152 rfl rfl ?_
        refine o_iconst dX4_person_96 ic_1 ?_
        refine o_iadd dX4_person_97 ?_
        refine o_iconst dX4_person_98 ic_0 ?_
        refine o_callVr (is := [2, 3, 4, 5, 6, 7, 8, 9, 10, 11, 12, 13]) (xdoor hS hd) ⟨rfl, rfl⟩ dX4_person_99 wd385 cvX3_doorFor rfl ⟨(Nat.le_of_ble_eq_true rfl), (Nat.le_of_ble_eq_true rfl)⟩ hcX3 rfl rfl rfl rfl (Nat.le_of_ble_eq_true rfl) (Nat.le_of_ble_eq_true rfl) (Nat.le_of_ble_eq_true rfl) ?_
        refine o_iret dX4_person_102 rfl (vp_nar_int _) (Nat.le_of_ble_eq_true rfl) (Nat.le_of_ble_eq_true rfl) ?_
        exact CP.mk (by subst hsw; simp only [s_person, hin, if_true, ec]; rfl)
      | j + 4, hj, _ => exact absurd hj (by omega)
  · have hno := bI_0.mp c_8
    refine o_aload_n dX4_person_11 rfl rfl ?_
    refine o_iconst dX4_person_12 ic_m1 ?_
    refine o_callVd (w2 := xW r (wsO r) (fsO r) m mw mf im (wsO im) (fsO im) lt rw (rfu rf 1) ga hi (nI L) (nI R)) (is := [0, 1, 2, 3, 4, 5, 6, 7, 8, 9, 10, 11, 12, 13, 14, 15, 16, 17, 18, 19, 20, 21, 22, 23, 24, 25, 26, 27, 28, 29, 30, 31, 32, 33, 34, 35, 36, 37, 38, 39, 40, 41, 42, 43]) (tX4_refused (c := 1) rfl (by decide)) ⟨rfl, rfl⟩ dX4_person_13 wd233 cvX4_refused rfl ⟨(Nat.le_of_ble_eq_true rfl), (Nat.le_of_ble_eq_true rfl)⟩ hcX4 rfl rfl rfl rfl (Nat.le_of_ble_eq_true rfl) (Nat.le_of_ble_eq_true rfl) (Nat.le_of_ble_eq_true rfl) (pb_seg 0 (Nat.le_of_ble_eq_true rfl) rfl rfl rfl) ?_
    refine o_iret dX4_person_16 rfl (vp_nar_int _) (Nat.le_of_ble_eq_true rfl) (Nat.le_of_ble_eq_true rfl) ?_
    exact CP.mk (by simp only [s_person, hno]; rfl)
theorem wx1 {x : Int32} (h : x = 0 ∨ x = 1) : 1 - x = x ^^^ 1 := by rcases h with h | h <;> rw [h] <;> decide
theorem tX4_wedges {r m mw mf im lt rw rf ga : Nat → Int32} {hi : Int32} {L R : Nat} (hS : SOk r) {x : Int32} : PM mX4_wedges [.ref 0, .int x] (xW r (wsO r) (fsO r) m mw mf im (wsO im) (fsO im) lt rw rf ga hi (nI L) (nI R)) (CP (s_wedges x (r, im, hi, lt, L, rw, R, rf))) := by
  refine PM.ofp 0 (by decide) (Nat.le_of_ble_eq_true rfl) ?_
  show Ok mX4_wedges none 0 [some (.ref 0), some (.int x)] [] (xW r (wsO r) (fsO r) m mw mf im (wsO im) (fsO im) lt rw rf ga hi (nI L) (nI R)) 0 0 _
  refine o_aload_n dX4_wedges_0 rfl rfl ?_
  refine o_getf (j := 0) dX4_wedges_1 rfl hcX4 inX4 (Nat.le_of_ble_eq_true rfl) wd204 rfl rfl ?_
  refine o_getf (j := 0) dX4_wedges_4 rfl hcX3 inX3 (Nat.le_of_ble_eq_true rfl) wd138 rfl rfl ?_
  refine o_iload_n dX4_wedges_7 rfl rfl ?_
  refine o_callVr (is := [3, 4, 5, 6, 7, 8, 9, 10]) (dhas hS) ⟨rfl, rfl⟩ dX4_wedges_8 wd379 cvX0_has rfl ⟨(Nat.le_of_ble_eq_true rfl), (Nat.le_of_ble_eq_true rfl)⟩ hcX0 rfl rfl rfl rfl (Nat.le_of_ble_eq_true rfl) (Nat.le_of_ble_eq_true rfl) (Nat.le_of_ble_eq_true rfl) ?_
  refine o_if_ne (tgt := 20) dX4_wedges_11 (by decide) (fun c_11 => ?_) (fun c_11 => ?_)
  · obtain ⟨d, hd, rfl⟩ := inR_yes (by have := hS.d9; omega) (bI_ne c_11)
    have h9 := hS.d9
    have hin := inR_nI (D := dN r) (by omega) hd
    have ec := cN_nI (d := d) (by omega)
    refine o_aload_n dX4_wedges_20 rfl rfl ?_
    refine o_getf (j := 0) dX4_wedges_21 rfl hcX4 inX4 (Nat.le_of_ble_eq_true rfl) wd204 rfl rfl ?_
    refine o_getf (j := 0) dX4_wedges_24 rfl hcX3 inX3 (Nat.le_of_ble_eq_true rfl) wd138 rfl rfl ?_
    refine o_iload_n dX4_wedges_27 rfl rfl ?_
    refine o_callVd (w2 := xW (upd r (9 + 5 * d) (1 - r (9 + 5 * d))) (wsO r) (fsO r) m mw mf im (wsO im) (fsO im) lt rw rf ga hi (nI L) (nI R)) (is := [2, 3, 4, 5, 6, 7, 8, 9, 10, 11, 12, 13]) (tt_wedge (by omega)) ⟨rfl, rfl⟩ dX4_wedges_28 wd390 cvX0_wedgeOrNot rfl ⟨(Nat.le_of_ble_eq_true rfl), (Nat.le_of_ble_eq_true rfl)⟩ hcX0 rfl rfl rfl rfl (Nat.le_of_ble_eq_true rfl) (Nat.le_of_ble_eq_true rfl) (Nat.le_of_ble_eq_true rfl) (pb_seg 2 (Nat.le_of_ble_eq_true rfl) rfl rfl rfl) ?_
    refine o_iret dX4_wedges_31 rfl (vp_nar_int _) (Nat.le_of_ble_eq_true rfl) (Nat.le_of_ble_eq_true rfl) ?_
    exact CP.mk (by simp only [s_wedges, hin, if_true, ec, stR, wx1 (hS.dd hd).2]) (SD.up hS (Or.inr (Or.inr (Or.inr ⟨d, Or.inr (Or.inr rfl)⟩)))).ws (SD.up hS (Or.inr (Or.inr (Or.inr ⟨d, Or.inr (Or.inr rfl)⟩)))).fs
  · have hno := bI_0.mp c_11
    refine o_aload_n dX4_wedges_14 rfl rfl ?_
    refine o_iconst dX4_wedges_15 ic_m1 ?_
    refine o_callVd (w2 := xW r (wsO r) (fsO r) m mw mf im (wsO im) (fsO im) lt rw (rfu rf 1) ga hi (nI L) (nI R)) (is := [0, 1, 2, 3, 4, 5, 6, 7, 8, 9, 10, 11, 12, 13, 14, 15, 16, 17, 18, 19, 20, 21, 22, 23, 24, 25, 26, 27, 28, 29, 30, 31, 32, 33, 34, 35, 36, 37, 38, 39, 40, 41, 42, 43]) (tX4_refused (c := 1) rfl (by decide)) ⟨rfl, rfl⟩ dX4_wedges_16 wd233 cvX4_refused rfl ⟨(Nat.le_of_ble_eq_true rfl), (Nat.le_of_ble_eq_true rfl)⟩ hcX4 rfl rfl rfl rfl (Nat.le_of_ble_eq_true rfl) (Nat.le_of_ble_eq_true rfl) (Nat.le_of_ble_eq_true rfl) (pb_seg 0 (Nat.le_of_ble_eq_true rfl) rfl rfl rfl) ?_
    refine o_iret dX4_wedges_19 rfl (vp_nar_int _) (Nat.le_of_ble_eq_true rfl) (Nat.le_of_ble_eq_true rfl) ?_
    exact CP.mk (by simp only [s_wedges, hno]; rfl)
theorem tX4_turns {r m mw mf im lt rw rf ga : Nat → Int32} {hi : Int32} {L R : Nat} (hS : SOk r) {x : Int32} : PM mX4_turns [.ref 0, .int x] (xW r (wsO r) (fsO r) m mw mf im (wsO im) (fsO im) lt rw rf ga hi (nI L) (nI R)) (CP (s_turns x (r, im, hi, lt, L, rw, R, rf))) := by
  refine PM.ofp 0 (by decide) (Nat.le_of_ble_eq_true rfl) ?_
  show Ok mX4_turns none 0 [some (.ref 0), some (.int x)] [] (xW r (wsO r) (fsO r) m mw mf im (wsO im) (fsO im) lt rw rf ga hi (nI L) (nI R)) 0 0 _
  refine o_aload_n dX4_turns_0 rfl rfl ?_
  refine o_getf (j := 0) dX4_turns_1 rfl hcX4 inX4 (Nat.le_of_ble_eq_true rfl) wd204 rfl rfl ?_
  refine o_getf (j := 0) dX4_turns_4 rfl hcX3 inX3 (Nat.le_of_ble_eq_true rfl) wd138 rfl rfl ?_
  refine o_iload_n dX4_turns_7 rfl rfl ?_
  refine o_callVr (is := [3, 4, 5, 6, 7, 8, 9, 10]) (dhas hS) ⟨rfl, rfl⟩ dX4_turns_8 wd379 cvX0_has rfl ⟨(Nat.le_of_ble_eq_true rfl), (Nat.le_of_ble_eq_true rfl)⟩ hcX0 rfl rfl rfl rfl (Nat.le_of_ble_eq_true rfl) (Nat.le_of_ble_eq_true rfl) (Nat.le_of_ble_eq_true rfl) ?_
  refine o_if_ne (tgt := 20) dX4_turns_11 (by decide) (fun c_11 => ?_) (fun c_11 => ?_)
  · obtain ⟨d, hd, rfl⟩ := inR_yes (by have := hS.d9; omega) (bI_ne c_11)
    have h9 := hS.d9
    have hin := inR_nI (D := dN r) (by omega) hd
    have ec := cN_nI (d := d) (by omega)
    refine o_aload_n dX4_turns_20 rfl rfl ?_
    refine o_getf (j := 0) dX4_turns_21 rfl hcX4 inX4 (Nat.le_of_ble_eq_true rfl) wd204 rfl rfl ?_
    refine o_getf (j := 0) dX4_turns_24 rfl hcX3 inX3 (Nat.le_of_ble_eq_true rfl) wd138 rfl rfl ?_
    refine o_iload_n dX4_turns_27 rfl rfl ?_
    refine o_callVd (w2 := xW (tnR r d) (wsO (tnR r d)) (fsO (tnR r d)) m mw mf im (wsO im) (fsO im) lt rw rf ga hi (nI L) (nI R)) (is := [2, 3, 4, 5, 6, 7, 8, 9, 10, 11, 12, 13]) (tt_turn (by omega) (hS.turn hd).T) ⟨rfl, rfl⟩ dX4_turns_28 wd395 cvX0_changeSides rfl ⟨(Nat.le_of_ble_eq_true rfl), (Nat.le_of_ble_eq_true rfl)⟩ hcX0 rfl rfl rfl rfl (Nat.le_of_ble_eq_true rfl) (Nat.le_of_ble_eq_true rfl) (Nat.le_of_ble_eq_true rfl) (pb_seg 2 (Nat.le_of_ble_eq_true rfl) rfl rfl rfl) ?_
    refine o_iret dX4_turns_31 rfl (vp_nar_int _) (Nat.le_of_ble_eq_true rfl) (Nat.le_of_ble_eq_true rfl) ?_
    exact CP.mk (by simp only [s_turns, hin, if_true, ec, stR])
  · have hno := bI_0.mp c_11
    refine o_aload_n dX4_turns_14 rfl rfl ?_
    refine o_iconst dX4_turns_15 ic_m1 ?_
    refine o_callVd (w2 := xW r (wsO r) (fsO r) m mw mf im (wsO im) (fsO im) lt rw (rfu rf 1) ga hi (nI L) (nI R)) (is := [0, 1, 2, 3, 4, 5, 6, 7, 8, 9, 10, 11, 12, 13, 14, 15, 16, 17, 18, 19, 20, 21, 22, 23, 24, 25, 26, 27, 28, 29, 30, 31, 32, 33, 34, 35, 36, 37, 38, 39, 40, 41, 42, 43]) (tX4_refused (c := 1) rfl (by decide)) ⟨rfl, rfl⟩ dX4_turns_16 wd233 cvX4_refused rfl ⟨(Nat.le_of_ble_eq_true rfl), (Nat.le_of_ble_eq_true rfl)⟩ hcX4 rfl rfl rfl rfl (Nat.le_of_ble_eq_true rfl) (Nat.le_of_ble_eq_true rfl) (Nat.le_of_ble_eq_true rfl) (pb_seg 0 (Nat.le_of_ble_eq_true rfl) rfl rfl rfl) ?_
    refine o_iret dX4_turns_19 rfl (vp_nar_int _) (Nat.le_of_ble_eq_true rfl) (Nat.le_of_ble_eq_true rfl) ?_
    exact CP.mk (by simp only [s_turns, hno]; rfl)
theorem tX4_stands {r m mw mf im lt rw rf ga : Nat → Int32} {hi : Int32} {L R : Nat} (hS : SOk r) {x y : Int32} : PM mX4_stands [.ref 0, .int x, .int y] (xW r (wsO r) (fsO r) m mw mf im (wsO im) (fsO im) lt rw rf ga hi (nI L) (nI R)) (CP (s_sets 50 x y (r, im, hi, lt, L, rw, R, rf))) := by
  refine PM.ofp 0 (by decide) (Nat.le_of_ble_eq_true rfl) ?_
  show Ok mX4_stands none 0 [some (.ref 0), some (.int x), some (.int y)] [] (xW r (wsO r) (fsO r) m mw mf im (wsO im) (fsO im) lt rw rf ga hi (nI L) (nI R)) 0 0 _
  refine o_aload_n dX4_stands_0 rfl rfl ?_
  refine o_getf (j := 0) dX4_stands_1 rfl hcX4 inX4 (Nat.le_of_ble_eq_true rfl) wd204 rfl rfl ?_
  refine o_iload_n dX4_stands_4 rfl rfl ?_
  refine o_callVr (is := [2, 3, 4, 5, 6, 7, 8, 9, 10, 11, 12, 13]) (xhas hS) ⟨rfl, rfl⟩ dX4_stands_5 wd384 cvX3_has rfl ⟨(Nat.le_of_ble_eq_true rfl), (Nat.le_of_ble_eq_true rfl)⟩ hcX3 rfl rfl rfl rfl (Nat.le_of_ble_eq_true rfl) (Nat.le_of_ble_eq_true rfl) (Nat.le_of_ble_eq_true rfl) ?_
  refine o_if_eq (tgt := 18) dX4_stands_8 (by decide) (fun c_8 => ?_) (fun c_8 => ?_)
  · have hno := bI_0.mp c_8
    refine o_aload_n dX4_stands_18 rfl rfl ?_
    refine o_iconst dX4_stands_19 ic_m1 ?_
    refine o_callVd (w2 := xW r (wsO r) (fsO r) m mw mf im (wsO im) (fsO im) lt rw (rfu rf 1) ga hi (nI L) (nI R)) (is := [0, 1, 2, 3, 4, 5, 6, 7, 8, 9, 10, 11, 12, 13, 14, 15, 16, 17, 18, 19, 20, 21, 22, 23, 24, 25, 26, 27, 28, 29, 30, 31, 32, 33, 34, 35, 36, 37, 38, 39, 40, 41, 42, 43]) (tX4_refused (c := 1) rfl (by decide)) ⟨rfl, rfl⟩ dX4_stands_20 wd233 cvX4_refused rfl ⟨(Nat.le_of_ble_eq_true rfl), (Nat.le_of_ble_eq_true rfl)⟩ hcX4 rfl rfl rfl rfl (Nat.le_of_ble_eq_true rfl) (Nat.le_of_ble_eq_true rfl) (Nat.le_of_ble_eq_true rfl) (pb_seg 0 (Nat.le_of_ble_eq_true rfl) rfl rfl rfl) ?_
    refine o_iret dX4_stands_23 rfl (vp_nar_int _) (Nat.le_of_ble_eq_true rfl) (Nat.le_of_ble_eq_true rfl) ?_
    exact CP.mk (by simp only [s_sets, hno, Bool.false_and]; rfl)
  · obtain ⟨d, hd, rfl⟩ := inR_yes (by have := hS.n6; omega) (bI_ne c_8)
    have h9 := hS.n6
    have hin := inR_nI (D := nN r) (by omega) hd
    have ec := cN_nI (d := d) (by omega)
    refine o_iload_n dX4_stands_11 rfl rfl ?_
    refine o_callSr (is := []) (tX4_isRoom) ⟨rfl, rfl⟩ dX4_stands_12 wd400 csX4_isRoom rfl ⟨(Nat.le_of_ble_eq_true rfl), (Nat.le_of_ble_eq_true rfl)⟩ rfl rfl rfl (Nat.le_of_ble_eq_true rfl) (Nat.le_of_ble_eq_true rfl) (Nat.le_of_ble_eq_true rfl) ?_
    refine o_if_ne (tgt := 24) dX4_stands_15 (by decide) (fun c_15 => ?_) (fun c_15 => ?_)
    · have hy : inR 8 y = true := bI_ne c_15
      refine o_aload_n dX4_stands_24 rfl rfl ?_
      refine o_getf (j := 0) dX4_stands_25 rfl hcX4 inX4 (Nat.le_of_ble_eq_true rfl) wd204 rfl rfl ?_
      refine o_getf (j := 1) dX4_stands_28 rfl hcX3 inX3 (Nat.le_of_ble_eq_true rfl) wd141 rfl rfl ?_
      refine o_iload_n dX4_stands_31 rfl rfl ?_
      refine o_iload_n dX4_stands_32 rfl rfl ?_
      refine o_callSd (w2 := xW (upd r (50 + 3 * d) y) (wsO r) (fsO r) m mw mf im (wsO im) (fsO im) lt rw rf ga hi (nI L) (nI R)) (is := [2, 3, 4, 5, 6, 7, 8, 9, 10, 11, 12, 13]) (texc_rm (by omega)) ⟨rfl, rfl⟩ dX4_stands_33 wd401 csX4_exchange rfl ⟨(Nat.le_of_ble_eq_true rfl), (Nat.le_of_ble_eq_true rfl)⟩ rfl rfl rfl (Nat.le_of_ble_eq_true rfl) (Nat.le_of_ble_eq_true rfl) (Nat.le_of_ble_eq_true rfl) (pb_seg 2 (Nat.le_of_ble_eq_true rfl) rfl rfl rfl) ?_
      refine o_iret dX4_stands_36 rfl (vp_nar_int _) (Nat.le_of_ble_eq_true rfl) (Nat.le_of_ble_eq_true rfl) ?_
      exact CP.mk (by simp only [s_sets, hin, hy, Bool.and_self, if_true, ec, stR]) (SD.up hS (Or.inl (by omega))).ws (SD.up hS (Or.inl (by omega))).fs
    · have hy : inR 8 y = false := bI_0.mp c_15
      refine o_aload_n dX4_stands_18 rfl rfl ?_
      refine o_iconst dX4_stands_19 ic_m1 ?_
      refine o_callVd (w2 := xW r (wsO r) (fsO r) m mw mf im (wsO im) (fsO im) lt rw (rfu rf 1) ga hi (nI L) (nI R)) (is := [0, 1, 2, 3, 4, 5, 6, 7, 8, 9, 10, 11, 12, 13, 14, 15, 16, 17, 18, 19, 20, 21, 22, 23, 24, 25, 26, 27, 28, 29, 30, 31, 32, 33, 34, 35, 36, 37, 38, 39, 40, 41, 42, 43]) (tX4_refused (c := 1) rfl (by decide)) ⟨rfl, rfl⟩ dX4_stands_20 wd233 cvX4_refused rfl ⟨(Nat.le_of_ble_eq_true rfl), (Nat.le_of_ble_eq_true rfl)⟩ hcX4 rfl rfl rfl rfl (Nat.le_of_ble_eq_true rfl) (Nat.le_of_ble_eq_true rfl) (Nat.le_of_ble_eq_true rfl) (pb_seg 0 (Nat.le_of_ble_eq_true rfl) rfl rfl rfl) ?_
      refine o_iret dX4_stands_23 rfl (vp_nar_int _) (Nat.le_of_ble_eq_true rfl) (Nat.le_of_ble_eq_true rfl) ?_
      exact CP.mk (by simp only [s_sets, hin, hy, Bool.and_false]; rfl)
theorem tX4_wants {r m mw mf im lt rw rf ga : Nat → Int32} {hi : Int32} {L R : Nat} (hS : SOk r) {x y : Int32} : PM mX4_wants [.ref 0, .int x, .int y] (xW r (wsO r) (fsO r) m mw mf im (wsO im) (fsO im) lt rw rf ga hi (nI L) (nI R)) (CP (s_sets 51 x y (r, im, hi, lt, L, rw, R, rf))) := by
  refine PM.ofp 0 (by decide) (Nat.le_of_ble_eq_true rfl) ?_
  show Ok mX4_wants none 0 [some (.ref 0), some (.int x), some (.int y)] [] (xW r (wsO r) (fsO r) m mw mf im (wsO im) (fsO im) lt rw rf ga hi (nI L) (nI R)) 0 0 _
  refine o_aload_n dX4_wants_0 rfl rfl ?_
  refine o_getf (j := 0) dX4_wants_1 rfl hcX4 inX4 (Nat.le_of_ble_eq_true rfl) wd204 rfl rfl ?_
  refine o_iload_n dX4_wants_4 rfl rfl ?_
  refine o_callVr (is := [2, 3, 4, 5, 6, 7, 8, 9, 10, 11, 12, 13]) (xhas hS) ⟨rfl, rfl⟩ dX4_wants_5 wd384 cvX3_has rfl ⟨(Nat.le_of_ble_eq_true rfl), (Nat.le_of_ble_eq_true rfl)⟩ hcX3 rfl rfl rfl rfl (Nat.le_of_ble_eq_true rfl) (Nat.le_of_ble_eq_true rfl) (Nat.le_of_ble_eq_true rfl) ?_
  refine o_if_eq (tgt := 18) dX4_wants_8 (by decide) (fun c_8 => ?_) (fun c_8 => ?_)
  · have hno := bI_0.mp c_8
    refine o_aload_n dX4_wants_18 rfl rfl ?_
    refine o_iconst dX4_wants_19 ic_m1 ?_
    refine o_callVd (w2 := xW r (wsO r) (fsO r) m mw mf im (wsO im) (fsO im) lt rw (rfu rf 1) ga hi (nI L) (nI R)) (is := [0, 1, 2, 3, 4, 5, 6, 7, 8, 9, 10, 11, 12, 13, 14, 15, 16, 17, 18, 19, 20, 21, 22, 23, 24, 25, 26, 27, 28, 29, 30, 31, 32, 33, 34, 35, 36, 37, 38, 39, 40, 41, 42, 43]) (tX4_refused (c := 1) rfl (by decide)) ⟨rfl, rfl⟩ dX4_wants_20 wd233 cvX4_refused rfl ⟨(Nat.le_of_ble_eq_true rfl), (Nat.le_of_ble_eq_true rfl)⟩ hcX4 rfl rfl rfl rfl (Nat.le_of_ble_eq_true rfl) (Nat.le_of_ble_eq_true rfl) (Nat.le_of_ble_eq_true rfl) (pb_seg 0 (Nat.le_of_ble_eq_true rfl) rfl rfl rfl) ?_
    refine o_iret dX4_wants_23 rfl (vp_nar_int _) (Nat.le_of_ble_eq_true rfl) (Nat.le_of_ble_eq_true rfl) ?_
    exact CP.mk (by simp only [s_sets, hno, Bool.false_and]; rfl)
  · obtain ⟨d, hd, rfl⟩ := inR_yes (by have := hS.n6; omega) (bI_ne c_8)
    have h9 := hS.n6
    have hin := inR_nI (D := nN r) (by omega) hd
    have ec := cN_nI (d := d) (by omega)
    refine o_iload_n dX4_wants_11 rfl rfl ?_
    refine o_callSr (is := []) (tX4_isRoom) ⟨rfl, rfl⟩ dX4_wants_12 wd400 csX4_isRoom rfl ⟨(Nat.le_of_ble_eq_true rfl), (Nat.le_of_ble_eq_true rfl)⟩ rfl rfl rfl (Nat.le_of_ble_eq_true rfl) (Nat.le_of_ble_eq_true rfl) (Nat.le_of_ble_eq_true rfl) ?_
    refine o_if_ne (tgt := 24) dX4_wants_15 (by decide) (fun c_15 => ?_) (fun c_15 => ?_)
    · have hy : inR 8 y = true := bI_ne c_15
      refine o_aload_n dX4_wants_24 rfl rfl ?_
      refine o_getf (j := 0) dX4_wants_25 rfl hcX4 inX4 (Nat.le_of_ble_eq_true rfl) wd204 rfl rfl ?_
      refine o_getf (j := 2) dX4_wants_28 rfl hcX3 inX3 (Nat.le_of_ble_eq_true rfl) wd144 rfl rfl ?_
      refine o_iload_n dX4_wants_31 rfl rfl ?_
      refine o_iload_n dX4_wants_32 rfl rfl ?_
      refine o_callSd (w2 := xW (upd r (51 + 3 * d) y) (wsO r) (fsO r) m mw mf im (wsO im) (fsO im) lt rw rf ga hi (nI L) (nI R)) (is := [2, 3, 4, 5, 6, 7, 8, 9, 10, 11, 12, 13]) (texc_gl (by omega)) ⟨rfl, rfl⟩ dX4_wants_33 wd401 csX4_exchange rfl ⟨(Nat.le_of_ble_eq_true rfl), (Nat.le_of_ble_eq_true rfl)⟩ rfl rfl rfl (Nat.le_of_ble_eq_true rfl) (Nat.le_of_ble_eq_true rfl) (Nat.le_of_ble_eq_true rfl) (pb_seg 2 (Nat.le_of_ble_eq_true rfl) rfl rfl rfl) ?_
      refine o_iret dX4_wants_36 rfl (vp_nar_int _) (Nat.le_of_ble_eq_true rfl) (Nat.le_of_ble_eq_true rfl) ?_
      exact CP.mk (by simp only [s_sets, hin, hy, Bool.and_self, if_true, ec, stR]) (SD.up hS (Or.inl (by omega))).ws (SD.up hS (Or.inl (by omega))).fs
    · have hy : inR 8 y = false := bI_0.mp c_15
      refine o_aload_n dX4_wants_18 rfl rfl ?_
      refine o_iconst dX4_wants_19 ic_m1 ?_
      refine o_callVd (w2 := xW r (wsO r) (fsO r) m mw mf im (wsO im) (fsO im) lt rw (rfu rf 1) ga hi (nI L) (nI R)) (is := [0, 1, 2, 3, 4, 5, 6, 7, 8, 9, 10, 11, 12, 13, 14, 15, 16, 17, 18, 19, 20, 21, 22, 23, 24, 25, 26, 27, 28, 29, 30, 31, 32, 33, 34, 35, 36, 37, 38, 39, 40, 41, 42, 43]) (tX4_refused (c := 1) rfl (by decide)) ⟨rfl, rfl⟩ dX4_wants_20 wd233 cvX4_refused rfl ⟨(Nat.le_of_ble_eq_true rfl), (Nat.le_of_ble_eq_true rfl)⟩ hcX4 rfl rfl rfl rfl (Nat.le_of_ble_eq_true rfl) (Nat.le_of_ble_eq_true rfl) (Nat.le_of_ble_eq_true rfl) (pb_seg 0 (Nat.le_of_ble_eq_true rfl) rfl rfl rfl) ?_
      refine o_iret dX4_wants_23 rfl (vp_nar_int _) (Nat.le_of_ble_eq_true rfl) (Nat.le_of_ble_eq_true rfl) ?_
      exact CP.mk (by simp only [s_sets, hin, hy, Bool.and_false]; rfl)
theorem tX4_moods {r m mw mf im lt rw rf ga : Nat → Int32} {hi : Int32} {L R : Nat} (hS : SOk r) {x v : Int32} : PM mX4_moods [.ref 0, .int x, .int v] (xW r (wsO r) (fsO r) m mw mf im (wsO im) (fsO im) lt rw rf ga hi (nI L) (nI R)) (CP (s_moods x v (r, im, hi, lt, L, rw, R, rf))) := by
  refine PM.ofp 0 (by decide) (Nat.le_of_ble_eq_true rfl) ?_
  show Ok mX4_moods none 0 [some (.ref 0), some (.int x), some (.int v)] [] (xW r (wsO r) (fsO r) m mw mf im (wsO im) (fsO im) lt rw rf ga hi (nI L) (nI R)) 0 0 _
  refine o_aload_n dX4_moods_0 rfl rfl ?_
  refine o_getf (j := 0) dX4_moods_1 rfl hcX4 inX4 (Nat.le_of_ble_eq_true rfl) wd204 rfl rfl ?_
  refine o_iload_n dX4_moods_4 rfl rfl ?_
  refine o_callVr (is := [2, 3, 4, 5, 6, 7, 8, 9, 10, 11, 12, 13]) (xhas hS) ⟨rfl, rfl⟩ dX4_moods_5 wd384 cvX3_has rfl ⟨(Nat.le_of_ble_eq_true rfl), (Nat.le_of_ble_eq_true rfl)⟩ hcX3 rfl rfl rfl rfl (Nat.le_of_ble_eq_true rfl) (Nat.le_of_ble_eq_true rfl) (Nat.le_of_ble_eq_true rfl) ?_
  refine o_if_ne (tgt := 17) dX4_moods_8 (by decide) (fun c_8 => ?_) (fun c_8 => ?_)
  · obtain ⟨d, hd, rfl⟩ := inR_yes (by have := hS.n6; omega) (bI_ne c_8)
    have h9 := hS.n6
    have hin := inR_nI (D := nN r) (by omega) hd
    have ec := cN_nI (d := d) (by omega)
    refine o_iload_n dX4_moods_17 rfl rfl ?_
    refine o_if_lt (tgt := 27) dX4_moods_18 (by decide) (fun c_18 => ?_) (fun c_18 => ?_)
    · skip
      refine o_aload_n dX4_moods_27 rfl rfl ?_
      refine o_iload_n dX4_moods_28 rfl rfl ?_
      refine o_callVd (w2 := xW r (wsO r) (fsO r) m mw mf im (wsO im) (fsO im) lt rw (rfu rf 4) ga hi (nI L) (nI R)) (is := [0, 1, 2, 3, 4, 5, 6, 7, 8, 9, 10, 11, 12, 13, 14, 15, 16, 17, 18, 19, 20, 21, 22, 23, 24, 25, 26, 27, 28, 29, 30, 31, 32, 33, 34, 35, 36, 37, 38, 39, 40, 41, 42, 43]) (rfn_lo c_18) ⟨rfl, rfl⟩ dX4_moods_29 wd412 cvX4_refusedNumber rfl ⟨(Nat.le_of_ble_eq_true rfl), (Nat.le_of_ble_eq_true rfl)⟩ hcX4 rfl rfl rfl rfl (Nat.le_of_ble_eq_true rfl) (Nat.le_of_ble_eq_true rfl) (Nat.le_of_ble_eq_true rfl) (pb_seg 0 (Nat.le_of_ble_eq_true rfl) rfl rfl rfl) ?_
      refine o_iret dX4_moods_32 rfl (vp_nar_int _) (Nat.le_of_ble_eq_true rfl) (Nat.le_of_ble_eq_true rfl) ?_
      exact CP.mk (by simp only [s_moods, hin, if_true, wrB, if_pos c_18]; rfl)
    · skip
      refine o_iload_n dX4_moods_21 rfl rfl ?_
      refine o_bipush dX4_moods_22 bp_9 ?_
      refine o_icmp_le (tgt := 33) dX4_moods_24 (by decide) (fun c_24 => ?_) (fun c_24 => ?_)
      · have q2 : ¬ nI 9 < v := Int32.not_lt.mpr c_24
        refine o_aload_n dX4_moods_33 rfl rfl ?_
        refine o_getf (j := 0) dX4_moods_34 rfl hcX4 inX4 (Nat.le_of_ble_eq_true rfl) wd204 rfl rfl ?_
        refine o_getf (j := 3) dX4_moods_37 rfl hcX3 inX3 (Nat.le_of_ble_eq_true rfl) wd147 rfl rfl ?_
        refine o_iload_n dX4_moods_40 rfl rfl ?_
        refine o_iload_n dX4_moods_41 rfl rfl ?_
        refine o_callSd (w2 := xW (upd r (52 + 3 * d) v) (wsO r) (fsO r) m mw mf im (wsO im) (fsO im) lt rw rf ga hi (nI L) (nI R)) (is := [2, 3, 4, 5, 6, 7, 8, 9, 10, 11, 12, 13]) (texc_md (by omega)) ⟨rfl, rfl⟩ dX4_moods_42 wd401 csX4_exchange rfl ⟨(Nat.le_of_ble_eq_true rfl), (Nat.le_of_ble_eq_true rfl)⟩ rfl rfl rfl (Nat.le_of_ble_eq_true rfl) (Nat.le_of_ble_eq_true rfl) (Nat.le_of_ble_eq_true rfl) (pb_seg 2 (Nat.le_of_ble_eq_true rfl) rfl rfl rfl) ?_
        refine o_iret dX4_moods_45 rfl (vp_nar_int _) (Nat.le_of_ble_eq_true rfl) (Nat.le_of_ble_eq_true rfl) ?_
        exact CP.mk (by simp only [s_moods, hin, if_true, wrB, if_neg c_18, if_neg q2, ec, stR]) (SD.up hS (Or.inl (by omega))).ws (SD.up hS (Or.inl (by omega))).fs
      · have q2 : nI 9 < v := Int32.not_le.mp c_24
        refine o_aload_n dX4_moods_27 rfl rfl ?_
        refine o_iload_n dX4_moods_28 rfl rfl ?_
        refine o_callVd (w2 := xW r (wsO r) (fsO r) m mw mf im (wsO im) (fsO im) lt rw (rfu rf 6) ga hi (nI L) (nI R)) (is := [0, 1, 2, 3, 4, 5, 6, 7, 8, 9, 10, 11, 12, 13, 14, 15, 16, 17, 18, 19, 20, 21, 22, 23, 24, 25, 26, 27, 28, 29, 30, 31, 32, 33, 34, 35, 36, 37, 38, 39, 40, 41, 42, 43]) (rfn_hi c_18) ⟨rfl, rfl⟩ dX4_moods_29 wd412 cvX4_refusedNumber rfl ⟨(Nat.le_of_ble_eq_true rfl), (Nat.le_of_ble_eq_true rfl)⟩ hcX4 rfl rfl rfl rfl (Nat.le_of_ble_eq_true rfl) (Nat.le_of_ble_eq_true rfl) (Nat.le_of_ble_eq_true rfl) (pb_seg 0 (Nat.le_of_ble_eq_true rfl) rfl rfl rfl) ?_
        refine o_iret dX4_moods_32 rfl (vp_nar_int _) (Nat.le_of_ble_eq_true rfl) (Nat.le_of_ble_eq_true rfl) ?_
        exact CP.mk (by simp only [s_moods, hin, if_true, wrB, if_neg c_18, if_pos q2]; rfl)
  · have hno := bI_0.mp c_8
    refine o_aload_n dX4_moods_11 rfl rfl ?_
    refine o_iconst dX4_moods_12 ic_m1 ?_
    refine o_callVd (w2 := xW r (wsO r) (fsO r) m mw mf im (wsO im) (fsO im) lt rw (rfu rf 1) ga hi (nI L) (nI R)) (is := [0, 1, 2, 3, 4, 5, 6, 7, 8, 9, 10, 11, 12, 13, 14, 15, 16, 17, 18, 19, 20, 21, 22, 23, 24, 25, 26, 27, 28, 29, 30, 31, 32, 33, 34, 35, 36, 37, 38, 39, 40, 41, 42, 43]) (tX4_refused (c := 1) rfl (by decide)) ⟨rfl, rfl⟩ dX4_moods_13 wd233 cvX4_refused rfl ⟨(Nat.le_of_ble_eq_true rfl), (Nat.le_of_ble_eq_true rfl)⟩ hcX4 rfl rfl rfl rfl (Nat.le_of_ble_eq_true rfl) (Nat.le_of_ble_eq_true rfl) (Nat.le_of_ble_eq_true rfl) (pb_seg 0 (Nat.le_of_ble_eq_true rfl) rfl rfl rfl) ?_
    refine o_iret dX4_moods_16 rfl (vp_nar_int _) (Nat.le_of_ble_eq_true rfl) (Nat.le_of_ble_eq_true rfl) ?_
    exact CP.mk (by simp only [s_moods, hno]; rfl)
theorem tX4_changes {r m mw mf im lt rw rf ga : Nat → Int32} {hi : Int32} {L R : Nat} (hS : SOk r) {x kk f : Int32} : PM mX4_changes [.ref 0, .int x, .int kk, .int f] (xW r (wsO r) (fsO r) m mw mf im (wsO im) (fsO im) lt rw rf ga hi (nI L) (nI R)) (CP (s_changes x kk f (r, im, hi, lt, L, rw, R, rf))) := by
  refine PM.ofp 0 (by decide) (Nat.le_of_ble_eq_true rfl) ?_
  show Ok mX4_changes none 0 [some (.ref 0), some (.int x), some (.int kk), some (.int f)] [] (xW r (wsO r) (fsO r) m mw mf im (wsO im) (fsO im) lt rw rf ga hi (nI L) (nI R)) 0 0 _
  refine o_aload_n dX4_changes_0 rfl rfl ?_
  refine o_getf (j := 0) dX4_changes_1 rfl hcX4 inX4 (Nat.le_of_ble_eq_true rfl) wd204 rfl rfl ?_
  refine o_getf (j := 0) dX4_changes_4 rfl hcX3 inX3 (Nat.le_of_ble_eq_true rfl) wd138 rfl rfl ?_
  refine o_iload_n dX4_changes_7 rfl rfl ?_
  refine o_callVr (is := [3, 4, 5, 6, 7, 8, 9, 10]) (dhas hS) ⟨rfl, rfl⟩ dX4_changes_8 wd379 cvX0_has rfl ⟨(Nat.le_of_ble_eq_true rfl), (Nat.le_of_ble_eq_true rfl)⟩ hcX0 rfl rfl rfl rfl (Nat.le_of_ble_eq_true rfl) (Nat.le_of_ble_eq_true rfl) (Nat.le_of_ble_eq_true rfl) ?_
  refine o_if_ne (tgt := 20) dX4_changes_11 (by decide) (fun c_11 => ?_) (fun c_11 => ?_)
  · obtain ⟨d, hd, rfl⟩ := inR_yes (by have := hS.d9; omega) (bI_ne c_11)
    have h9 := hS.d9
    have hin := inR_nI (D := dN r) (by omega) hd
    have ec := cN_nI (d := d) (by omega)
    refine o_iload_n dX4_changes_20 rfl rfl ?_
    refine o_if_lt (tgt := 30) dX4_changes_21 (by decide) (fun c_21 => ?_) (fun c_21 => ?_)
    · have hk : inR 6 kk = false := by rw [inR, decide_eq_true c_21]; rfl
      refine o_aload_n dX4_changes_30 rfl rfl ?_
      refine o_bipush dX4_changes_31 bp_m2 ?_
      refine o_callVd (w2 := xW r (wsO r) (fsO r) m mw mf im (wsO im) (fsO im) lt rw (rfu rf 2) ga hi (nI L) (nI R)) (is := [0, 1, 2, 3, 4, 5, 6, 7, 8, 9, 10, 11, 12, 13, 14, 15, 16, 17, 18, 19, 20, 21, 22, 23, 24, 25, 26, 27, 28, 29, 30, 31, 32, 33, 34, 35, 36, 37, 38, 39, 40, 41, 42, 43]) (tX4_refused (c := 2) rfl (by decide)) ⟨rfl, rfl⟩ dX4_changes_33 wd233 cvX4_refused rfl ⟨(Nat.le_of_ble_eq_true rfl), (Nat.le_of_ble_eq_true rfl)⟩ hcX4 rfl rfl rfl rfl (Nat.le_of_ble_eq_true rfl) (Nat.le_of_ble_eq_true rfl) (Nat.le_of_ble_eq_true rfl) (pb_seg 0 (Nat.le_of_ble_eq_true rfl) rfl rfl rfl) ?_
      refine o_iret dX4_changes_36 rfl (vp_nar_int _) (Nat.le_of_ble_eq_true rfl) (Nat.le_of_ble_eq_true rfl) ?_
      exact CP.mk (by simp only [s_changes, hin, if_true, hk]; rfl)
    · skip
      refine o_iload_n dX4_changes_24 rfl rfl ?_
      refine o_bipush dX4_changes_25 bp_6 ?_
      refine o_icmp_lt (tgt := 37) dX4_changes_27 (by decide) (fun c_27 => ?_) (fun c_27 => ?_)
      · have hk : inR 6 kk = true := by rw [inR, decide_eq_false c_21, decide_eq_false (show ¬ nI 6 ≤ kk from Int32.not_le.mpr c_27)]; rfl
        refine o_iload_n dX4_changes_37 rfl rfl ?_
        refine o_if_lt (tgt := 47) dX4_changes_38 (by decide) (fun c_38 => ?_) (fun c_38 => ?_)
        · skip
          refine o_aload_n dX4_changes_47 rfl rfl ?_
          refine o_iload_n dX4_changes_48 rfl rfl ?_
          refine o_callVd (w2 := xW r (wsO r) (fsO r) m mw mf im (wsO im) (fsO im) lt rw (rfu rf 4) ga hi (nI L) (nI R)) (is := [0, 1, 2, 3, 4, 5, 6, 7, 8, 9, 10, 11, 12, 13, 14, 15, 16, 17, 18, 19, 20, 21, 22, 23, 24, 25, 26, 27, 28, 29, 30, 31, 32, 33, 34, 35, 36, 37, 38, 39, 40, 41, 42, 43]) (rfn_lo c_38) ⟨rfl, rfl⟩ dX4_changes_49 wd412 cvX4_refusedNumber rfl ⟨(Nat.le_of_ble_eq_true rfl), (Nat.le_of_ble_eq_true rfl)⟩ hcX4 rfl rfl rfl rfl (Nat.le_of_ble_eq_true rfl) (Nat.le_of_ble_eq_true rfl) (Nat.le_of_ble_eq_true rfl) (pb_seg 0 (Nat.le_of_ble_eq_true rfl) rfl rfl rfl) ?_
          refine o_iret dX4_changes_52 rfl (vp_nar_int _) (Nat.le_of_ble_eq_true rfl) (Nat.le_of_ble_eq_true rfl) ?_
          exact CP.mk (by simp only [s_changes, hin, if_true, hk, wrB, if_pos c_38]; rfl)
        · skip
          refine o_iload_n dX4_changes_41 rfl rfl ?_
          refine o_bipush dX4_changes_42 bp_9 ?_
          refine o_icmp_le (tgt := 53) dX4_changes_44 (by decide) (fun c_44 => ?_) (fun c_44 => ?_)
          · have q2 : ¬ nI 9 < f := Int32.not_lt.mpr c_44
            refine o_bipush dX4_changes_53 bp_10 ?_
            refine o_aload_n dX4_changes_55 rfl rfl ?_
            refine o_getf (j := 0) dX4_changes_56 rfl hcX4 inX4 (Nat.le_of_ble_eq_true rfl) wd204 rfl rfl ?_
            refine o_getf (j := 0) dX4_changes_59 rfl hcX3 inX3 (Nat.le_of_ble_eq_true rfl) wd138 rfl rfl ?_
            refine o_getf (j := 0) dX4_changes_62 rfl hcX0 inX0 (Nat.le_of_ble_eq_true rfl) wd103 rfl rfl ?_
            refine o_iload_n dX4_changes_65 rfl rfl ?_
            refine o_iload_n dX4_changes_66 rfl rfl ?_
            refine o_callSd (w2 := xW (upd r (5 + 5 * d) kk) (wsO r) (fsO r) m mw mf im (wsO im) (fsO im) lt rw rf ga hi (nI L) (nI R)) (is := [2, 3, 4, 5, 6, 7, 8, 9, 10, 11, 12, 13]) (texc_kd (by omega)) ⟨rfl, rfl⟩ dX4_changes_67 wd401 csX4_exchange rfl ⟨(Nat.le_of_ble_eq_true rfl), (Nat.le_of_ble_eq_true rfl)⟩ rfl rfl rfl (Nat.le_of_ble_eq_true rfl) (Nat.le_of_ble_eq_true rfl) (Nat.le_of_ble_eq_true rfl) (pb_seg 2 (Nat.le_of_ble_eq_true rfl) rfl rfl rfl) ?_
            refine o_imul dX4_changes_70 ?_
            refine o_aload_n dX4_changes_71 rfl rfl ?_
            refine o_getf (j := 0) dX4_changes_72 rfl hcX4 inX4 (Nat.le_of_ble_eq_true rfl) wd204 rfl rfl ?_
            refine o_getf (j := 0) dX4_changes_75 rfl hcX3 inX3 (Nat.le_of_ble_eq_true rfl) wd138 rfl rfl ?_
            refine o_getf (j := 1) dX4_changes_78 rfl hcX0 inX0 (Nat.le_of_ble_eq_true rfl) wd105 rfl rfl ?_
            refine o_iload_n dX4_changes_81 rfl rfl ?_
            refine o_iload_n dX4_changes_82 rfl rfl ?_
            refine o_callSd (w2 := xW (upd (upd r (5 + 5 * d) kk) (6 + 5 * d) f) (wsO r) (fsO r) m mw mf im (wsO im) (fsO im) lt rw rf ga hi (nI L) (nI R)) (is := [2, 3, 4, 5, 6, 7, 8, 9, 10, 11, 12, 13]) (texc_fg (by omega)) ⟨rfl, rfl⟩ dX4_changes_83 wd401 csX4_exchange rfl ⟨(Nat.le_of_ble_eq_true rfl), (Nat.le_of_ble_eq_true rfl)⟩ rfl rfl rfl (Nat.le_of_ble_eq_true rfl) (Nat.le_of_ble_eq_true rfl) (Nat.le_of_ble_eq_true rfl) (pb_seg 2 (Nat.le_of_ble_eq_true rfl) rfl rfl rfl) ?_
            refine o_iadd dX4_changes_86 ?_
            refine o_iret dX4_changes_87 rfl (vp_nar_int _) (Nat.le_of_ble_eq_true rfl) (Nat.le_of_ble_eq_true rfl) ?_
            have hq : SD r (upd (upd r (5 + 5 * d) kk) (6 + 5 * d) f) := ⟨by rw [upd_ne (by omega), upd_ne (by omega)], fun e he => ⟨by rw [upd_ne (by omega), upd_ne (by omega)], by rw [upd_ne (by omega), upd_ne (by omega)]⟩⟩
            exact CP.mk (by simp only [s_changes, hin, if_true, hk, wrB, if_neg c_38, if_neg q2, ec, stR]; rw [upd_ne (by omega)]) hq.ws hq.fs
          · have q2 : nI 9 < f := Int32.not_le.mp c_44
            refine o_aload_n dX4_changes_47 rfl rfl ?_
            refine o_iload_n dX4_changes_48 rfl rfl ?_
            refine o_callVd (w2 := xW r (wsO r) (fsO r) m mw mf im (wsO im) (fsO im) lt rw (rfu rf 6) ga hi (nI L) (nI R)) (is := [0, 1, 2, 3, 4, 5, 6, 7, 8, 9, 10, 11, 12, 13, 14, 15, 16, 17, 18, 19, 20, 21, 22, 23, 24, 25, 26, 27, 28, 29, 30, 31, 32, 33, 34, 35, 36, 37, 38, 39, 40, 41, 42, 43]) (rfn_hi c_38) ⟨rfl, rfl⟩ dX4_changes_49 wd412 cvX4_refusedNumber rfl ⟨(Nat.le_of_ble_eq_true rfl), (Nat.le_of_ble_eq_true rfl)⟩ hcX4 rfl rfl rfl rfl (Nat.le_of_ble_eq_true rfl) (Nat.le_of_ble_eq_true rfl) (Nat.le_of_ble_eq_true rfl) (pb_seg 0 (Nat.le_of_ble_eq_true rfl) rfl rfl rfl) ?_
            refine o_iret dX4_changes_52 rfl (vp_nar_int _) (Nat.le_of_ble_eq_true rfl) (Nat.le_of_ble_eq_true rfl) ?_
            exact CP.mk (by simp only [s_changes, hin, if_true, hk, wrB, if_neg c_38, if_pos q2]; rfl)
      · have hk : inR 6 kk = false := by rw [inR, decide_eq_true (show nI 6 ≤ kk from Int32.not_lt.mp c_27), Bool.not_true, Bool.and_false]
        refine o_aload_n dX4_changes_30 rfl rfl ?_
        refine o_bipush dX4_changes_31 bp_m2 ?_
        refine o_callVd (w2 := xW r (wsO r) (fsO r) m mw mf im (wsO im) (fsO im) lt rw (rfu rf 2) ga hi (nI L) (nI R)) (is := [0, 1, 2, 3, 4, 5, 6, 7, 8, 9, 10, 11, 12, 13, 14, 15, 16, 17, 18, 19, 20, 21, 22, 23, 24, 25, 26, 27, 28, 29, 30, 31, 32, 33, 34, 35, 36, 37, 38, 39, 40, 41, 42, 43]) (tX4_refused (c := 2) rfl (by decide)) ⟨rfl, rfl⟩ dX4_changes_33 wd233 cvX4_refused rfl ⟨(Nat.le_of_ble_eq_true rfl), (Nat.le_of_ble_eq_true rfl)⟩ hcX4 rfl rfl rfl rfl (Nat.le_of_ble_eq_true rfl) (Nat.le_of_ble_eq_true rfl) (Nat.le_of_ble_eq_true rfl) (pb_seg 0 (Nat.le_of_ble_eq_true rfl) rfl rfl rfl) ?_
        refine o_iret dX4_changes_36 rfl (vp_nar_int _) (Nat.le_of_ble_eq_true rfl) (Nat.le_of_ble_eq_true rfl) ?_
        exact CP.mk (by simp only [s_changes, hin, if_true, hk]; rfl)
  · have hno := bI_0.mp c_11
    refine o_aload_n dX4_changes_14 rfl rfl ?_
    refine o_iconst dX4_changes_15 ic_m1 ?_
    refine o_callVd (w2 := xW r (wsO r) (fsO r) m mw mf im (wsO im) (fsO im) lt rw (rfu rf 1) ga hi (nI L) (nI R)) (is := [0, 1, 2, 3, 4, 5, 6, 7, 8, 9, 10, 11, 12, 13, 14, 15, 16, 17, 18, 19, 20, 21, 22, 23, 24, 25, 26, 27, 28, 29, 30, 31, 32, 33, 34, 35, 36, 37, 38, 39, 40, 41, 42, 43]) (tX4_refused (c := 1) rfl (by decide)) ⟨rfl, rfl⟩ dX4_changes_16 wd233 cvX4_refused rfl ⟨(Nat.le_of_ble_eq_true rfl), (Nat.le_of_ble_eq_true rfl)⟩ hcX4 rfl rfl rfl rfl (Nat.le_of_ble_eq_true rfl) (Nat.le_of_ble_eq_true rfl) (Nat.le_of_ble_eq_true rfl) (pb_seg 0 (Nat.le_of_ble_eq_true rfl) rfl rfl rfl) ?_
    refine o_iret dX4_changes_19 rfl (vp_nar_int _) (Nat.le_of_ble_eq_true rfl) (Nat.le_of_ble_eq_true rfl) ?_
    exact CP.mk (by simp only [s_changes, hno]; rfl)
theorem goW {r ws fs : Nat → Int32} {g : Nat → Nat} {D N h n : Nat} (hR : ROk r D N h) (ho : OnW fs g r D) (hn : n < 2147483648) : PD mX3_goHours [.ref 0, .int (nI n), .int 0] (tW r ws fs) (some (.int (wentC fs D N false r n))) (tW (hoursM g D N r n) ws fs) := by
  have q := tX3_goHours (ws := ws) (fs := fs) (fire := false) hn hR.1.1
  rw [(hoursPM hR ho n).1] at q
  exact q
theorem goS {r ws : Nat → Int32} {n : Nat} (hS : SOk r) (hn : n < 2147483648) : PD mX3_goHours [.ref 0, .int (nI n), .int 0] (tW r ws (fsO r)) (some (.int (wentC (fsO r) (dN r) (nN r) false r n))) (tW (hrs r n) ws (fsO r)) := goW hS.R hS.on hn
theorem hrs_4 {r : Nat → Int32} (hS : SOk r) (n : Nat) : hrs r n 4 = 0 := (hoursPM hS.R hS.on n).2.1.2.2.2
theorem hcS {r ws fs : Nat → Int32} {n : Nat} (hS : SOk r) : PD mX3_homeCount [.ref 0] (tW (hrs r n) ws fs) (some (.int (bitsM (homeM (hrs r n) (nN r)) 9))) (tW (hrs r n) ws fs) := (tX3_homeCount (by have := hS.n6; omega) (hrs_n hS n)).mono (by rw [hc_eq (hrs_4 hS n) (by have := hS.n6; omega)])
