theorem cn_bits {r : Nat → Int32} {x : Int32} : ∀ n, n ≤ 7 → ∃ h, h < 2 ^ n ∧ bitsS (rmO r) x n = nI h ∧ bitsM (nI h) 9 = mnS r x n
  | 0, _ => ⟨0, Nat.one_pos, rfl, show bitsM (nI 0) 9 = 0 by decide⟩
  | n + 1, hn => by
    obtain ⟨h, h1, h2, h3⟩ := cn_bits (r := r) (x := x) n (by omega)
    have l1 : 2 ^ n < 2 ^ (n + 1) := Nat.pow_lt_pow_right (by omega) (by omega)
    have l2 : 2 ^ n ≤ 2 ^ 6 := Nat.pow_le_pow_right (by omega) (by omega)
    rw [bitsS, mnS, h2, show rmO r n = r (50 + 3 * n) from prj_at (by omega)]
    by_cases c : r (50 + 3 * n) = x
    · rw [if_pos c, if_pos c]
      exact ⟨h ||| 2 ^ n, or_lt (by omega) (by omega), by rw [one_sh (by omega), nI_or], by rw [bit_or n (by omega) h (by omega) h1, h3]⟩
    · rw [if_neg c, if_neg c]
      exact ⟨h, by omega, rfl, by rw [h3, Int32.add_zero]⟩
theorem xcount {r ws fs : Nat → Int32} {x : Int32} (hS : SOk r) : PD mX3_countIn [.ref 0, .int x] (tW r ws fs) (some (.int (mnS r x (nN r)))) (tW r ws fs) := (tX3_countIn (by have := hS.n6; omega) hS.e1).mono (by
  have h6 := hS.n6
  obtain ⟨h, h1, h2, h3⟩ := cn_bits (r := r) (x := x) (nN r) (by omega)
  have l2 : 2 ^ nN r ≤ 2 ^ 6 := Nat.pow_le_pow_right (by omega) (by omega)
  rw [h2, bc_bits h (by omega), h3])
theorem db_eq {r : Nat → Int32} {b : Nat} {x : Int32} : ∀ k, k ≤ 9 → bitsS (prj b 5 9 r) x k = dbS r b x k
  | 0, _ => rfl
  | k + 1, hk => by
    rw [bitsS, dbS, db_eq k (by omega), prj_at (by omega)]
    by_cases c : r (b + 5 * k) = x
    · rw [if_pos c, if_pos c]
    · rw [if_neg c, if_neg c, Int32.or_zero]
theorem xbits {r : Nat → Int32} {b D : Nat} {x : Int32} (hD : D ≤ 9) : PD mX4_bitsOf [.ref 0, .int (nI D), .int x] [.inl (9, prj b 5 9 r)] (some (.int (dbS r b x D))) [.inl (9, prj b 5 9 r)] := (tX4_bitsOf (by decide) hD).mono (by rw [db_eq D hD])
theorem cw1 {r : Nat → Int32} : cwF r 1 = 0 := by
  rw [cwF, cwF]
  split
  · rfl
  · rfl
theorem cwT2 {r : Nat → Int32} {k : Nat} : cwT r 2 (k + 1) = cwT r 2 k ||| (if mnS r (nI k) (nN r) = 0 then 1 <<< (nI k &&& 31) else 0) := by rw [cwT, if_pos rfl]
theorem cwT3 {r : Nat → Int32} {k : Nat} : cwT r 3 (k + 1) = cwT r 3 k ||| (if dbS r 7 (nI k) (dN r) = 0 then 1 <<< (nI k &&& 31) else 0) := by rw [cwT, if_neg (show ¬ (3 : Int32) = 2 by decide)]
theorem lX4_crowdedRoom {r m mw mf im lt rw rf ga : Nat → Int32} {hi : Int32} {L R : Nat} (hS : SOk r) : ∀ (q k : Nat), 8 - k < q → k ≤ 8 → Ok mX4_crowdedRoom none 4 [some (.ref 0), some (.int (cwF r k)), some (.int (nI k))] [] (xW r (wsO r) (fsO r) m mw mf im (wsO im) (fsO im) lt rw rf ga hi (nI L) (nI R)) 0 0 (fun v w => v = some (.int (cwF r 8)) ∧ w = xW r (wsO r) (fsO r) m mw mf im (wsO im) (fsO im) lt rw rf ga hi (nI L) (nI R)) := by
  intro q
  induction q with
  | zero => intro k hq hk; omega
  | succ q ih =>
  intro k hq hk
  refine o_iload_n dX4_crowdedRoom_4 rfl rfl ?_
  refine o_bipush dX4_crowdedRoom_5 bp_8 ?_
  refine o_icmp_ge (tgt := 37) dX4_crowdedRoom_7 (by decide) (fun c_7 => ?_) (fun c_7 => ?_)
  · have hkN : k = 8 := Nat.le_antisymm hk (geI (b := 8) (by omega) (by omega) c_7)
    subst hkN
    refine o_iload_n dX4_crowdedRoom_37 rfl rfl ?_
    refine o_iret dX4_crowdedRoom_38 rfl (vp_nar_int _) (Nat.le_of_ble_eq_true rfl) (Nat.le_of_ble_eq_true rfl) ?_
    exact ⟨rfl, rfl⟩
  · have hkN : k < 8 := ltI (b := 8) (by omega) (by omega) c_7
    refine o_aload_n dX4_crowdedRoom_10 rfl rfl ?_
    refine o_getf (j := 0) dX4_crowdedRoom_11 rfl hcX4 inX4 (Nat.le_of_ble_eq_true rfl) wd204 rfl rfl ?_
    refine o_iload_n dX4_crowdedRoom_14 rfl rfl ?_
    refine o_callVr (is := [2, 3, 4, 5, 6, 7, 8, 9, 10, 11, 12, 13]) (xcount hS) ⟨rfl, rfl⟩ dX4_crowdedRoom_15 wd552 cvX3_countIn rfl ⟨(Nat.le_of_ble_eq_true rfl), (Nat.le_of_ble_eq_true rfl)⟩ hcX3 rfl rfl rfl rfl (Nat.le_of_ble_eq_true rfl) (Nat.le_of_ble_eq_true rfl) (Nat.le_of_ble_eq_true rfl) ?_
    refine o_aload_n dX4_crowdedRoom_18 rfl rfl ?_
    refine o_getf (j := 0) dX4_crowdedRoom_19 rfl hcX4 inX4 (Nat.le_of_ble_eq_true rfl) wd204 rfl rfl ?_
    refine o_iload_n dX4_crowdedRoom_22 rfl rfl ?_
    refine o_callVr (is := [2, 3, 4, 5, 6, 7, 8, 9, 10, 11, 12, 13]) (xcount hS) ⟨rfl, rfl⟩ dX4_crowdedRoom_23 wd552 cvX3_countIn rfl ⟨(Nat.le_of_ble_eq_true rfl), (Nat.le_of_ble_eq_true rfl)⟩ hcX3 rfl rfl rfl rfl (Nat.le_of_ble_eq_true rfl) (Nat.le_of_ble_eq_true rfl) (Nat.le_of_ble_eq_true rfl) ?_
    refine o_icmp_le (tgt := 31) dX4_crowdedRoom_26 (by decide) (fun c_26 => ?_) (fun c_26 => ?_)
    · skip
      refine o_inc_2 dX4_crowdedRoom_31 rfl ic_1 (Nat.le_of_ble_eq_true rfl) ?_
      refine o_goto (tgt := 4) dX4_crowdedRoom_34 (by decide) ?_
      exact o_eqa (by rw [nI_1, cwF, if_neg (Int32.not_lt.mpr c_26)]) rfl (ih (k + 1) (by omega) (by omega))
    · skip
      refine o_iload_n dX4_crowdedRoom_29 rfl rfl ?_
      refine o_istn_1 dX4_crowdedRoom_30 rfl rfl (Nat.le_of_ble_eq_true rfl) ?_
      refine o_inc_2 dX4_crowdedRoom_31 rfl ic_1 (Nat.le_of_ble_eq_true rfl) ?_
      refine o_goto (tgt := 4) dX4_crowdedRoom_34 (by decide) ?_
      exact o_eqa (by rw [nI_1, cwF, if_pos (Int32.not_le.mp c_26)]) rfl (ih (k + 1) (by omega) (by omega))
theorem tX4_crowdedRoom {r m mw mf im lt rw rf ga : Nat → Int32} {hi : Int32} {L R : Nat} (hS : SOk r) : PD mX4_crowdedRoom [.ref 0] (xW r (wsO r) (fsO r) m mw mf im (wsO im) (fsO im) lt rw rf ga hi (nI L) (nI R)) (some (.int (cwF r 8))) (xW r (wsO r) (fsO r) m mw mf im (wsO im) (fsO im) lt rw rf ga hi (nI L) (nI R)) := by
  refine PM.ofp 2 (by decide) (Nat.le_of_ble_eq_true rfl) ?_
  show Ok mX4_crowdedRoom none 0 [some (.ref 0), none, none] [] (xW r (wsO r) (fsO r) m mw mf im (wsO im) (fsO im) lt rw rf ga hi (nI L) (nI R)) 0 0 _
  refine o_iconst dX4_crowdedRoom_0 ic_0 ?_
  refine o_istn_1 dX4_crowdedRoom_1 rfl rfl (Nat.le_of_ble_eq_true rfl) ?_
  refine o_iconst dX4_crowdedRoom_2 ic_1 ?_
  refine o_istn_2 dX4_crowdedRoom_3 rfl rfl (Nat.le_of_ble_eq_true rfl) ?_
  exact o_eqa (by rw [cw1]; rfl) rfl (lX4_crowdedRoom hS 9 1 (by omega) (by omega))
theorem lX4_emptyRooms {r m mw mf im lt rw rf ga : Nat → Int32} {hi : Int32} {L R : Nat} (hS : SOk r) : ∀ (q k : Nat), 8 - k < q → k ≤ 8 → Ok mX4_emptyRooms none 4 [some (.ref 0), some (.int (cwT r 2 k)), some (.int (nI k))] [] (xW r (wsO r) (fsO r) m mw mf im (wsO im) (fsO im) lt rw rf ga hi (nI L) (nI R)) 0 0 (fun v w => v = some (.int (cwT r 2 8)) ∧ w = xW r (wsO r) (fsO r) m mw mf im (wsO im) (fsO im) lt rw rf ga hi (nI L) (nI R)) := by
  intro q
  induction q with
  | zero => intro k hq hk; omega
  | succ q ih =>
  intro k hq hk
  refine o_iload_n dX4_emptyRooms_4 rfl rfl ?_
  refine o_bipush dX4_emptyRooms_5 bp_8 ?_
  refine o_icmp_ge (tgt := 33) dX4_emptyRooms_7 (by decide) (fun c_7 => ?_) (fun c_7 => ?_)
  · have hkN : k = 8 := Nat.le_antisymm hk (geI (b := 8) (by omega) (by omega) c_7)
    subst hkN
    refine o_iload_n dX4_emptyRooms_33 rfl rfl ?_
    refine o_iret dX4_emptyRooms_34 rfl (vp_nar_int _) (Nat.le_of_ble_eq_true rfl) (Nat.le_of_ble_eq_true rfl) ?_
    exact ⟨rfl, rfl⟩
  · have hkN : k < 8 := ltI (b := 8) (by omega) (by omega) c_7
    refine o_aload_n dX4_emptyRooms_10 rfl rfl ?_
    refine o_getf (j := 0) dX4_emptyRooms_11 rfl hcX4 inX4 (Nat.le_of_ble_eq_true rfl) wd204 rfl rfl ?_
    refine o_iload_n dX4_emptyRooms_14 rfl rfl ?_
    refine o_callVr (is := [2, 3, 4, 5, 6, 7, 8, 9, 10, 11, 12, 13]) (xcount hS) ⟨rfl, rfl⟩ dX4_emptyRooms_15 wd552 cvX3_countIn rfl ⟨(Nat.le_of_ble_eq_true rfl), (Nat.le_of_ble_eq_true rfl)⟩ hcX3 rfl rfl rfl rfl (Nat.le_of_ble_eq_true rfl) (Nat.le_of_ble_eq_true rfl) (Nat.le_of_ble_eq_true rfl) ?_
    refine o_if_ne (tgt := 27) dX4_emptyRooms_18 (by decide) (fun c_18 => ?_) (fun c_18 => ?_)
    · skip
      refine o_inc_2 dX4_emptyRooms_27 rfl ic_1 (Nat.le_of_ble_eq_true rfl) ?_
      refine o_goto (tgt := 4) dX4_emptyRooms_30 (by decide) ?_
      exact o_eqa (by rw [nI_1, cwT2, if_neg c_18, Int32.or_zero]) rfl (ih (k + 1) (by omega) (by omega))
    · skip
      refine o_iload_n dX4_emptyRooms_21 rfl rfl ?_
      refine o_iconst dX4_emptyRooms_22 ic_1 ?_
      refine o_iload_n dX4_emptyRooms_23 rfl rfl ?_
      refine o_ishl dX4_emptyRooms_24 ?_
      refine o_ior dX4_emptyRooms_25 ?_
      refine o_istn_1 dX4_emptyRooms_26 rfl rfl (Nat.le_of_ble_eq_true rfl) ?_
      refine o_inc_2 dX4_emptyRooms_27 rfl ic_1 (Nat.le_of_ble_eq_true rfl) ?_
      refine o_goto (tgt := 4) dX4_emptyRooms_30 (by decide) ?_
      exact o_eqa (by rw [nI_1, cwT2, if_pos c_18]) rfl (ih (k + 1) (by omega) (by omega))
theorem tX4_emptyRooms {r m mw mf im lt rw rf ga : Nat → Int32} {hi : Int32} {L R : Nat} (hS : SOk r) : PD mX4_emptyRooms [.ref 0] (xW r (wsO r) (fsO r) m mw mf im (wsO im) (fsO im) lt rw rf ga hi (nI L) (nI R)) (some (.int (cwT r 2 8))) (xW r (wsO r) (fsO r) m mw mf im (wsO im) (fsO im) lt rw rf ga hi (nI L) (nI R)) := by
  refine PM.ofp 2 (by decide) (Nat.le_of_ble_eq_true rfl) ?_
  show Ok mX4_emptyRooms none 0 [some (.ref 0), none, none] [] (xW r (wsO r) (fsO r) m mw mf im (wsO im) (fsO im) lt rw rf ga hi (nI L) (nI R)) 0 0 _
  refine o_iconst dX4_emptyRooms_0 ic_0 ?_
  refine o_istn_1 dX4_emptyRooms_1 rfl rfl (Nat.le_of_ble_eq_true rfl) ?_
  refine o_iconst dX4_emptyRooms_2 ic_0 ?_
  refine o_istn_2 dX4_emptyRooms_3 rfl rfl (Nat.le_of_ble_eq_true rfl) ?_
  exact o_eqa (by rw [nI_0]; rfl) rfl (lX4_emptyRooms hS 9 0 (by omega) (by omega))
theorem lX4_deadRooms {r m mw mf im lt rw rf ga : Nat → Int32} {hi : Int32} {L R : Nat} (hS : SOk r) : ∀ (q k : Nat), 8 - k < q → k ≤ 8 → Ok mX4_deadRooms none 4 [some (.ref 0), some (.int (cwT r 3 k)), some (.int (nI k))] [] (xW r (wsO r) (fsO r) m mw mf im (wsO im) (fsO im) lt rw rf ga hi (nI L) (nI R)) 0 0 (fun v w => v = some (.int (cwT r 3 8)) ∧ w = xW r (wsO r) (fsO r) m mw mf im (wsO im) (fsO im) lt rw rf ga hi (nI L) (nI R)) := by
  intro q
  induction q with
  | zero => intro k hq hk; omega
  | succ q ih =>
  intro k hq hk
  refine o_iload_n dX4_deadRooms_4 rfl rfl ?_
  refine o_bipush dX4_deadRooms_5 bp_8 ?_
  refine o_icmp_ge (tgt := 49) dX4_deadRooms_7 (by decide) (fun c_7 => ?_) (fun c_7 => ?_)
  · have hkN : k = 8 := Nat.le_antisymm hk (geI (b := 8) (by omega) (by omega) c_7)
    subst hkN
    refine o_iload_n dX4_deadRooms_49 rfl rfl ?_
    refine o_iret dX4_deadRooms_50 rfl (vp_nar_int _) (Nat.le_of_ble_eq_true rfl) (Nat.le_of_ble_eq_true rfl) ?_
    exact ⟨rfl, rfl⟩
  · have hkN : k < 8 := ltI (b := 8) (by omega) (by omega) c_7
    refine o_aload_n dX4_deadRooms_10 rfl rfl ?_
    refine o_getf (j := 0) dX4_deadRooms_11 rfl hcX4 inX4 (Nat.le_of_ble_eq_true rfl) wd204 rfl rfl ?_
    refine o_getf (j := 0) dX4_deadRooms_14 rfl hcX3 inX3 (Nat.le_of_ble_eq_true rfl) wd138 rfl rfl ?_
    refine o_getf (j := 2) dX4_deadRooms_17 rfl hcX0 inX0 (Nat.le_of_ble_eq_true rfl) wd107 rfl rfl ?_
    refine o_aload_n dX4_deadRooms_20 rfl rfl ?_
    refine o_getf (j := 0) dX4_deadRooms_21 rfl hcX4 inX4 (Nat.le_of_ble_eq_true rfl) wd204 rfl rfl ?_
    refine o_getf (j := 0) dX4_deadRooms_24 rfl hcX3 inX3 (Nat.le_of_ble_eq_true rfl) wd138 rfl rfl ?_
    refine o_getf (j := 7) dX4_deadRooms_27 rfl hcX0 inX0 (Nat.le_of_ble_eq_true rfl) wd118 rfl rfl ?_
    refine o_eqs (by rw [hS.e0]) ?_
    refine o_iload_n dX4_deadRooms_30 rfl rfl ?_
    refine o_callSr (is := [6]) (xbits hS.d9) ⟨rfl, rfl⟩ dX4_deadRooms_31 wd567 csX4_bitsOf rfl ⟨(Nat.le_of_ble_eq_true rfl), (Nat.le_of_ble_eq_true rfl)⟩ rfl rfl rfl (Nat.le_of_ble_eq_true rfl) (Nat.le_of_ble_eq_true rfl) (Nat.le_of_ble_eq_true rfl) ?_
    refine o_if_ne (tgt := 43) dX4_deadRooms_34 (by decide) (fun c_34 => ?_) (fun c_34 => ?_)
    · skip
      refine o_inc_2 dX4_deadRooms_43 rfl ic_1 (Nat.le_of_ble_eq_true rfl) ?_
      refine o_goto (tgt := 4) dX4_deadRooms_46 (by decide) ?_
      exact o_eqa (by rw [nI_1, cwT3, if_neg c_34, Int32.or_zero]) rfl (ih (k + 1) (by omega) (by omega))
    · skip
      refine o_iload_n dX4_deadRooms_37 rfl rfl ?_
      refine o_iconst dX4_deadRooms_38 ic_1 ?_
      refine o_iload_n dX4_deadRooms_39 rfl rfl ?_
      refine o_ishl dX4_deadRooms_40 ?_
      refine o_ior dX4_deadRooms_41 ?_
      refine o_istn_1 dX4_deadRooms_42 rfl rfl (Nat.le_of_ble_eq_true rfl) ?_
      refine o_inc_2 dX4_deadRooms_43 rfl ic_1 (Nat.le_of_ble_eq_true rfl) ?_
      refine o_goto (tgt := 4) dX4_deadRooms_46 (by decide) ?_
      exact o_eqa (by rw [nI_1, cwT3, if_pos c_34]) rfl (ih (k + 1) (by omega) (by omega))
theorem tX4_deadRooms {r m mw mf im lt rw rf ga : Nat → Int32} {hi : Int32} {L R : Nat} (hS : SOk r) : PD mX4_deadRooms [.ref 0] (xW r (wsO r) (fsO r) m mw mf im (wsO im) (fsO im) lt rw rf ga hi (nI L) (nI R)) (some (.int (cwT r 3 8))) (xW r (wsO r) (fsO r) m mw mf im (wsO im) (fsO im) lt rw rf ga hi (nI L) (nI R)) := by
  refine PM.ofp 2 (by decide) (Nat.le_of_ble_eq_true rfl) ?_
  show Ok mX4_deadRooms none 0 [some (.ref 0), none, none] [] (xW r (wsO r) (fsO r) m mw mf im (wsO im) (fsO im) lt rw rf ga hi (nI L) (nI R)) 0 0 _
  refine o_iconst dX4_deadRooms_0 ic_0 ?_
  refine o_istn_1 dX4_deadRooms_1 rfl rfl (Nat.le_of_ble_eq_true rfl) ?_
  refine o_iconst dX4_deadRooms_2 ic_0 ?_
  refine o_istn_2 dX4_deadRooms_3 rfl rfl (Nat.le_of_ble_eq_true rfl) ?_
  exact o_eqa (by rw [nI_0]; rfl) rfl (lX4_deadRooms hS 9 0 (by omega) (by omega))
theorem tX4_crowd {r m mw mf im lt rw rf ga : Nat → Int32} {hi : Int32} {L R : Nat} (hS : SOk r) {w : Int32} : PM mX4_crowd [.ref 0, .int w] (xW r (wsO r) (fsO r) m mw mf im (wsO im) (fsO im) lt rw rf ga hi (nI L) (nI R)) (CP (s_crowd w (r, im, hi, lt, L, rw, R, rf))) := by
  refine PM.ofp 0 (by decide) (Nat.le_of_ble_eq_true rfl) ?_
  show Ok mX4_crowd none 0 [some (.ref 0), some (.int w)] [] (xW r (wsO r) (fsO r) m mw mf im (wsO im) (fsO im) lt rw rf ga hi (nI L) (nI R)) 0 0 _
  refine o_iload_n dX4_crowd_0 rfl rfl ?_
  refine o_sw (lo := 0) (hi := 3) 4 (by decide) (by decide) (by decide) (fun hsw => ?_) (fun j hj hsw => ?_)
  · refine o_tabOut (tgt := 59) dX4_crowd_1 hsw (by decide) ?_
    refine o_aload_n dX4_crowd_59 rfl rfl ?_
    refine o_bipush dX4_crowd_60 bp_m2 ?_
    refine o_callVd (w2 := xW r (wsO r) (fsO r) m mw mf im (wsO im) (fsO im) lt rw (rfu rf 2) ga hi (nI L) (nI R)) (is := [0, 1, 2, 3, 4, 5, 6, 7, 8, 9, 10, 11, 12, 13, 14, 15, 16, 17, 18, 19, 20, 21, 22, 23, 24, 25, 26, 27, 28, 29, 30, 31, 32, 33, 34, 35, 36, 37, 38, 39, 40, 41, 42, 43]) (tX4_refused (c := 2) rfl (by decide)) ⟨rfl, rfl⟩ dX4_crowd_62 wd233 cvX4_refused rfl ⟨(Nat.le_of_ble_eq_true rfl), (Nat.le_of_ble_eq_true rfl)⟩ hcX4 rfl rfl rfl rfl (Nat.le_of_ble_eq_true rfl) (Nat.le_of_ble_eq_true rfl) (Nat.le_of_ble_eq_true rfl) (pb_seg 0 (Nat.le_of_ble_eq_true rfl) rfl rfl rfl) ?_
    refine o_iret dX4_crowd_65 rfl (vp_nar_int _) (Nat.le_of_ble_eq_true rfl) (Nat.le_of_ble_eq_true rfl) ?_
    exact CP.mk (by simp only [s_crowd, sw_inR (D := 4) hsw rfl (by omega)]; rfl)
  · match j, hj, hsw with
    | 0, _, hsw =>
      refine o_tabInE (tgt := 32) (off := 31) dX4_crowd_1 hsw (by decide) (by decide) (by decide) (by decide) ?_
      have hsw := sw_eq (l := 0) hsw (by decide)
      refine o_aload_n dX4_crowd_32 rfl rfl ?_
      refine o_callVr (is := [0, 1, 2, 3, 4, 5, 6, 7, 8, 9, 10, 11, 12, 13, 14, 15, 16, 17, 18, 19, 20, 21, 22, 23, 24, 25, 26, 27, 28, 29, 30, 31, 32, 33, 34, 35, 36, 37, 38, 39, 40, 41, 42, 43]) (tX4_crowdedRoom hS) ⟨rfl, rfl⟩ dX4_crowd_33 wd548 cvX4_crowdedRoom rfl ⟨(Nat.le_of_ble_eq_true rfl), (Nat.le_of_ble_eq_true rfl)⟩ hcX4 rfl rfl rfl rfl (Nat.le_of_ble_eq_true rfl) (Nat.le_of_ble_eq_true rfl) (Nat.le_of_ble_eq_true rfl) ?_
      refine o_iret dX4_crowd_36 rfl (vp_nar_int _) (Nat.le_of_ble_eq_true rfl) (Nat.le_of_ble_eq_true rfl) ?_
      exact CP.mk (by subst hsw; rw [s_crowd, if_pos (show inR 4 0 = true by decide), if_pos rfl])
    | 1, _, hsw =>
      refine o_tabInE (tgt := 37) (off := 36) dX4_crowd_1 hsw (by decide) (by decide) (by decide) (by decide) ?_
      have hsw := sw_eq (l := 1) hsw (by decide)
      refine o_aload_n dX4_crowd_37 rfl rfl ?_
      refine o_getf (j := 0) dX4_crowd_38 rfl hcX4 inX4 (Nat.le_of_ble_eq_true rfl) wd204 rfl rfl ?_
      refine o_aload_n dX4_crowd_41 rfl rfl ?_
      refine o_callVr (is := [0, 1, 2, 3, 4, 5, 6, 7, 8, 9, 10, 11, 12, 13, 14, 15, 16, 17, 18, 19, 20, 21, 22, 23, 24, 25, 26, 27, 28, 29, 30, 31, 32, 33, 34, 35, 36, 37, 38, 39, 40, 41, 42, 43]) (tX4_crowdedRoom hS) ⟨rfl, rfl⟩ dX4_crowd_42 wd548 cvX4_crowdedRoom rfl ⟨(Nat.le_of_ble_eq_true rfl), (Nat.le_of_ble_eq_true rfl)⟩ hcX4 rfl rfl rfl rfl (Nat.le_of_ble_eq_true rfl) (Nat.le_of_ble_eq_true rfl) (Nat.le_of_ble_eq_true rfl) ?_
      refine o_callVr (is := [2, 3, 4, 5, 6, 7, 8, 9, 10, 11, 12, 13]) (xcount hS) ⟨rfl, rfl⟩ dX4_crowd_45 wd552 cvX3_countIn rfl ⟨(Nat.le_of_ble_eq_true rfl), (Nat.le_of_ble_eq_true rfl)⟩ hcX3 rfl rfl rfl rfl (Nat.le_of_ble_eq_true rfl) (Nat.le_of_ble_eq_true rfl) (Nat.le_of_ble_eq_true rfl) ?_
      refine o_iret dX4_crowd_48 rfl (vp_nar_int _) (Nat.le_of_ble_eq_true rfl) (Nat.le_of_ble_eq_true rfl) ?_
      exact CP.mk (by subst hsw; rw [s_crowd, if_pos (show inR 4 1 = true by decide), if_neg (by decide), if_pos rfl])
    | 2, _, hsw =>
      refine o_tabInE (tgt := 49) (off := 48) dX4_crowd_1 hsw (by decide) (by decide) (by decide) (by decide) ?_
      have hsw := sw_eq (l := 2) hsw (by decide)
      refine o_aload_n dX4_crowd_49 rfl rfl ?_
      refine o_callVr (is := [0, 1, 2, 3, 4, 5, 6, 7, 8, 9, 10, 11, 12, 13, 14, 15, 16, 17, 18, 19, 20, 21, 22, 23, 24, 25, 26, 27, 28, 29, 30, 31, 32, 33, 34, 35, 36, 37, 38, 39, 40, 41, 42, 43]) (tX4_emptyRooms hS) ⟨rfl, rfl⟩ dX4_crowd_50 wd559 cvX4_emptyRooms rfl ⟨(Nat.le_of_ble_eq_true rfl), (Nat.le_of_ble_eq_true rfl)⟩ hcX4 rfl rfl rfl rfl (Nat.le_of_ble_eq_true rfl) (Nat.le_of_ble_eq_true rfl) (Nat.le_of_ble_eq_true rfl) ?_
      refine o_iret dX4_crowd_53 rfl (vp_nar_int _) (Nat.le_of_ble_eq_true rfl) (Nat.le_of_ble_eq_true rfl) ?_
      exact CP.mk (by subst hsw; rw [s_crowd, if_pos (show inR 4 2 = true by decide), if_neg (by decide), if_neg (by decide)])
    | 3, _, hsw =>
      refine o_tabInE (tgt := 54) (off := 53) dX4_crowd_1 hsw (by decide) (by decide) (by decide) (by decide) ?_
      have hsw := sw_eq (l := 3) hsw (by decide)
      refine o_aload_n dX4_crowd_54 rfl rfl ?_
      refine o_callVr (is := [0, 1, 2, 3, 4, 5, 6, 7, 8, 9, 10, 11, 12, 13, 14, 15, 16, 17, 18, 19, 20, 21, 22, 23, 24, 25, 26, 27, 28, 29, 30, 31, 32, 33, 34, 35, 36, 37, 38, 39, 40, 41, 42, 43]) (tX4_deadRooms hS) ⟨rfl, rfl⟩ dX4_crowd_55 wd563 cvX4_deadRooms rfl ⟨(Nat.le_of_ble_eq_true rfl), (Nat.le_of_ble_eq_true rfl)⟩ hcX4 rfl rfl rfl rfl (Nat.le_of_ble_eq_true rfl) (Nat.le_of_ble_eq_true rfl) (Nat.le_of_ble_eq_true rfl) ?_
      refine o_iret dX4_crowd_58 rfl (vp_nar_int _) (Nat.le_of_ble_eq_true rfl) (Nat.le_of_ble_eq_true rfl) ?_
      exact CP.mk (by subst hsw; rw [s_crowd, if_pos (show inR 4 3 = true by decide), if_neg (by decide), if_neg (by decide)])
    | j + 4, hj, _ => exact absurd hj (by omega)
theorem tX4_handles {r m mw mf im lt rw rf ga : Nat → Int32} {hi : Int32} {L R : Nat} (hS : SOk r) {x : Int32} : PM mX4_handles [.ref 0, .int x] (xW r (wsO r) (fsO r) m mw mf im (wsO im) (fsO im) lt rw rf ga hi (nI L) (nI R)) (CP (s_handles x (r, im, hi, lt, L, rw, R, rf))) := by
  refine PM.ofp 0 (by decide) (Nat.le_of_ble_eq_true rfl) ?_
  show Ok mX4_handles none 0 [some (.ref 0), some (.int x)] [] (xW r (wsO r) (fsO r) m mw mf im (wsO im) (fsO im) lt rw rf ga hi (nI L) (nI R)) 0 0 _
  refine o_iload_n dX4_handles_0 rfl rfl ?_
  refine o_callSr (is := []) (tX4_isRoom) ⟨rfl, rfl⟩ dX4_handles_1 wd400 csX4_isRoom rfl ⟨(Nat.le_of_ble_eq_true rfl), (Nat.le_of_ble_eq_true rfl)⟩ rfl rfl rfl (Nat.le_of_ble_eq_true rfl) (Nat.le_of_ble_eq_true rfl) (Nat.le_of_ble_eq_true rfl) ?_
  refine o_if_ne (tgt := 13) dX4_handles_4 (by decide) (fun c_4 => ?_) (fun c_4 => ?_)
  · have hyx : inR 8 x = true := bI_ne c_4
    refine o_aload_n dX4_handles_13 rfl rfl ?_
    refine o_getf (j := 0) dX4_handles_14 rfl hcX4 inX4 (Nat.le_of_ble_eq_true rfl) wd204 rfl rfl ?_
    refine o_getf (j := 0) dX4_handles_17 rfl hcX3 inX3 (Nat.le_of_ble_eq_true rfl) wd138 rfl rfl ?_
    refine o_getf (j := 3) dX4_handles_20 rfl hcX0 inX0 (Nat.le_of_ble_eq_true rfl) wd109 rfl rfl ?_
    refine o_aload_n dX4_handles_23 rfl rfl ?_
    refine o_getf (j := 0) dX4_handles_24 rfl hcX4 inX4 (Nat.le_of_ble_eq_true rfl) wd204 rfl rfl ?_
    refine o_getf (j := 0) dX4_handles_27 rfl hcX3 inX3 (Nat.le_of_ble_eq_true rfl) wd138 rfl rfl ?_
    refine o_getf (j := 7) dX4_handles_30 rfl hcX0 inX0 (Nat.le_of_ble_eq_true rfl) wd118 rfl rfl ?_
    refine o_eqs (by rw [hS.e0]) ?_
    refine o_iload_n dX4_handles_33 rfl rfl ?_
    refine o_callSr (is := [7]) (xbits hS.d9) ⟨rfl, rfl⟩ dX4_handles_34 wd567 csX4_bitsOf rfl ⟨(Nat.le_of_ble_eq_true rfl), (Nat.le_of_ble_eq_true rfl)⟩ rfl rfl rfl (Nat.le_of_ble_eq_true rfl) (Nat.le_of_ble_eq_true rfl) (Nat.le_of_ble_eq_true rfl) ?_
    refine o_iret dX4_handles_37 rfl (vp_nar_int _) (Nat.le_of_ble_eq_true rfl) (Nat.le_of_ble_eq_true rfl) ?_
    exact CP.mk (by simp only [s_handles, hyx, if_true])
  · have hnx : inR 8 x = false := bI_0.mp c_4
    refine o_aload_n dX4_handles_7 rfl rfl ?_
    refine o_iconst dX4_handles_8 ic_m1 ?_
    refine o_callVd (w2 := xW r (wsO r) (fsO r) m mw mf im (wsO im) (fsO im) lt rw (rfu rf 1) ga hi (nI L) (nI R)) (is := [0, 1, 2, 3, 4, 5, 6, 7, 8, 9, 10, 11, 12, 13, 14, 15, 16, 17, 18, 19, 20, 21, 22, 23, 24, 25, 26, 27, 28, 29, 30, 31, 32, 33, 34, 35, 36, 37, 38, 39, 40, 41, 42, 43]) (tX4_refused (c := 1) rfl (by decide)) ⟨rfl, rfl⟩ dX4_handles_9 wd233 cvX4_refused rfl ⟨(Nat.le_of_ble_eq_true rfl), (Nat.le_of_ble_eq_true rfl)⟩ hcX4 rfl rfl rfl rfl (Nat.le_of_ble_eq_true rfl) (Nat.le_of_ble_eq_true rfl) (Nat.le_of_ble_eq_true rfl) (pb_seg 0 (Nat.le_of_ble_eq_true rfl) rfl rfl rfl) ?_
    refine o_iret dX4_handles_12 rfl (vp_nar_int _) (Nat.le_of_ble_eq_true rfl) (Nat.le_of_ble_eq_true rfl) ?_
    exact CP.mk (by simp only [s_handles, hnx]; rfl)
def mcN (r : Nat → Int32) (x : Nat) : Nat → Nat
  | 0 => 0
  | k + 1 => mcN r x k + wyT (fA r) (fB r) (dN r) (cN (r (50 + 3 * k)) * 8 + x)
theorem mcN_le {r : Nat → Int32} {x : Nat} : ∀ k, mcN r x k ≤ 1000 * k
  | 0 => Nat.le_refl _
  | k + 1 => by
    have := mcN_le (r := r) (x := x) k
    have h2 := wyT_le (fa := fA r) (fb := fB r) (D := dN r) (cN (r (50 + 3 * k)) * 8 + x)
    rw [mcN]; omega
theorem mc_mt {r : Nat → Int32} (hS : SOk r) {x : Nat} (hx : x < 8) : ∀ k, k ≤ nN r → (mtN r (farOf r) x k ≤ 7 * k ∧ mcN r x k = mtN r (farOf r) x k) ∨ (99 ≤ mtN r (farOf r) x k ∧ 1000 ≤ mcN r x k)
  | 0, _ => Or.inl ⟨Nat.le_refl _, rfl⟩
  | k + 1, hk => by
    have ih := mc_mt hS hx k (by omega)
    have hw := wy_c hS (hS.T.2.2.2.2.1 k (by omega)).1.cN.1 hx
    rw [mtN, mcN]
    omega
def mvC (r : Nat → Int32) (x : Nat) : Nat := min (mcN r x (nN r)) 1000
def bmC (v : Nat → Nat) : Nat → Int32 × Nat
  | 0 => (-9, 1000)
  | k + 1 => if v k < (bmC v k).2 then (nI k, v k) else bmC v k
theorem bmC_le {v : Nat → Nat} : ∀ k, (bmC v k).2 ≤ 1000
  | 0 => Nat.le_refl _
  | k + 1 => by
    have ih := bmC_le (v := v) k
    rw [bmC]
    split
    · show v k ≤ 1000; omega
    · exact ih
theorem bm_eq {r : Nat → Int32} (hS : SOk r) : ∀ k, k ≤ 8 → (bmC (mvC r) k).1 = (bmS (fun x => mtN r (farOf r) x (nN r)) k).1 ∧ (((bmC (mvC r) k).2 = (bmS (fun x => mtN r (farOf r) x (nN r)) k).2 ∧ (bmS (fun x => mtN r (farOf r) x (nN r)) k).2 < 99 ∧ ∃ j, j < 8 ∧ (bmS (fun x => mtN r (farOf r) x (nN r)) k).1 = nI j) ∨ ((bmC (mvC r) k).2 = 1000 ∧ (bmS (fun x => mtN r (farOf r) x (nN r)) k).2 = 99 ∧ (bmS (fun x => mtN r (farOf r) x (nN r)) k).1 = -9))
  | 0, _ => ⟨rfl, Or.inr ⟨rfl, rfl, rfl⟩⟩
  | k + 1, hk => by
    obtain ⟨h1, h2⟩ := bm_eq hS k (by omega)
    have h6 := hS.n6
    have hv := mc_mt hS (x := k) (by omega) (nN r) (Nat.le_refl _)
    have ev : mvC r k = min (mcN r k (nN r)) 1000 := rfl
    have e1 : bmC (mvC r) (k + 1) = if mvC r k < (bmC (mvC r) k).2 then (nI k, mvC r k) else bmC (mvC r) k := rfl
    have e2 : bmS (fun x => mtN r (farOf r) x (nN r)) (k + 1) = if mtN r (farOf r) k (nN r) < (bmS (fun x => mtN r (farOf r) x (nN r)) k).2 then (nI k, mtN r (farOf r) k (nN r)) else bmS (fun x => mtN r (farOf r) x (nN r)) k := rfl
    rw [e1, e2]
    have h3 : ((bmC (mvC r) k).2 = (bmS (fun x => mtN r (farOf r) x (nN r)) k).2 ∧ (bmS (fun x => mtN r (farOf r) x (nN r)) k).2 < 99) ∨ ((bmC (mvC r) k).2 = 1000 ∧ (bmS (fun x => mtN r (farOf r) x (nN r)) k).2 = 99) := by
      rcases h2 with ⟨g1, g2, -⟩ | ⟨g1, g2, -⟩
      · exact Or.inl ⟨g1, g2⟩
      · exact Or.inr ⟨g1, g2⟩
    by_cases c : mtN r (farOf r) k (nN r) < (bmS (fun x => mtN r (farOf r) x (nN r)) k).2
    · have c1 : mvC r k < (bmC (mvC r) k).2 ∧ mvC r k = mtN r (farOf r) k (nN r) ∧ mtN r (farOf r) k (nN r) < 99 := by
        clear h2 e1 e2; omega
      rw [if_pos c, if_pos c1.1]
      exact ⟨rfl, Or.inl ⟨c1.2.1, c1.2.2, k, by omega, rfl⟩⟩
    · have c1 : ¬ mvC r k < (bmC (mvC r) k).2 := by
        clear h2 e1 e2; omega
      rw [if_neg c, if_neg c1]; exact ⟨h1, h2⟩
theorem lX4_waysOfAllTo {r m mw mf im lt rw rf ga : Nat → Int32} {hi : Int32} {L R : Nat} (hS : SOk r) {a : Nat} (ha : a < 8) : ∀ (q k : Nat), nN r - k < q → k ≤ nN r → Ok mX4_waysOfAllTo none 4 [some (.ref 0), some (.int (nI a)), some (.int (nI (mcN r a k))), some (.int (nI k))] [] (xW r (wsO r) (fsO r) m mw mf im (wsO im) (fsO im) lt rw rf ga hi (nI L) (nI R)) 0 0 (fun v w => v = some (.int (nI (mvC r a))) ∧ w = xW r (wsO r) (fsO r) m mw mf im (wsO im) (fsO im) lt rw rf ga hi (nI L) (nI R)) := by
  intro q
  induction q with
  | zero => intro k hq hk; omega
  | succ q ih =>
  intro k hq hk
  have h6 := hS.n6
  have hml := mcN_le (r := r) (x := a) k
  refine o_iload_n dX4_waysOfAllTo_4 rfl rfl ?_
  refine o_aload_n dX4_waysOfAllTo_5 rfl rfl ?_
  refine o_getf (j := 0) dX4_waysOfAllTo_6 rfl hcX4 inX4 (Nat.le_of_ble_eq_true rfl) wd204 rfl rfl ?_
  refine o_getf (j := 4) dX4_waysOfAllTo_9 rfl hcX3 inX3 (Nat.le_of_ble_eq_true rfl) wd150 rfl rfl ?_
  refine o_eqs (by rw [hS.e1]) ?_
  refine o_icmp_ge (tgt := 46) dX4_waysOfAllTo_12 (by decide) (fun c_12 => ?_) (fun c_12 => ?_)
  · have hkN : k = nN r := Nat.le_antisymm hk (geI (by omega) (by omega) c_12)
    rw [hkN] at hml ⊢
    refine o_iload_n dX4_waysOfAllTo_46 rfl rfl ?_
    refine o_sipush dX4_waysOfAllTo_47 sp_1000 ?_
    refine o_mmin dX4_waysOfAllTo_50 wd284 wd285 wd60 wd286 (Nat.le_of_ble_eq_true rfl) (Nat.le_of_ble_eq_true rfl) (Nat.le_of_ble_eq_true rfl) (Nat.le_of_ble_eq_true rfl) ?_
    refine o_iret dX4_waysOfAllTo_53 rfl (vp_nar_int _) (Nat.le_of_ble_eq_true rfl) (Nat.le_of_ble_eq_true rfl) ?_
    exact ⟨by rw [show (1000 : Int32) = nI 1000 from rfl, min_nI (by omega) (by omega)]; rfl, rfl⟩
  · have hkN : k < nN r := ltI (by omega) (by omega) c_12
    obtain ⟨t1, t2⟩ := hS.T.2.2.2.2.1 k hkN
    refine o_iload_n dX4_waysOfAllTo_15 rfl rfl ?_
    refine o_aload_n dX4_waysOfAllTo_16 rfl rfl ?_
    refine o_getf (j := 0) dX4_waysOfAllTo_17 rfl hcX4 inX4 (Nat.le_of_ble_eq_true rfl) wd204 rfl rfl ?_
    refine o_getf (j := 0) dX4_waysOfAllTo_20 rfl hcX3 inX3 (Nat.le_of_ble_eq_true rfl) wd138 rfl rfl ?_
    refine o_aload_n dX4_waysOfAllTo_23 rfl rfl ?_
    refine o_getf (j := 0) dX4_waysOfAllTo_24 rfl hcX4 inX4 (Nat.le_of_ble_eq_true rfl) wd204 rfl rfl ?_
    refine o_getf (j := 1) dX4_waysOfAllTo_27 rfl hcX3 inX3 (Nat.le_of_ble_eq_true rfl) wd141 rfl rfl ?_
    refine o_iload_n dX4_waysOfAllTo_30 rfl rfl ?_
    refine o_callSr (is := [11]) (at_p (b := 50) (s := 3) (n := 7) (by decide) (by omega)) ⟨rfl, rfl⟩ dX4_waysOfAllTo_31 wd237 csX4_at rfl ⟨(Nat.le_of_ble_eq_true rfl), (Nat.le_of_ble_eq_true rfl)⟩ rfl rfl rfl (Nat.le_of_ble_eq_true rfl) (Nat.le_of_ble_eq_true rfl) (Nat.le_of_ble_eq_true rfl) ?_
    refine o_iload_n dX4_waysOfAllTo_34 rfl rfl ?_
    refine o_callVr (is := [3, 4, 5, 6, 7, 8, 9, 10]) (xway t1 (RmI.nI ha)) ⟨rfl, rfl⟩ dX4_waysOfAllTo_35 wd470 cvX0_wayBetween rfl ⟨(Nat.le_of_ble_eq_true rfl), (Nat.le_of_ble_eq_true rfl)⟩ hcX0 rfl rfl rfl rfl (Nat.le_of_ble_eq_true rfl) (Nat.le_of_ble_eq_true rfl) (Nat.le_of_ble_eq_true rfl) ?_
    refine o_eqs (by rw [cN_nI (show a < 2147483648 by omega)]) ?_
    refine o_iadd dX4_waysOfAllTo_38 ?_
    refine o_eqs (by rw [nI_add]) ?_
    refine o_istn_2 dX4_waysOfAllTo_39 rfl rfl (Nat.le_of_ble_eq_true rfl) ?_
    refine o_inc_3 dX4_waysOfAllTo_40 rfl ic_1 (Nat.le_of_ble_eq_true rfl) ?_
    refine o_goto (tgt := 4) dX4_waysOfAllTo_43 (by decide) ?_
    exact o_eqa (by rw [nI_1]; rfl) rfl (ih (k + 1) (by omega) (by omega))
theorem tX4_waysOfAllTo {r m mw mf im lt rw rf ga : Nat → Int32} {hi : Int32} {L R : Nat} (hS : SOk r) {a : Nat} (ha : a < 8) : PD mX4_waysOfAllTo [.ref 0, .int (nI a)] (xW r (wsO r) (fsO r) m mw mf im (wsO im) (fsO im) lt rw rf ga hi (nI L) (nI R)) (some (.int (nI (mvC r a)))) (xW r (wsO r) (fsO r) m mw mf im (wsO im) (fsO im) lt rw rf ga hi (nI L) (nI R)) := by
  refine PM.ofp 2 (by decide) (Nat.le_of_ble_eq_true rfl) ?_
  show Ok mX4_waysOfAllTo none 0 [some (.ref 0), some (.int (nI a)), none, none] [] (xW r (wsO r) (fsO r) m mw mf im (wsO im) (fsO im) lt rw rf ga hi (nI L) (nI R)) 0 0 _
  refine o_iconst dX4_waysOfAllTo_0 ic_0 ?_
  refine o_istn_2 dX4_waysOfAllTo_1 rfl rfl (Nat.le_of_ble_eq_true rfl) ?_
  refine o_iconst dX4_waysOfAllTo_2 ic_0 ?_
  refine o_istn_3 dX4_waysOfAllTo_3 rfl rfl (Nat.le_of_ble_eq_true rfl) ?_
  exact o_eqa (by rw [nI_0]; rfl) rfl (lX4_waysOfAllTo hS ha (nN r + 1) 0 (by omega) (by omega))
theorem lX4_meet {r m mw mf im lt rw rf ga : Nat → Int32} {hi : Int32} {L R : Nat} (hS : SOk r) {w : Int32} (hww : inR 2 w = true) : ∀ (q k : Nat) (x5 : Option Value), 8 - k < q → k ≤ 8 → Ok mX4_meet none 24 [some (.ref 0), some (.int w), some (.int (bmC (mvC r) k).1), some (.int (nI (bmC (mvC r) k).2)), some (.int (nI k)), x5] [] (xW r (wsO r) (fsO r) m mw mf im (wsO im) (fsO im) lt rw rf ga hi (nI L) (nI R)) 0 0 (CP (s_meet w (r, im, hi, lt, L, rw, R, rf))) := by
  intro q
  induction q with
  | zero => intro k x5 hq hk; omega
  | succ q ih =>
  intro k x5 hq hk
  have hbl := bmC_le (v := mvC r) k
  have hvl : mvC r k ≤ 1000 := Nat.min_le_right _ _
  refine o_iload dX4_meet_24 rfl ?_
  refine o_bipush dX4_meet_26 bp_8 ?_
  refine o_icmp_ge (tgt := 57) dX4_meet_28 (by decide) (fun c_28 => ?_) (fun c_28 => ?_)
  · have hkN : k = 8 := Nat.le_antisymm hk (geI (b := 8) (by omega) (by omega) c_28)
    subst hkN
    refine o_iload_n dX4_meet_57 rfl rfl ?_
    refine o_if_ne (tgt := 65) dX4_meet_58 (by decide) (fun c_58 => ?_) (fun c_58 => ?_)
    · skip
      refine o_iload_n dX4_meet_65 rfl rfl ?_
      refine o_callSr (is := []) (tX4_toldWay) ⟨rfl, rfl⟩ dX4_meet_66 wd482 csX4_toldWay rfl ⟨(Nat.le_of_ble_eq_true rfl), (Nat.le_of_ble_eq_true rfl)⟩ rfl rfl rfl (Nat.le_of_ble_eq_true rfl) (Nat.le_of_ble_eq_true rfl) (Nat.le_of_ble_eq_true rfl) ?_
      refine o_iret dX4_meet_69 rfl (vp_nar_int _) (Nat.le_of_ble_eq_true rfl) (Nat.le_of_ble_eq_true rfl) ?_
      exact CP.mk (by
        obtain ⟨g1, g2⟩ := bm_eq hS 8 (Nat.le_refl _)
        rw [s_meet, if_pos hww]
        rcases g2 with ⟨g3, g4, j, hj, g5⟩ | ⟨g3, g4, g5⟩
        · rw [if_neg (fun q => by rcases q with q | q; exact absurd q (by rw [g5]; exact nI_pos (by omega)); exact c_58 q), g3]
          unfold toldW
          rw [if_pos (show nI (bmS (fun x => mtN r (farOf r) x (nN r)) 8).2 < 1000 from (nI_ltI (b := 1000) (by omega) (by omega)).mpr (by omega))]
        · rw [if_pos (Or.inl (by rw [g5]; exact m9_neg)), g3, g5]; rfl)
    · skip
      refine o_iload_n dX4_meet_61 rfl rfl ?_
      refine o_goto (tgt := 69) dX4_meet_62 (by decide) ?_
      refine o_iret dX4_meet_69 rfl (vp_nar_int _) (Nat.le_of_ble_eq_true rfl) (Nat.le_of_ble_eq_true rfl) ?_
      exact CP.mk (by rw [s_meet, if_pos hww, if_pos (Or.inr c_58), (bm_eq hS 8 (Nat.le_refl _)).1])
  · have hkN : k < 8 := ltI (b := 8) (by omega) (by omega) c_28
    refine o_aload_n dX4_meet_31 rfl rfl ?_
    refine o_iload dX4_meet_32 rfl ?_
    refine o_callVr (is := [0, 1, 2, 3, 4, 5, 6, 7, 8, 9, 10, 11, 12, 13, 14, 15, 16, 17, 18, 19, 20, 21, 22, 23, 24, 25, 26, 27, 28, 29, 30, 31, 32, 33, 34, 35, 36, 37, 38, 39, 40, 41, 42, 43]) (tX4_waysOfAllTo hS hkN) ⟨rfl, rfl⟩ dX4_meet_34 wd576 cvX4_waysOfAllTo rfl ⟨(Nat.le_of_ble_eq_true rfl), (Nat.le_of_ble_eq_true rfl)⟩ hcX4 rfl rfl rfl rfl (Nat.le_of_ble_eq_true rfl) (Nat.le_of_ble_eq_true rfl) (Nat.le_of_ble_eq_true rfl) ?_
    refine o_istg_5 dX4_meet_37 rfl (Nat.le_of_ble_eq_true rfl) ?_
    refine o_iload dX4_meet_39 rfl ?_
    refine o_iload_n dX4_meet_41 rfl rfl ?_
    refine o_icmp_ge (tgt := 51) dX4_meet_42 (by decide) (fun c_42 => ?_) (fun c_42 => ?_)
    · skip
      refine o_inc_4 dX4_meet_51 rfl ic_1 (Nat.le_of_ble_eq_true rfl) ?_
      refine o_goto (tgt := 24) dX4_meet_54 (by decide) ?_
      exact o_eqa (by rw [nI_1, bmC, if_neg (fun q => absurd c_42 (Int32.not_le.mpr ((nI_ltI (by omega) (by omega)).mpr q)))]) rfl (ih (k + 1) _ (by omega) (by omega))
    · skip
      refine o_iload dX4_meet_45 rfl ?_
      refine o_istn_3 dX4_meet_47 rfl rfl (Nat.le_of_ble_eq_true rfl) ?_
      refine o_iload dX4_meet_48 rfl ?_
      refine o_istn_2 dX4_meet_50 rfl rfl (Nat.le_of_ble_eq_true rfl) ?_
      refine o_inc_4 dX4_meet_51 rfl ic_1 (Nat.le_of_ble_eq_true rfl) ?_
      refine o_goto (tgt := 24) dX4_meet_54 (by decide) ?_
      exact o_eqa (by rw [nI_1, bmC, if_pos ((nI_ltI (by omega) (by omega)).mp (Int32.not_le.mp c_42))]) rfl (ih (k + 1) _ (by omega) (by omega))
theorem tX4_meet {r m mw mf im lt rw rf ga : Nat → Int32} {hi : Int32} {L R : Nat} (hS : SOk r) {w : Int32} : PM mX4_meet [.ref 0, .int w] (xW r (wsO r) (fsO r) m mw mf im (wsO im) (fsO im) lt rw rf ga hi (nI L) (nI R)) (CP (s_meet w (r, im, hi, lt, L, rw, R, rf))) := by
  refine PM.ofp 4 (by decide) (Nat.le_of_ble_eq_true rfl) ?_
  show Ok mX4_meet none 0 [some (.ref 0), some (.int w), none, none, none, none] [] (xW r (wsO r) (fsO r) m mw mf im (wsO im) (fsO im) lt rw rf ga hi (nI L) (nI R)) 0 0 _
  refine o_iload_n dX4_meet_0 rfl rfl ?_
  refine o_callSr (is := []) (tX4_isHalf) ⟨rfl, rfl⟩ dX4_meet_1 wd443 csX4_isHalf rfl ⟨(Nat.le_of_ble_eq_true rfl), (Nat.le_of_ble_eq_true rfl)⟩ rfl rfl rfl (Nat.le_of_ble_eq_true rfl) (Nat.le_of_ble_eq_true rfl) (Nat.le_of_ble_eq_true rfl) ?_
  refine o_if_ne (tgt := 14) dX4_meet_4 (by decide) (fun c_4 => ?_) (fun c_4 => ?_)
  · have hww : inR 2 w = true := by rw [← isHalf_eq]; exact bI_ne c_4
    refine o_bipush dX4_meet_14 bp_m9 ?_
    refine o_istn_2 dX4_meet_16 rfl rfl (Nat.le_of_ble_eq_true rfl) ?_
    refine o_sipush dX4_meet_17 sp_1000 ?_
    refine o_istn_3 dX4_meet_20 rfl rfl (Nat.le_of_ble_eq_true rfl) ?_
    refine o_iconst dX4_meet_21 ic_0 ?_
    refine o_istg_4 dX4_meet_22 rfl (Nat.le_of_ble_eq_true rfl) ?_
    exact o_eqa (by rw [nI_0]; rfl) rfl (lX4_meet hS hww 9 0 _ (by omega) (by omega))
  · have hww : inR 2 w = false := by rw [← isHalf_eq]; exact bI_0.mp c_4
    refine o_aload_n dX4_meet_7 rfl rfl ?_
    refine o_bipush dX4_meet_8 bp_m2 ?_
    refine o_callVd (w2 := xW r (wsO r) (fsO r) m mw mf im (wsO im) (fsO im) lt rw (rfu rf 2) ga hi (nI L) (nI R)) (is := [0, 1, 2, 3, 4, 5, 6, 7, 8, 9, 10, 11, 12, 13, 14, 15, 16, 17, 18, 19, 20, 21, 22, 23, 24, 25, 26, 27, 28, 29, 30, 31, 32, 33, 34, 35, 36, 37, 38, 39, 40, 41, 42, 43]) (tX4_refused (c := 2) rfl (by decide)) ⟨rfl, rfl⟩ dX4_meet_10 wd233 cvX4_refused rfl ⟨(Nat.le_of_ble_eq_true rfl), (Nat.le_of_ble_eq_true rfl)⟩ hcX4 rfl rfl rfl rfl (Nat.le_of_ble_eq_true rfl) (Nat.le_of_ble_eq_true rfl) (Nat.le_of_ble_eq_true rfl) (pb_seg 0 (Nat.le_of_ble_eq_true rfl) rfl rfl rfl) ?_
    refine o_iret dX4_meet_13 rfl (vp_nar_int _) (Nat.le_of_ble_eq_true rfl) (Nat.le_of_ble_eq_true rfl) ?_
    exact CP.mk (by simp only [s_meet, hww]; rfl)
theorem tX4_row {r m mw mf im lt rw rf ga : Nat → Int32} {hi : Int32} {L R : Nat} (hS : SOk r) (hR : R ≤ 16) {v : Int32} : PM mX4_row [.ref 0, .int v] (xW r (wsO r) (fsO r) m mw mf im (wsO im) (fsO im) lt rw rf ga hi (nI L) (nI R)) (CP (s_row v (r, im, hi, lt, L, rw, R, rf))) := by
  refine PM.ofp 0 (by decide) (Nat.le_of_ble_eq_true rfl) ?_
  show Ok mX4_row none 0 [some (.ref 0), some (.int v)] [] (xW r (wsO r) (fsO r) m mw mf im (wsO im) (fsO im) lt rw rf ga hi (nI L) (nI R)) 0 0 _
  refine o_iload_n dX4_row_0 rfl rfl ?_
  refine o_if_ge (tgt := 11) dX4_row_1 (by decide) (fun c_1 => ?_) (fun c_1 => ?_)
  · have q1 : ¬ v < 0 := Int32.not_lt.mpr c_1
    refine o_iload_n dX4_row_11 rfl rfl ?_
    refine o_bipush dX4_row_12 bp_99 ?_
    refine o_icmp_gt (tgt := 27) dX4_row_14 (by decide) (fun c_14 => ?_) (fun c_14 => ?_)
    · skip
      refine o_aload_n dX4_row_27 rfl rfl ?_
      refine o_bipush dX4_row_28 bp_m6 ?_
      refine o_callVd (w2 := xW r (wsO r) (fsO r) m mw mf im (wsO im) (fsO im) lt rw (rfu rf 6) ga hi (nI L) (nI R)) (is := [0, 1, 2, 3, 4, 5, 6, 7, 8, 9, 10, 11, 12, 13, 14, 15, 16, 17, 18, 19, 20, 21, 22, 23, 24, 25, 26, 27, 28, 29, 30, 31, 32, 33, 34, 35, 36, 37, 38, 39, 40, 41, 42, 43]) (tX4_refused (c := 6) rfl (by decide)) ⟨rfl, rfl⟩ dX4_row_30 wd233 cvX4_refused rfl ⟨(Nat.le_of_ble_eq_true rfl), (Nat.le_of_ble_eq_true rfl)⟩ hcX4 rfl rfl rfl rfl (Nat.le_of_ble_eq_true rfl) (Nat.le_of_ble_eq_true rfl) (Nat.le_of_ble_eq_true rfl) (pb_seg 0 (Nat.le_of_ble_eq_true rfl) rfl rfl rfl) ?_
      refine o_iret dX4_row_33 rfl (vp_nar_int _) (Nat.le_of_ble_eq_true rfl) (Nat.le_of_ble_eq_true rfl) ?_
      exact CP.mk (by simp only [s_row, if_neg q1, c_14, true_or, if_true]; rfl)
    · skip
      refine o_aload_n dX4_row_17 rfl rfl ?_
      refine o_getf (j := 5) dX4_row_18 rfl hcX4 inX4 (Nat.le_of_ble_eq_true rfl) wd209 rfl rfl ?_
      refine o_callVr (is := [27, 28]) (tX2_isFull (by decide) (by omega)) ⟨rfl, rfl⟩ dX4_row_21 wd239 cvX2_isFull rfl ⟨(Nat.le_of_ble_eq_true rfl), (Nat.le_of_ble_eq_true rfl)⟩ hcX2 rfl rfl rfl rfl (Nat.le_of_ble_eq_true rfl) (Nat.le_of_ble_eq_true rfl) (Nat.le_of_ble_eq_true rfl) ?_
      refine o_if_eq (tgt := 34) dX4_row_24 (by decide) (fun c_24 => ?_) (fun c_24 => ?_)
      · have q3 : ¬ R = 16 := fun e => absurd (bI_0.mp c_24) (by rw [e]; decide)
        refine o_aload_n dX4_row_34 rfl rfl ?_
        refine o_getf (j := 5) dX4_row_35 rfl hcX4 inX4 (Nat.le_of_ble_eq_true rfl) wd209 rfl rfl ?_
        refine o_iload_n dX4_row_38 rfl rfl ?_
        refine o_callVd (w2 := xW r (wsO r) (fsO r) m mw mf im (wsO im) (fsO im) lt (upd rw R v) rf ga hi (nI L) (nI (R + 1))) (is := [27, 28]) (tX2_add (by decide) (by omega)) ⟨rfl, rfl⟩ dX4_row_39 wd243 cvX2_add rfl ⟨(Nat.le_of_ble_eq_true rfl), (Nat.le_of_ble_eq_true rfl)⟩ hcX2 rfl rfl rfl rfl (Nat.le_of_ble_eq_true rfl) (Nat.le_of_ble_eq_true rfl) (Nat.le_of_ble_eq_true rfl) (pb_seg 27 (Nat.le_of_ble_eq_true rfl) rfl rfl rfl) ?_
        refine o_iret dX4_row_42 rfl (vp_nar_int _) (Nat.le_of_ble_eq_true rfl) (Nat.le_of_ble_eq_true rfl) ?_
        exact CP.mk (by simp only [s_row, if_neg q1, c_14, q3, or_self, if_false])
      · have q3 : R = 16 := Nat.le_antisymm hR (of_decide_eq_true (bI_ne c_24))
        refine o_aload_n dX4_row_27 rfl rfl ?_
        refine o_bipush dX4_row_28 bp_m6 ?_
        refine o_callVd (w2 := xW r (wsO r) (fsO r) m mw mf im (wsO im) (fsO im) lt rw (rfu rf 6) ga hi (nI L) (nI R)) (is := [0, 1, 2, 3, 4, 5, 6, 7, 8, 9, 10, 11, 12, 13, 14, 15, 16, 17, 18, 19, 20, 21, 22, 23, 24, 25, 26, 27, 28, 29, 30, 31, 32, 33, 34, 35, 36, 37, 38, 39, 40, 41, 42, 43]) (tX4_refused (c := 6) rfl (by decide)) ⟨rfl, rfl⟩ dX4_row_30 wd233 cvX4_refused rfl ⟨(Nat.le_of_ble_eq_true rfl), (Nat.le_of_ble_eq_true rfl)⟩ hcX4 rfl rfl rfl rfl (Nat.le_of_ble_eq_true rfl) (Nat.le_of_ble_eq_true rfl) (Nat.le_of_ble_eq_true rfl) (pb_seg 0 (Nat.le_of_ble_eq_true rfl) rfl rfl rfl) ?_
        refine o_iret dX4_row_33 rfl (vp_nar_int _) (Nat.le_of_ble_eq_true rfl) (Nat.le_of_ble_eq_true rfl) ?_
        exact CP.mk (by simp only [s_row, if_neg q1, q3, or_true, if_true]; rfl)
  · have q1 : v < 0 := Int32.not_le.mp c_1
    refine o_aload_n dX4_row_4 rfl rfl ?_
    refine o_bipush dX4_row_5 bp_m4 ?_
    refine o_callVd (w2 := xW r (wsO r) (fsO r) m mw mf im (wsO im) (fsO im) lt rw (rfu rf 4) ga hi (nI L) (nI R)) (is := [0, 1, 2, 3, 4, 5, 6, 7, 8, 9, 10, 11, 12, 13, 14, 15, 16, 17, 18, 19, 20, 21, 22, 23, 24, 25, 26, 27, 28, 29, 30, 31, 32, 33, 34, 35, 36, 37, 38, 39, 40, 41, 42, 43]) (tX4_refused (c := 4) rfl (by decide)) ⟨rfl, rfl⟩ dX4_row_7 wd233 cvX4_refused rfl ⟨(Nat.le_of_ble_eq_true rfl), (Nat.le_of_ble_eq_true rfl)⟩ hcX4 rfl rfl rfl rfl (Nat.le_of_ble_eq_true rfl) (Nat.le_of_ble_eq_true rfl) (Nat.le_of_ble_eq_true rfl) (pb_seg 0 (Nat.le_of_ble_eq_true rfl) rfl rfl rfl) ?_
    refine o_iret dX4_row_10 rfl (vp_nar_int _) (Nat.le_of_ble_eq_true rfl) (Nat.le_of_ble_eq_true rfl) ?_
    exact CP.mk (by simp only [s_row, if_pos q1]; rfl)
theorem tX4_clear {r m mw mf im lt rw rf ga : Nat → Int32} {hi : Int32} {L R : Nat} (hS : SOk r) : PM mX4_clear [.ref 0] (xW r (wsO r) (fsO r) m mw mf im (wsO im) (fsO im) lt rw rf ga hi (nI L) (nI R)) (CP (s_clear (r, im, hi, lt, L, rw, R, rf))) := by
  refine PM.ofp 0 (by decide) (Nat.le_of_ble_eq_true rfl) ?_
  show Ok mX4_clear none 0 [some (.ref 0)] [] (xW r (wsO r) (fsO r) m mw mf im (wsO im) (fsO im) lt rw rf ga hi (nI L) (nI R)) 0 0 _
  refine o_aload_n dX4_clear_0 rfl rfl ?_
  refine o_getf (j := 5) dX4_clear_1 rfl hcX4 inX4 (Nat.le_of_ble_eq_true rfl) wd209 rfl rfl ?_
  refine o_callVd (w2 := xW r (wsO r) (fsO r) m mw mf im (wsO im) (fsO im) lt rw rf ga hi (nI L) (nI 0)) (is := [27, 28]) (tX2_empty) ⟨rfl, rfl⟩ dX4_clear_4 wd371 cvX2_empty rfl ⟨(Nat.le_of_ble_eq_true rfl), (Nat.le_of_ble_eq_true rfl)⟩ hcX2 rfl rfl rfl rfl (Nat.le_of_ble_eq_true rfl) (Nat.le_of_ble_eq_true rfl) (Nat.le_of_ble_eq_true rfl) (pb_seg 27 (Nat.le_of_ble_eq_true rfl) rfl rfl rfl) ?_
  refine o_iret dX4_clear_7 rfl (vp_nar_int _) (Nat.le_of_ble_eq_true rfl) (Nat.le_of_ble_eq_true rfl) ?_
  exact CP.mk (rfl)
theorem inR_dec {N k : Nat} (hN : N < 2147483648) (hk : k < 2147483648) : inR N (nI k) = decide (k < N) := by
  by_cases c : k < N
  · rw [inR_nI hN c, decide_eq_true c]
  · rw [decide_eq_false c, inR, decide_eq_true (nI_le (by omega) hk), Bool.not_true, Bool.and_false]
theorem lX4_judge {r m mw mf im lt rw rf ga : Nat → Int32} {hi : Int32} {L R : Nat} (hS : SOk r) {n : Nat} (hn : n ≤ 16) : ∀ (q k : Nat), k + q = n → dfS (fun p => decide (nN r ≤ p) || !decide (r (50 + 3 * p) = rw p)) q k = jgS r rw n → Ok mX4_judge none 10 [some (.ref 0), some (.int (nI n)), some (.int (nI k))] [] (xW r (wsO r) (fsO r) m mw mf im (wsO im) (fsO im) lt rw rf ga hi (nI L) (nI 0)) 0 0 (fun v w => v = some (.int (jgS r rw n)) ∧ w = xW r (wsO r) (fsO r) m mw mf im (wsO im) (fsO im) lt rw rf ga hi (nI L) (nI 0)) := by
  have h6 := hS.n6
  intro q
  induction q with
  | zero =>
    intro k hk hR
    have hk : k = n := by omega
    subst hk
    refine o_iload_n dX4_judge_10 rfl rfl ?_
    refine o_iload_n dX4_judge_11 rfl rfl ?_
    refine o_icmp_ge (tgt := 59) dX4_judge_12 (by decide) (fun _ => ?_) (fun c => absurd (Int32.le_refl _) c)
    refine o_bipush dX4_judge_59 bp_m9 ?_
    refine o_iret dX4_judge_61 rfl (vp_nar_int _) (Nat.le_of_ble_eq_true rfl) (Nat.le_of_ble_eq_true rfl) ?_
    exact ⟨by rw [← hR]; rfl, rfl⟩
  | succ q ih =>
  intro k hk hR
  refine o_iload_n dX4_judge_10 rfl rfl ?_
  refine o_iload_n dX4_judge_11 rfl rfl ?_
  refine o_icmp_ge (tgt := 59) dX4_judge_12 (by decide) (fun c_12 => ?_) (fun c_12 => ?_)
  · exact absurd (geI (by omega) (by omega) c_12) (by omega)
  · skip
    refine o_aload_n dX4_judge_15 rfl rfl ?_
    refine o_getf (j := 0) dX4_judge_16 rfl hcX4 inX4 (Nat.le_of_ble_eq_true rfl) wd204 rfl rfl ?_
    refine o_iload_n dX4_judge_19 rfl rfl ?_
    refine o_callVr (is := [2, 3, 4, 5, 6, 7, 8, 9, 10, 11, 12, 13]) (xhas hS) ⟨rfl, rfl⟩ dX4_judge_20 wd384 cvX3_has rfl ⟨(Nat.le_of_ble_eq_true rfl), (Nat.le_of_ble_eq_true rfl)⟩ hcX3 rfl rfl rfl rfl (Nat.le_of_ble_eq_true rfl) (Nat.le_of_ble_eq_true rfl) (Nat.le_of_ble_eq_true rfl) ?_
    refine o_if_eq (tgt := 51) dX4_judge_23 (by decide) (fun c_23 => ?_) (fun c_23 => ?_)
    · have q1 : ¬ k < nN r := of_decide_eq_false (by rw [← inR_dec (by omega) (by omega)]; exact bI_0.mp c_23)
      refine o_iload_n dX4_judge_51 rfl rfl ?_
      refine o_iret dX4_judge_52 rfl (vp_nar_int _) (Nat.le_of_ble_eq_true rfl) (Nat.le_of_ble_eq_true rfl) ?_
      exact ⟨by rw [← hR, dfS, if_pos (by show (decide (nN r ≤ k) || _) = true; rw [decide_eq_true (by omega), Bool.true_or])], rfl⟩
    · have q1 : k < nN r := of_decide_eq_true (by rw [← inR_dec (by omega) (by omega)]; exact bI_ne c_23)
      refine o_aload_n dX4_judge_26 rfl rfl ?_
      refine o_getf (j := 0) dX4_judge_27 rfl hcX4 inX4 (Nat.le_of_ble_eq_true rfl) wd204 rfl rfl ?_
      refine o_getf (j := 1) dX4_judge_30 rfl hcX3 inX3 (Nat.le_of_ble_eq_true rfl) wd141 rfl rfl ?_
      refine o_iload_n dX4_judge_33 rfl rfl ?_
      refine o_callSr (is := [11]) (at_p (b := 50) (s := 3) (n := 7) (by decide) (by omega)) ⟨rfl, rfl⟩ dX4_judge_34 wd237 csX4_at rfl ⟨(Nat.le_of_ble_eq_true rfl), (Nat.le_of_ble_eq_true rfl)⟩ rfl rfl rfl (Nat.le_of_ble_eq_true rfl) (Nat.le_of_ble_eq_true rfl) (Nat.le_of_ble_eq_true rfl) ?_
      refine o_aload_n dX4_judge_37 rfl rfl ?_
      refine o_getf (j := 5) dX4_judge_38 rfl hcX4 inX4 (Nat.le_of_ble_eq_true rfl) wd209 rfl rfl ?_
      refine o_getf (j := 0) dX4_judge_41 rfl hcX2 inX2 (Nat.le_of_ble_eq_true rfl) wd188 rfl rfl ?_
      refine o_iload_n dX4_judge_44 rfl rfl ?_
      refine o_callSr (is := [28]) (at_f (by decide) rfl (by omega)) ⟨rfl, rfl⟩ dX4_judge_45 wd237 csX4_at rfl ⟨(Nat.le_of_ble_eq_true rfl), (Nat.le_of_ble_eq_true rfl)⟩ rfl rfl rfl (Nat.le_of_ble_eq_true rfl) (Nat.le_of_ble_eq_true rfl) (Nat.le_of_ble_eq_true rfl) ?_
      refine o_icmp_eq (tgt := 53) dX4_judge_48 (by decide) (fun c_48 => ?_) (fun c_48 => ?_)
      · skip
        refine o_inc_2 dX4_judge_53 rfl ic_1 (Nat.le_of_ble_eq_true rfl) ?_
        refine o_goto (tgt := 10) dX4_judge_56 (by decide) ?_
        exact o_eqa (by rw [nI_1]) rfl (ih (k + 1) (by omega) (by
          rw [← hR, dfS, if_neg (by show ¬ (decide (nN r ≤ k) || !decide (r (50 + 3 * k) = rw k)) = true; rw [decide_eq_false (by omega), decide_eq_true c_48]; decide)]))
      · skip
        refine o_iload_n dX4_judge_51 rfl rfl ?_
        refine o_iret dX4_judge_52 rfl (vp_nar_int _) (Nat.le_of_ble_eq_true rfl) (Nat.le_of_ble_eq_true rfl) ?_
        exact ⟨by rw [← hR, dfS, if_pos (by show (_ || !decide (r (50 + 3 * k) = rw k)) = true; rw [decide_eq_false c_48, Bool.not_false, Bool.or_true])], rfl⟩
theorem tX4_judge {r m mw mf im lt rw rf ga : Nat → Int32} {hi : Int32} {L R : Nat} (hS : SOk r) (hR : R ≤ 16) : PM mX4_judge [.ref 0] (xW r (wsO r) (fsO r) m mw mf im (wsO im) (fsO im) lt rw rf ga hi (nI L) (nI R)) (CP (s_judge (r, im, hi, lt, L, rw, R, rf))) := by
  refine PM.ofp 2 (by decide) (Nat.le_of_ble_eq_true rfl) ?_
  show Ok mX4_judge none 0 [some (.ref 0), none, none] [] (xW r (wsO r) (fsO r) m mw mf im (wsO im) (fsO im) lt rw rf ga hi (nI L) (nI R)) 0 0 _
  refine o_aload_n dX4_judge_0 rfl rfl ?_
  refine o_getf (j := 5) dX4_judge_1 rfl hcX4 inX4 (Nat.le_of_ble_eq_true rfl) wd209 rfl rfl ?_
  refine o_callVd (w2 := xW r (wsO r) (fsO r) m mw mf im (wsO im) (fsO im) lt rw rf ga hi (nI L) (nI 0)) (is := [27, 28]) (tX2_empty) ⟨rfl, rfl⟩ dX4_judge_4 wd371 cvX2_empty rfl ⟨(Nat.le_of_ble_eq_true rfl), (Nat.le_of_ble_eq_true rfl)⟩ hcX2 rfl rfl rfl rfl (Nat.le_of_ble_eq_true rfl) (Nat.le_of_ble_eq_true rfl) (Nat.le_of_ble_eq_true rfl) (pb_seg 27 (Nat.le_of_ble_eq_true rfl) rfl rfl rfl) ?_
  refine o_istn_1 dX4_judge_7 rfl rfl (Nat.le_of_ble_eq_true rfl) ?_
  refine o_iconst dX4_judge_8 ic_0 ?_
  refine o_istn_2 dX4_judge_9 rfl rfl (Nat.le_of_ble_eq_true rfl) ?_
  refine o_post (fun v w h => ?_) (o_eqa (by rw [nI_0]) rfl (lX4_judge (R := R) hS hR R 0 (by omega) rfl))
  obtain ⟨rfl, rfl⟩ := h
  exact CP.mk (rfl)
theorem tX4_image {r m mw mf im lt rw rf ga : Nat → Int32} {hi : Int32} {L R : Nat} (hS : SOk r) : PM mX4_image [.ref 0] (xW r (wsO r) (fsO r) m mw mf im (wsO im) (fsO im) lt rw rf ga hi (nI L) (nI R)) (CP (s_image (r, im, hi, lt, L, rw, R, rf))) := by
  refine PM.ofp 0 (by decide) (Nat.le_of_ble_eq_true rfl) ?_
  show Ok mX4_image none 0 [some (.ref 0)] [] (xW r (wsO r) (fsO r) m mw mf im (wsO im) (fsO im) lt rw rf ga hi (nI L) (nI R)) 0 0 _
  refine o_aload_n dX4_image_0 rfl rfl ?_
  refine o_getf (j := 2) dX4_image_1 rfl hcX4 inX4 (Nat.le_of_ble_eq_true rfl) wd206 rfl rfl ?_
  refine o_aload_n dX4_image_4 rfl rfl ?_
  refine o_getf (j := 0) dX4_image_5 rfl hcX4 inX4 (Nat.le_of_ble_eq_true rfl) wd204 rfl rfl ?_
  refine o_callVd (w2 := xW r (wsO r) (fsO r) m mw mf r (wsO r) (fsO r) lt rw rf ga hi (nI L) (nI R)) (is := [32, 33, 34, 35, 36, 37, 38, 39, 40, 41, 42, 43, 2, 3, 4, 5, 6, 7, 8, 9, 10, 11, 12, 13]) (tX3_become) ⟨rfl, rfl⟩ dX4_image_8 wd273 cvX3_become rfl ⟨(Nat.le_of_ble_eq_true rfl), (Nat.le_of_ble_eq_true rfl)⟩ hcX3 rfl rfl rfl rfl (Nat.le_of_ble_eq_true rfl) (Nat.le_of_ble_eq_true rfl) (Nat.le_of_ble_eq_true rfl) (pb_two (w1 := xW r (wsO r) (fsO r) m mw mf r (wsO r) (fsO r) lt rw rf ga hi (nI L) (nI R)) 12 32 2 12 rfl rfl (Nat.le_of_ble_eq_true rfl) rfl rfl rfl (Nat.le_of_ble_eq_true rfl) rfl rfl rfl) ?_
  refine o_aload_n dX4_image_11 rfl rfl ?_
  refine o_iconst dX4_image_12 ic_1 ?_
  refine o_putf (j := 3) tyX4 dX4_image_13 rfl hcX4 inX4 tyX4_ok nmX4 (Nat.le_of_ble_eq_true rfl) wd207 rfl rfl (fun _ => rfl) (fun _ => rfl) (Nat.le_of_ble_eq_true rfl) rfl ?_
  refine o_eqw (w2 := xW r (wsO r) (fsO r) m mw mf r (wsO r) (fsO r) lt rw rf ga 1 (nI L) (nI R)) rfl ?_
  refine o_aload_n dX4_image_16 rfl rfl ?_
  refine o_getf (j := 0) dX4_image_17 rfl hcX4 inX4 (Nat.le_of_ble_eq_true rfl) wd204 rfl rfl ?_
  refine o_getf (j := 5) dX4_image_20 rfl hcX3 inX3 (Nat.le_of_ble_eq_true rfl) wd152 rfl rfl ?_
  refine o_iret dX4_image_23 rfl (vp_nar_int _) (Nat.le_of_ble_eq_true rfl) (Nat.le_of_ble_eq_true rfl) ?_
  exact CP.mk (rfl)
theorem tX4_on {r m mw mf im lt rw rf ga : Nat → Int32} {hi : Int32} {L R : Nat} (hS : SOk r) : PM mX4_on [.ref 0] (xW r (wsO r) (fsO r) m mw mf im (wsO im) (fsO im) lt rw rf ga hi (nI L) (nI R)) (CP (s_on (r, im, hi, lt, L, rw, R, rf))) := by
  refine PM.ofp 0 (by decide) (Nat.le_of_ble_eq_true rfl) ?_
  show Ok mX4_on none 0 [some (.ref 0)] [] (xW r (wsO r) (fsO r) m mw mf im (wsO im) (fsO im) lt rw rf ga hi (nI L) (nI R)) 0 0 _
  refine o_aload_n dX4_on_0 rfl rfl ?_
  refine o_getf (j := 3) dX4_on_1 rfl hcX4 inX4 (Nat.le_of_ble_eq_true rfl) wd207 rfl rfl ?_
  refine o_if_ne (tgt := 14) dX4_on_4 (by decide) (fun c_4 => ?_) (fun c_4 => ?_)
  · skip
    refine o_aload_n dX4_on_14 rfl rfl ?_
    refine o_getf (j := 0) dX4_on_15 rfl hcX4 inX4 (Nat.le_of_ble_eq_true rfl) wd204 rfl rfl ?_
    refine o_aload_n dX4_on_18 rfl rfl ?_
    refine o_getf (j := 2) dX4_on_19 rfl hcX4 inX4 (Nat.le_of_ble_eq_true rfl) wd206 rfl rfl ?_
    refine o_callVd (w2 := xW im (wsO im) (fsO im) m mw mf im (wsO im) (fsO im) lt rw rf ga hi (nI L) (nI R)) (is := [2, 3, 4, 5, 6, 7, 8, 9, 10, 11, 12, 13, 32, 33, 34, 35, 36, 37, 38, 39, 40, 41, 42, 43]) (tX3_become) ⟨rfl, rfl⟩ dX4_on_22 wd273 cvX3_become rfl ⟨(Nat.le_of_ble_eq_true rfl), (Nat.le_of_ble_eq_true rfl)⟩ hcX3 rfl rfl rfl rfl (Nat.le_of_ble_eq_true rfl) (Nat.le_of_ble_eq_true rfl) (Nat.le_of_ble_eq_true rfl) (pb_two (w1 := xW im (wsO im) (fsO im) m mw mf im (wsO im) (fsO im) lt rw rf ga hi (nI L) (nI R)) 12 2 32 12 rfl rfl (Nat.le_of_ble_eq_true rfl) rfl rfl rfl (Nat.le_of_ble_eq_true rfl) rfl rfl rfl) ?_
    refine o_aload_n dX4_on_25 rfl rfl ?_
    refine o_getf (j := 0) dX4_on_26 rfl hcX4 inX4 (Nat.le_of_ble_eq_true rfl) wd204 rfl rfl ?_
    refine o_getf (j := 5) dX4_on_29 rfl hcX3 inX3 (Nat.le_of_ble_eq_true rfl) wd152 rfl rfl ?_
    refine o_iret dX4_on_32 rfl (vp_nar_int _) (Nat.le_of_ble_eq_true rfl) (Nat.le_of_ble_eq_true rfl) ?_
    exact CP.mk (by simp only [s_on, if_neg c_4])
  · skip
    refine o_aload_n dX4_on_7 rfl rfl ?_
    refine o_bipush dX4_on_8 bp_m3 ?_
    refine o_callVd (w2 := xW r (wsO r) (fsO r) m mw mf im (wsO im) (fsO im) lt rw (rfu rf 3) ga hi (nI L) (nI R)) (is := [0, 1, 2, 3, 4, 5, 6, 7, 8, 9, 10, 11, 12, 13, 14, 15, 16, 17, 18, 19, 20, 21, 22, 23, 24, 25, 26, 27, 28, 29, 30, 31, 32, 33, 34, 35, 36, 37, 38, 39, 40, 41, 42, 43]) (tX4_refused (c := 3) rfl (by decide)) ⟨rfl, rfl⟩ dX4_on_10 wd233 cvX4_refused rfl ⟨(Nat.le_of_ble_eq_true rfl), (Nat.le_of_ble_eq_true rfl)⟩ hcX4 rfl rfl rfl rfl (Nat.le_of_ble_eq_true rfl) (Nat.le_of_ble_eq_true rfl) (Nat.le_of_ble_eq_true rfl) (pb_seg 0 (Nat.le_of_ble_eq_true rfl) rfl rfl rfl) ?_
    refine o_iret dX4_on_13 rfl (vp_nar_int _) (Nat.le_of_ble_eq_true rfl) (Nat.le_of_ble_eq_true rfl) ?_
    exact CP.mk (by simp only [s_on, if_pos c_4]; rfl)
theorem cnt_out {w : Int32} (h : w.toInt < 0 ∨ 7 < w.toInt) : inR 4 w = false ∧ ¬ w = 4 ∧ ¬ w = 5 ∧ ¬ w = 6 ∧ ¬ w = 7 :=
  ⟨sw_inR (D := 4) (hi := 3) (by omega) rfl (by omega), fun e => by subst e; exact absurd h (by decide), fun e => by subst e; exact absurd h (by decide), fun e => by subst e; exact absurd h (by decide), fun e => by subst e; exact absurd h (by decide)⟩
theorem cnt_lo {w : Int32} (h : w ≤ 10) : isInB w 11 16 = false := by
  have h2 : w < 11 := Int32.lt_iff_toInt_lt.mpr (by
    have := Int32.le_iff_toInt_le.mp h
    have e : (10 : Int32).toInt = 10 := by decide
    have e2 : (11 : Int32).toInt = 11 := by decide
    omega)
  unfold isInB; rw [decide_eq_true h2]; rfl
theorem cnt_hi {w : Int32} (h : 16 < w) : isInB w 11 16 = false := by
  unfold isInB; rw [decide_eq_true h, Bool.not_true, Bool.and_false]
theorem cnt_in {w : Int32} (h : ¬ w ≤ 10) (h2 : ¬ 16 < w) : isInB w 11 16 = true := by
  have h3 : ¬ w < 11 := fun q => h (Int32.le_iff_toInt_le.mpr (by
    have := Int32.lt_iff_toInt_lt.mp q
    have e : (10 : Int32).toInt = 10 := by decide
    have e2 : (11 : Int32).toInt = 11 := by decide
    omega))
  unfold isInB; rw [decide_eq_false h3, decide_eq_false h2]; rfl
theorem tX4_count {r m mw mf im lt rw rf ga : Nat → Int32} {hi : Int32} {L R : Nat} (hS : SOk r) {w : Int32} : PM mX4_count [.ref 0, .int w] (xW r (wsO r) (fsO r) m mw mf im (wsO im) (fsO im) lt rw rf ga hi (nI L) (nI R)) (CP (s_count w (r, im, hi, lt, L, rw, R, rf))) := by
  refine PM.ofp 0 (by decide) (Nat.le_of_ble_eq_true rfl) ?_
  show Ok mX4_count none 0 [some (.ref 0), some (.int w)] [] (xW r (wsO r) (fsO r) m mw mf im (wsO im) (fsO im) lt rw rf ga hi (nI L) (nI R)) 0 0 _
  refine o_iload_n dX4_count_0 rfl rfl ?_
  refine o_sw (lo := 0) (hi := 7) 8 (by decide) (by decide) (by decide) (fun hsw => ?_) (fun j hj hsw => ?_)
  · refine o_tabOut (tgt := 118) dX4_count_1 hsw (by decide) ?_
    refine o_iload_n dX4_count_118 rfl rfl ?_
    refine o_bipush dX4_count_119 bp_10 ?_
    refine o_icmp_le (tgt := 144) dX4_count_121 (by decide) (fun c_121 => ?_) (fun c_121 => ?_)
    · skip
      refine o_bipush dX4_count_144 bp_m9 ?_
      refine o_iret dX4_count_146 rfl (vp_nar_int _) (Nat.le_of_ble_eq_true rfl) (Nat.le_of_ble_eq_true rfl) ?_
      exact CP.mk (by obtain ⟨g0, g4, g5, g6, g7⟩ := cnt_out hsw; simp only [s_count, cnt_lo c_121, g0, g4, g5, g6, g7, if_false, Bool.false_eq_true])
    · skip
      refine o_iload_n dX4_count_124 rfl rfl ?_
      refine o_bipush dX4_count_125 bp_16 ?_
      refine o_icmp_gt (tgt := 144) dX4_count_127 (by decide) (fun c_127 => ?_) (fun c_127 => ?_)
      · skip
        refine o_bipush dX4_count_144 bp_m9 ?_
        refine o_iret dX4_count_146 rfl (vp_nar_int _) (Nat.le_of_ble_eq_true rfl) (Nat.le_of_ble_eq_true rfl) ?_
        exact CP.mk (by obtain ⟨g0, g4, g5, g6, g7⟩ := cnt_out hsw; simp only [s_count, cnt_hi c_127, g0, g4, g5, g6, g7, if_false, Bool.false_eq_true])
      · have hy := cnt_in c_121 c_127
        obtain ⟨q, hq1, hq2, rfl⟩ := isInB_yes (a := 11) (b := 16) (by omega) (by omega) hy
        have ec := cN_nI (d := q) (by omega)
        refine o_aload_n dX4_count_130 rfl rfl ?_
        refine o_getf (j := 6) dX4_count_131 rfl hcX4 inX4 (Nat.le_of_ble_eq_true rfl) wd210 rfl rfl ?_
        refine o_iload_n dX4_count_134 rfl rfl ?_
        refine o_bipush dX4_count_135 bp_10 ?_
        refine o_isub dX4_count_137 ?_
        refine o_callSr (is := [1]) (at_f (by decide) (show nI q - nI 10 = nI (q - 10) from pk_sub (by omega)) (by omega)) ⟨rfl, rfl⟩ dX4_count_138 wd237 csX4_at rfl ⟨(Nat.le_of_ble_eq_true rfl), (Nat.le_of_ble_eq_true rfl)⟩ rfl rfl rfl (Nat.le_of_ble_eq_true rfl) (Nat.le_of_ble_eq_true rfl) (Nat.le_of_ble_eq_true rfl) ?_
        refine o_goto (tgt := 146) dX4_count_141 (by decide) ?_
        refine o_iret dX4_count_146 rfl (vp_nar_int _) (Nat.le_of_ble_eq_true rfl) (Nat.le_of_ble_eq_true rfl) ?_
        exact CP.mk (by simp only [s_count, show isInB (nI q) 11 16 = true from hy, if_true, ec])
  · match j, hj, hsw with
    | 0, _, hsw =>
      refine o_tabInE (tgt := 48) (off := 47) dX4_count_1 hsw (by decide) (by decide) (by decide) (by decide) ?_
      have hsw := sw_eq (l := 0) hsw (by decide)
      refine o_aload_n dX4_count_48 rfl rfl ?_
      refine o_getf (j := 0) dX4_count_49 rfl hcX4 inX4 (Nat.le_of_ble_eq_true rfl) wd204 rfl rfl ?_
      refine o_getf (j := 0) dX4_count_52 rfl hcX3 inX3 (Nat.le_of_ble_eq_true rfl) wd138 rfl rfl ?_
      refine o_getf (j := 7) dX4_count_55 rfl hcX0 inX0 (Nat.le_of_ble_eq_true rfl) wd118 rfl rfl ?_
      refine o_iret dX4_count_58 rfl (vp_nar_int _) (Nat.le_of_ble_eq_true rfl) (Nat.le_of_ble_eq_true rfl) ?_
      exact CP.mk (by subst hsw; rfl)
    | 1, _, hsw =>
      refine o_tabInE (tgt := 59) (off := 58) dX4_count_1 hsw (by decide) (by decide) (by decide) (by decide) ?_
      have hsw := sw_eq (l := 1) hsw (by decide)
      refine o_aload_n dX4_count_59 rfl rfl ?_
      refine o_getf (j := 0) dX4_count_60 rfl hcX4 inX4 (Nat.le_of_ble_eq_true rfl) wd204 rfl rfl ?_
      refine o_getf (j := 4) dX4_count_63 rfl hcX3 inX3 (Nat.le_of_ble_eq_true rfl) wd150 rfl rfl ?_
      refine o_iret dX4_count_66 rfl (vp_nar_int _) (Nat.le_of_ble_eq_true rfl) (Nat.le_of_ble_eq_true rfl) ?_
      exact CP.mk (by subst hsw; rfl)
    | 2, _, hsw =>
      refine o_tabInE (tgt := 67) (off := 66) dX4_count_1 hsw (by decide) (by decide) (by decide) (by decide) ?_
      have hsw := sw_eq (l := 2) hsw (by decide)
      refine o_aload_n dX4_count_67 rfl rfl ?_
      refine o_getf (j := 0) dX4_count_68 rfl hcX4 inX4 (Nat.le_of_ble_eq_true rfl) wd204 rfl rfl ?_
      refine o_getf (j := 5) dX4_count_71 rfl hcX3 inX3 (Nat.le_of_ble_eq_true rfl) wd152 rfl rfl ?_
      refine o_iret dX4_count_74 rfl (vp_nar_int _) (Nat.le_of_ble_eq_true rfl) (Nat.le_of_ble_eq_true rfl) ?_
      exact CP.mk (by subst hsw; rfl)
    | 3, _, hsw =>
      refine o_tabInE (tgt := 75) (off := 74) dX4_count_1 hsw (by decide) (by decide) (by decide) (by decide) ?_
      have hsw := sw_eq (l := 3) hsw (by decide)
      refine o_aload_n dX4_count_75 rfl rfl ?_
      refine o_getf (j := 0) dX4_count_76 rfl hcX4 inX4 (Nat.le_of_ble_eq_true rfl) wd204 rfl rfl ?_
      refine o_getf (j := 6) dX4_count_79 rfl hcX3 inX3 (Nat.le_of_ble_eq_true rfl) wd155 rfl rfl ?_
      refine o_iret dX4_count_82 rfl (vp_nar_int _) (Nat.le_of_ble_eq_true rfl) (Nat.le_of_ble_eq_true rfl) ?_
      exact CP.mk (by subst hsw; rfl)
    | 4, _, hsw =>
      refine o_tabInE (tgt := 83) (off := 82) dX4_count_1 hsw (by decide) (by decide) (by decide) (by decide) ?_
      have hsw := sw_eq (l := 4) hsw (by decide)
      refine o_aload_n dX4_count_83 rfl rfl ?_
      refine o_getf (j := 0) dX4_count_84 rfl hcX4 inX4 (Nat.le_of_ble_eq_true rfl) wd204 rfl rfl ?_
      refine o_callVr (is := [2, 3, 4, 5, 6, 7, 8, 9, 10, 11, 12, 13]) (tX3_homeBits (by have := hS.n6; omega) hS.e1) ⟨rfl, rfl⟩ dX4_count_87 wd679 cvX3_homeBits rfl ⟨(Nat.le_of_ble_eq_true rfl), (Nat.le_of_ble_eq_true rfl)⟩ hcX3 rfl rfl rfl rfl (Nat.le_of_ble_eq_true rfl) (Nat.le_of_ble_eq_true rfl) (Nat.le_of_ble_eq_true rfl) ?_
      refine o_iret dX4_count_90 rfl (vp_nar_int _) (Nat.le_of_ble_eq_true rfl) (Nat.le_of_ble_eq_true rfl) ?_
      exact CP.mk (by subst hsw; rw [home_eq hS.e4 _ (by have := hS.n6; omega)]; rfl)
    | 5, _, hsw =>
      refine o_tabInE (tgt := 91) (off := 90) dX4_count_1 hsw (by decide) (by decide) (by decide) (by decide) ?_
      have hsw := sw_eq (l := 5) hsw (by decide)
      refine o_aload_n dX4_count_91 rfl rfl ?_
      refine o_getf (j := 0) dX4_count_92 rfl hcX4 inX4 (Nat.le_of_ble_eq_true rfl) wd204 rfl rfl ?_
      refine o_callVr (is := [2, 3, 4, 5, 6, 7, 8, 9, 10, 11, 12, 13]) (tX3_moodsTogether (by have := hS.n6; omega) hS.e1) ⟨rfl, rfl⟩ dX4_count_95 wd618 cvX3_moodsTogether rfl ⟨(Nat.le_of_ble_eq_true rfl), (Nat.le_of_ble_eq_true rfl)⟩ hcX3 rfl rfl rfl rfl (Nat.le_of_ble_eq_true rfl) (Nat.le_of_ble_eq_true rfl) (Nat.le_of_ble_eq_true rfl) ?_
      refine o_iret dX4_count_98 rfl (vp_nar_int _) (Nat.le_of_ble_eq_true rfl) (Nat.le_of_ble_eq_true rfl) ?_
      exact CP.mk (by subst hsw; rfl)
    | 6, _, hsw =>
      refine o_tabInE (tgt := 99) (off := 98) dX4_count_1 hsw (by decide) (by decide) (by decide) (by decide) ?_
      have hsw := sw_eq (l := 6) hsw (by decide)
      refine o_aload_n dX4_count_99 rfl rfl ?_
      refine o_getf (j := 5) dX4_count_100 rfl hcX4 inX4 (Nat.le_of_ble_eq_true rfl) wd209 rfl rfl ?_
      refine o_getf (j := 1) dX4_count_103 rfl hcX2 inX2 (Nat.le_of_ble_eq_true rfl) wd191 rfl rfl ?_
      refine o_iret dX4_count_106 rfl (vp_nar_int _) (Nat.le_of_ble_eq_true rfl) (Nat.le_of_ble_eq_true rfl) ?_
      exact CP.mk (by subst hsw; rfl)
    | 7, _, hsw =>
      refine o_tabInE (tgt := 107) (off := 106) dX4_count_1 hsw (by decide) (by decide) (by decide) (by decide) ?_
      have hsw := sw_eq (l := 7) hsw (by decide)
      refine o_aload_n dX4_count_107 rfl rfl ?_
      refine o_getf (j := 4) dX4_count_108 rfl hcX4 inX4 (Nat.le_of_ble_eq_true rfl) wd208 rfl rfl ?_
      refine o_getf (j := 0) dX4_count_111 rfl hcX1 inX1 (Nat.le_of_ble_eq_true rfl) wd198 rfl rfl ?_
      refine o_getf (j := 1) dX4_count_114 rfl hcX2 inX2 (Nat.le_of_ble_eq_true rfl) wd191 rfl rfl ?_
      refine o_iret dX4_count_117 rfl (vp_nar_int _) (Nat.le_of_ble_eq_true rfl) (Nat.le_of_ble_eq_true rfl) ?_
      exact CP.mk (by subst hsw; rfl)
    | j + 8, hj, _ => exact absurd hj (by omega)
