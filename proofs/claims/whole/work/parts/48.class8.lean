theorem SOk.hb {r : Nat → Int32} (h : SOk r) {a b : Nat} {X Y : Int32} (ha : a < nN r) (hb : b < nN r) : SOk (hbR r a X b Y) ∧ SD r (hbR r a X b Y) := by
  have h9 := h.d9
  have h1 : SOk (if X = 1 then upd r (51 + 3 * a) (r (50 + 3 * a)) else r) ∧ SD r (if X = 1 then upd r (51 + 3 * a) (r (50 + 3 * a)) else r) ∧ nN (if X = 1 then upd r (51 + 3 * a) (r (50 + 3 * a)) else r) = nN r := by
    split
    · refine ⟨h.goal ha (h.1.1.2.2.2.2.1 a ha).1, SD.up h (Or.inl (by omega)), ?_⟩
      unfold nN; rw [upd_ne (by omega)]
    · exact ⟨h, ⟨rfl, fun d hd => ⟨rfl, rfl⟩⟩, rfl⟩
  unfold hbR
  split
  · exact ⟨h1.1.goal (by omega) (h.1.1.2.2.2.2.1 b hb).1, h1.2.1.trans (SD.up h1.1 (Or.inl (by omega)))⟩
  · exact ⟨h1.1, h1.2.1⟩
theorem pr_b : ∀ k, k < 4 → hasB (nI k) 1 = decide (nI (k / 2) = 1) ∧ hasB (nI k) 0 = decide (nI (k % 2) = 1) := by decide
theorem pr_x : ∀ k, k < 4 → nI k ^^^ 2 = nI (2 * (1 - k / 2) + k % 2) ∧ 4 + (nI k ^^^ 1) = nI (4 + (2 * (k / 2) + (1 - k % 2))) := by decide
theorem tX4_gainOf {r m mw mf im lt rw rf ga : Nat → Int32} {hi : Int32} {L R : Nat} (hS : SOk r) {p : Nat} (hp : p < nN r) : PD mX4_gainOf [.ref 0, .int (nI p)] (xW r (wsO r) (fsO r) m mw mf im (wsO im) (fsO im) lt rw rf ga hi (nI L) (nI R)) (some (.int (if m (50 + 3 * p) = r (51 + 3 * p) then 3 else m (52 + 3 * p) / 4))) (xW r (wsO r) (fsO r) m mw mf im (wsO im) (fsO im) lt rw rf ga hi (nI L) (nI R)) := by
  refine PM.ofp 0 (by decide) (Nat.le_of_ble_eq_true rfl) ?_
  show Ok mX4_gainOf none 0 [some (.ref 0), some (.int (nI p))] [] (xW r (wsO r) (fsO r) m mw mf im (wsO im) (fsO im) lt rw rf ga hi (nI L) (nI R)) 0 0 _
  have h6 := hS.n6
  refine o_aload_n dX4_gainOf_0 rfl rfl ?_
  refine o_getf (j := 1) dX4_gainOf_1 rfl hcX4 inX4 (Nat.le_of_ble_eq_true rfl) wd205 rfl rfl ?_
  refine o_getf (j := 1) dX4_gainOf_4 rfl hcX3 inX3 (Nat.le_of_ble_eq_true rfl) wd141 rfl rfl ?_
  refine o_iload_n dX4_gainOf_7 rfl rfl ?_
  refine o_callSr (is := [23]) (at_p (b := 50) (s := 3) (n := 7) (by decide) (by omega)) ⟨rfl, rfl⟩ dX4_gainOf_8 wd237 csX4_at rfl ⟨(Nat.le_of_ble_eq_true rfl), (Nat.le_of_ble_eq_true rfl)⟩ rfl rfl rfl (Nat.le_of_ble_eq_true rfl) (Nat.le_of_ble_eq_true rfl) (Nat.le_of_ble_eq_true rfl) ?_
  refine o_aload_n dX4_gainOf_11 rfl rfl ?_
  refine o_getf (j := 0) dX4_gainOf_12 rfl hcX4 inX4 (Nat.le_of_ble_eq_true rfl) wd204 rfl rfl ?_
  refine o_getf (j := 2) dX4_gainOf_15 rfl hcX3 inX3 (Nat.le_of_ble_eq_true rfl) wd144 rfl rfl ?_
  refine o_iload_n dX4_gainOf_18 rfl rfl ?_
  refine o_callSr (is := [12]) (at_p (b := 51) (s := 3) (n := 7) (by decide) (by omega)) ⟨rfl, rfl⟩ dX4_gainOf_19 wd237 csX4_at rfl ⟨(Nat.le_of_ble_eq_true rfl), (Nat.le_of_ble_eq_true rfl)⟩ rfl rfl rfl (Nat.le_of_ble_eq_true rfl) (Nat.le_of_ble_eq_true rfl) (Nat.le_of_ble_eq_true rfl) ?_
  refine o_icmp_ne (tgt := 29) dX4_gainOf_22 (by decide) (fun c_22 => ?_) (fun c_22 => ?_)
  · skip
    refine o_aload_n dX4_gainOf_29 rfl rfl ?_
    refine o_getf (j := 1) dX4_gainOf_30 rfl hcX4 inX4 (Nat.le_of_ble_eq_true rfl) wd205 rfl rfl ?_
    refine o_getf (j := 3) dX4_gainOf_33 rfl hcX3 inX3 (Nat.le_of_ble_eq_true rfl) wd147 rfl rfl ?_
    refine o_iload_n dX4_gainOf_36 rfl rfl ?_
    refine o_callSr (is := [25]) (at_p (b := 52) (s := 3) (n := 7) (by decide) (by omega)) ⟨rfl, rfl⟩ dX4_gainOf_37 wd237 csX4_at rfl ⟨(Nat.le_of_ble_eq_true rfl), (Nat.le_of_ble_eq_true rfl)⟩ rfl rfl rfl (Nat.le_of_ble_eq_true rfl) (Nat.le_of_ble_eq_true rfl) (Nat.le_of_ble_eq_true rfl) ?_
    refine o_iconst dX4_gainOf_40 ic_4 ?_
    refine o_idiv dX4_gainOf_41 (by decide) ?_
    refine o_iret dX4_gainOf_42 rfl (vp_nar_int _) (Nat.le_of_ble_eq_true rfl) (Nat.le_of_ble_eq_true rfl) ?_
    exact ⟨by rw [if_neg c_22], rfl⟩
  · skip
    refine o_iconst dX4_gainOf_25 ic_3 ?_
    refine o_goto (tgt := 42) dX4_gainOf_26 (by decide) ?_
    refine o_iret dX4_gainOf_42 rfl (vp_nar_int _) (Nat.le_of_ble_eq_true rfl) (Nat.le_of_ble_eq_true rfl) ?_
    exact ⟨by rw [if_pos c_22], rfl⟩
theorem lX4_tryPair {r im lt rw rf ga : Nat → Int32} {hi : Int32} {L R : Nat} (hS : SOk r) {a b n k : Nat} (ha : a < nN r) (hb : b < nN r) (hn : n ≤ 30) (hk : k < 4) : Ok mX4_tryPair none 43 [some (.ref 0), some (.int (nI a)), some (.int (nI b)), some (.int (nI k)), some (.int (nI n))] [] (xW r (wsO r) (fsO r) (hbR r a (nI (k / 2)) b (nI (k % 2))) (wsO r) (fsO r) im (wsO im) (fsO im) lt rw rf ga hi (nI L) (nI R)) 0 0 (fun v w => v = none ∧ w = xW r (wsO r) (fsO r) (hrs (hbR r a (nI (k / 2)) b (nI (k % 2))) n) (wsO r) (fsO r) im (wsO im) (fsO im) lt rw rf (upd (upd ga k (hbF r a a (nI (k / 2)) b (nI (k % 2)) n)) (4 + k) (hbF r b a (nI (k / 2)) b (nI (k % 2)) n)) hi (nI L) (nI R)) := by
  have hq := hS.hb (X := nI (k / 2)) (Y := nI (k % 2)) ha hb
  refine o_aload_n dX4_tryPair_43 rfl rfl ?_
  refine o_getf (j := 1) dX4_tryPair_44 rfl hcX4 inX4 (Nat.le_of_ble_eq_true rfl) wd205 rfl rfl ?_
  refine o_iload dX4_tryPair_47 rfl ?_
  refine o_iconst dX4_tryPair_49 ic_0 ?_
  refine o_callVd (w2 := xW r (wsO r) (fsO r) (hrs (hbR r a (nI (k / 2)) b (nI (k % 2))) n) (wsO r) (fsO r) im (wsO im) (fsO im) lt rw rf ga hi (nI L) (nI R)) (is := [14, 15, 16, 17, 18, 19, 20, 21, 22, 23, 24, 25]) (goD hq.1 hq.2.fs (by omega)) ⟨rfl, rfl⟩ dX4_tryPair_50 wd424 cvX3_goHours rfl ⟨(Nat.le_of_ble_eq_true rfl), (Nat.le_of_ble_eq_true rfl)⟩ hcX3 rfl rfl rfl rfl (Nat.le_of_ble_eq_true rfl) (Nat.le_of_ble_eq_true rfl) (Nat.le_of_ble_eq_true rfl) (pb_seg 14 (Nat.le_of_ble_eq_true rfl) rfl rfl rfl) ?_
  refine o_pop dX4_tryPair_53 rfl ?_
  refine o_aload_n dX4_tryPair_54 rfl rfl ?_
  refine o_getf (j := 7) dX4_tryPair_55 rfl hcX4 inX4 (Nat.le_of_ble_eq_true rfl) wd211 rfl rfl ?_
  refine o_iload_n dX4_tryPair_58 rfl rfl ?_
  refine o_aload_n dX4_tryPair_59 rfl rfl ?_
  refine o_iload_n dX4_tryPair_60 rfl rfl ?_
  refine o_callVr (is := [0, 1, 2, 3, 4, 5, 6, 7, 8, 9, 10, 11, 12, 13, 14, 15, 16, 17, 18, 19, 20, 21, 22, 23, 24, 25, 26, 27, 28, 29, 30, 31, 32, 33, 34, 35, 36, 37, 38, 39, 40, 41, 42, 43]) (tX4_gainOf hS ha) ⟨rfl, rfl⟩ dX4_tryPair_61 wd588 cvX4_gainOf rfl ⟨(Nat.le_of_ble_eq_true rfl), (Nat.le_of_ble_eq_true rfl)⟩ hcX4 rfl rfl rfl rfl (Nat.le_of_ble_eq_true rfl) (Nat.le_of_ble_eq_true rfl) (Nat.le_of_ble_eq_true rfl) ?_
  refine o_callSd (w2 := xW r (wsO r) (fsO r) (hrs (hbR r a (nI (k / 2)) b (nI (k % 2))) n) (wsO r) (fsO r) im (wsO im) (fsO im) lt rw rf (upd ga k (hbF r a a (nI (k / 2)) b (nI (k % 2)) n)) hi (nI L) (nI R)) (is := [26]) (put_f (by decide) rfl (by omega)) ⟨rfl, rfl⟩ dX4_tryPair_64 wd238 csX4_put rfl ⟨(Nat.le_of_ble_eq_true rfl), (Nat.le_of_ble_eq_true rfl)⟩ rfl rfl rfl (Nat.le_of_ble_eq_true rfl) (Nat.le_of_ble_eq_true rfl) (Nat.le_of_ble_eq_true rfl) (pb_seg 26 (Nat.le_of_ble_eq_true rfl) rfl rfl rfl) ?_
  refine o_aload_n dX4_tryPair_67 rfl rfl ?_
  refine o_getf (j := 7) dX4_tryPair_68 rfl hcX4 inX4 (Nat.le_of_ble_eq_true rfl) wd211 rfl rfl ?_
  refine o_iconst dX4_tryPair_71 ic_4 ?_
  refine o_iload_n dX4_tryPair_72 rfl rfl ?_
  refine o_iadd dX4_tryPair_73 ?_
  refine o_aload_n dX4_tryPair_74 rfl rfl ?_
  refine o_iload_n dX4_tryPair_75 rfl rfl ?_
  refine o_callVr (is := [0, 1, 2, 3, 4, 5, 6, 7, 8, 9, 10, 11, 12, 13, 14, 15, 16, 17, 18, 19, 20, 21, 22, 23, 24, 25, 26, 27, 28, 29, 30, 31, 32, 33, 34, 35, 36, 37, 38, 39, 40, 41, 42, 43]) (tX4_gainOf hS hb) ⟨rfl, rfl⟩ dX4_tryPair_76 wd588 cvX4_gainOf rfl ⟨(Nat.le_of_ble_eq_true rfl), (Nat.le_of_ble_eq_true rfl)⟩ hcX4 rfl rfl rfl rfl (Nat.le_of_ble_eq_true rfl) (Nat.le_of_ble_eq_true rfl) (Nat.le_of_ble_eq_true rfl) ?_
  refine o_callSd (w2 := xW r (wsO r) (fsO r) (hrs (hbR r a (nI (k / 2)) b (nI (k % 2))) n) (wsO r) (fsO r) im (wsO im) (fsO im) lt rw rf (upd (upd ga k (hbF r a a (nI (k / 2)) b (nI (k % 2)) n)) (4 + k) (hbF r b a (nI (k / 2)) b (nI (k % 2)) n)) hi (nI L) (nI R)) (is := [26]) (put_f (j := 4 + k) (by decide) (by rw [show (4 : Int32) = nI 4 from rfl, nI_add]) (by omega)) ⟨rfl, rfl⟩ dX4_tryPair_79 wd238 csX4_put rfl ⟨(Nat.le_of_ble_eq_true rfl), (Nat.le_of_ble_eq_true rfl)⟩ rfl rfl rfl (Nat.le_of_ble_eq_true rfl) (Nat.le_of_ble_eq_true rfl) (Nat.le_of_ble_eq_true rfl) (pb_seg 26 (Nat.le_of_ble_eq_true rfl) rfl rfl rfl) ?_
  refine o_vret dX4_tryPair_82 rfl (Nat.le_of_ble_eq_true rfl) (Nat.le_of_ble_eq_true rfl) ?_
  exact ⟨rfl, rfl⟩
theorem tX4_tryPair {r m mw mf im lt rw rf ga : Nat → Int32} {hi : Int32} {L R : Nat} (hS : SOk r) {a b n k : Nat} (ha : a < nN r) (hb : b < nN r) (hn : n ≤ 30) (hk : k < 4) : PD mX4_tryPair [.ref 0, .int (nI a), .int (nI b), .int (nI k), .int (nI n)] (xW r (wsO r) (fsO r) m mw mf im (wsO im) (fsO im) lt rw rf ga hi (nI L) (nI R)) (none) (xW r (wsO r) (fsO r) (hrs (hbR r a (nI (k / 2)) b (nI (k % 2))) n) (wsO r) (fsO r) im (wsO im) (fsO im) lt rw rf (upd (upd ga k (hbF r a a (nI (k / 2)) b (nI (k % 2)) n)) (4 + k) (hbF r b a (nI (k / 2)) b (nI (k % 2)) n)) hi (nI L) (nI R)) := by
  refine PM.ofp 0 (by decide) (Nat.le_of_ble_eq_true rfl) ?_
  show Ok mX4_tryPair none 0 [some (.ref 0), some (.int (nI a)), some (.int (nI b)), some (.int (nI k)), some (.int (nI n))] [] (xW r (wsO r) (fsO r) m mw mf im (wsO im) (fsO im) lt rw rf ga hi (nI L) (nI R)) 0 0 _
  have h6 := hS.n6
  obtain ⟨p1, p0⟩ := pr_b k hk
  refine o_aload_n dX4_tryPair_0 rfl rfl ?_
  refine o_getf (j := 1) dX4_tryPair_1 rfl hcX4 inX4 (Nat.le_of_ble_eq_true rfl) wd205 rfl rfl ?_
  refine o_aload_n dX4_tryPair_4 rfl rfl ?_
  refine o_getf (j := 0) dX4_tryPair_5 rfl hcX4 inX4 (Nat.le_of_ble_eq_true rfl) wd204 rfl rfl ?_
  refine o_callVd (w2 := xW r (wsO r) (fsO r) r (wsO r) (fsO r) im (wsO im) (fsO im) lt rw rf ga hi (nI L) (nI R)) (is := [14, 15, 16, 17, 18, 19, 20, 21, 22, 23, 24, 25, 2, 3, 4, 5, 6, 7, 8, 9, 10, 11, 12, 13]) (tX3_become) ⟨rfl, rfl⟩ dX4_tryPair_8 wd273 cvX3_become rfl ⟨(Nat.le_of_ble_eq_true rfl), (Nat.le_of_ble_eq_true rfl)⟩ hcX3 rfl rfl rfl rfl (Nat.le_of_ble_eq_true rfl) (Nat.le_of_ble_eq_true rfl) (Nat.le_of_ble_eq_true rfl) (pb_two (w1 := xW r (wsO r) (fsO r) r (wsO r) (fsO r) im (wsO im) (fsO im) lt rw rf ga hi (nI L) (nI R)) 12 14 2 12 rfl rfl (Nat.le_of_ble_eq_true rfl) rfl rfl rfl (Nat.le_of_ble_eq_true rfl) rfl rfl rfl) ?_
  refine o_iload_n dX4_tryPair_11 rfl rfl ?_
  refine o_iconst dX4_tryPair_12 ic_1 ?_
  refine o_callSr (is := []) (tX4_hasBit) ⟨rfl, rfl⟩ dX4_tryPair_13 wd486 csX4_hasBit rfl ⟨(Nat.le_of_ble_eq_true rfl), (Nat.le_of_ble_eq_true rfl)⟩ rfl rfl rfl (Nat.le_of_ble_eq_true rfl) (Nat.le_of_ble_eq_true rfl) (Nat.le_of_ble_eq_true rfl) ?_
  refine o_if_eq (tgt := 27) dX4_tryPair_16 (by decide) (fun c_16 => ?_) (fun c_16 => ?_)
  · have q1 : ¬ nI (k / 2) = 1 := of_decide_eq_false (by rw [← p1]; exact bI_0.mp c_16)
    refine o_iload_n dX4_tryPair_27 rfl rfl ?_
    refine o_iconst dX4_tryPair_28 ic_0 ?_
    refine o_callSr (is := []) (tX4_hasBit) ⟨rfl, rfl⟩ dX4_tryPair_29 wd486 csX4_hasBit rfl ⟨(Nat.le_of_ble_eq_true rfl), (Nat.le_of_ble_eq_true rfl)⟩ rfl rfl rfl (Nat.le_of_ble_eq_true rfl) (Nat.le_of_ble_eq_true rfl) (Nat.le_of_ble_eq_true rfl) ?_
    refine o_if_eq (tgt := 43) dX4_tryPair_32 (by decide) (fun c_32 => ?_) (fun c_32 => ?_)
    · have q0 : ¬ nI (k % 2) = 1 := of_decide_eq_false (by rw [← p0]; exact bI_0.mp c_32)
      exact o_eqw (by rw [show hbR r a (nI (k / 2)) b (nI (k % 2)) = r from by unfold hbR; rw [if_neg q0, if_neg q1]]) (lX4_tryPair hS ha hb hn hk)
    · have q0 : nI (k % 2) = 1 := of_decide_eq_true (by rw [← p0]; exact bI_ne c_32)
      refine o_aload_n dX4_tryPair_35 rfl rfl ?_
      refine o_getf (j := 1) dX4_tryPair_36 rfl hcX4 inX4 (Nat.le_of_ble_eq_true rfl) wd205 rfl rfl ?_
      refine o_iload_n dX4_tryPair_39 rfl rfl ?_
      refine o_callVd (w2 := xW r (wsO r) (fsO r) (upd r (51 + 3 * b) (r (50 + 3 * b))) (wsO r) (fsO r) im (wsO im) (fsO im) lt rw rf ga hi (nI L) (nI R)) (is := [14, 15, 16, 17, 18, 19, 20, 21, 22, 23, 24, 25]) (tX3_stay (by omega)) ⟨rfl, rfl⟩ dX4_tryPair_40 wd518 cvX3_stay rfl ⟨(Nat.le_of_ble_eq_true rfl), (Nat.le_of_ble_eq_true rfl)⟩ hcX3 rfl rfl rfl rfl (Nat.le_of_ble_eq_true rfl) (Nat.le_of_ble_eq_true rfl) (Nat.le_of_ble_eq_true rfl) (pb_seg 14 (Nat.le_of_ble_eq_true rfl) rfl rfl rfl) ?_
      exact o_eqw (by rw [show hbR r a (nI (k / 2)) b (nI (k % 2)) = upd r (51 + 3 * b) (r (50 + 3 * b)) from by unfold hbR; rw [if_pos q0, if_neg q1]]) (lX4_tryPair hS ha hb hn hk)
  · have q1 : nI (k / 2) = 1 := of_decide_eq_true (by rw [← p1]; exact bI_ne c_16)
    refine o_aload_n dX4_tryPair_19 rfl rfl ?_
    refine o_getf (j := 1) dX4_tryPair_20 rfl hcX4 inX4 (Nat.le_of_ble_eq_true rfl) wd205 rfl rfl ?_
    refine o_iload_n dX4_tryPair_23 rfl rfl ?_
    refine o_callVd (w2 := xW r (wsO r) (fsO r) (upd r (51 + 3 * a) (r (50 + 3 * a))) (wsO r) (fsO r) im (wsO im) (fsO im) lt rw rf ga hi (nI L) (nI R)) (is := [14, 15, 16, 17, 18, 19, 20, 21, 22, 23, 24, 25]) (tX3_stay (by omega)) ⟨rfl, rfl⟩ dX4_tryPair_24 wd518 cvX3_stay rfl ⟨(Nat.le_of_ble_eq_true rfl), (Nat.le_of_ble_eq_true rfl)⟩ hcX3 rfl rfl rfl rfl (Nat.le_of_ble_eq_true rfl) (Nat.le_of_ble_eq_true rfl) (Nat.le_of_ble_eq_true rfl) (pb_seg 14 (Nat.le_of_ble_eq_true rfl) rfl rfl rfl) ?_
    refine o_iload_n dX4_tryPair_27 rfl rfl ?_
    refine o_iconst dX4_tryPair_28 ic_0 ?_
    refine o_callSr (is := []) (tX4_hasBit) ⟨rfl, rfl⟩ dX4_tryPair_29 wd486 csX4_hasBit rfl ⟨(Nat.le_of_ble_eq_true rfl), (Nat.le_of_ble_eq_true rfl)⟩ rfl rfl rfl (Nat.le_of_ble_eq_true rfl) (Nat.le_of_ble_eq_true rfl) (Nat.le_of_ble_eq_true rfl) ?_
    refine o_if_eq (tgt := 43) dX4_tryPair_32 (by decide) (fun c_32 => ?_) (fun c_32 => ?_)
    · have q0 : ¬ nI (k % 2) = 1 := of_decide_eq_false (by rw [← p0]; exact bI_0.mp c_32)
      exact o_eqw (by rw [show hbR r a (nI (k / 2)) b (nI (k % 2)) = upd r (51 + 3 * a) (r (50 + 3 * a)) from by unfold hbR; rw [if_neg q0, if_pos q1]]) (lX4_tryPair hS ha hb hn hk)
    · have q0 : nI (k % 2) = 1 := of_decide_eq_true (by rw [← p0]; exact bI_ne c_32)
      refine o_aload_n dX4_tryPair_35 rfl rfl ?_
      refine o_getf (j := 1) dX4_tryPair_36 rfl hcX4 inX4 (Nat.le_of_ble_eq_true rfl) wd205 rfl rfl ?_
      refine o_iload_n dX4_tryPair_39 rfl rfl ?_
      refine o_callVd (w2 := xW r (wsO r) (fsO r) (upd (upd r (51 + 3 * a) (r (50 + 3 * a))) (51 + 3 * b) ((upd r (51 + 3 * a) (r (50 + 3 * a))) (50 + 3 * b))) (wsO r) (fsO r) im (wsO im) (fsO im) lt rw rf ga hi (nI L) (nI R)) (is := [14, 15, 16, 17, 18, 19, 20, 21, 22, 23, 24, 25]) (tX3_stay (by omega)) ⟨rfl, rfl⟩ dX4_tryPair_40 wd518 cvX3_stay rfl ⟨(Nat.le_of_ble_eq_true rfl), (Nat.le_of_ble_eq_true rfl)⟩ hcX3 rfl rfl rfl rfl (Nat.le_of_ble_eq_true rfl) (Nat.le_of_ble_eq_true rfl) (Nat.le_of_ble_eq_true rfl) (pb_seg 14 (Nat.le_of_ble_eq_true rfl) rfl rfl rfl) ?_
      exact o_eqw (by rw [show hbR r a (nI (k / 2)) b (nI (k % 2)) = upd (upd r (51 + 3 * a) (r (50 + 3 * a))) (51 + 3 * b) ((upd r (51 + 3 * a) (r (50 + 3 * a))) (50 + 3 * b)) from by unfold hbR; rw [if_pos q0, if_pos q1, upd_ne (by omega)]]) (lX4_tryPair hS ha hb hn hk)
def gaS (r : Nat → Int32) (a b n : Nat) (ga : Nat → Int32) : Nat → (Nat → Int32)
  | 0 => ga
  | k + 1 => upd (upd (gaS r a b n ga k) k (hbF r a a (nI (k / 2)) b (nI (k % 2)) n)) (4 + k) (hbF r b a (nI (k / 2)) b (nI (k % 2)) n)
theorem gaS_at {r : Nat → Int32} {a b n : Nat} {ga : Nat → Int32} : ∀ k, k ≤ 4 → ∀ j, j < k → gaS r a b n ga k j = hbF r a a (nI (j / 2)) b (nI (j % 2)) n ∧ gaS r a b n ga k (4 + j) = hbF r b a (nI (j / 2)) b (nI (j % 2)) n
  | 0, _, j, hj => by omega
  | k + 1, hk, j, hj => by
    rw [gaS]
    by_cases e : j = k
    · subst e; rw [upd_ne (by omega), upd_eq, upd_eq]; exact ⟨rfl, rfl⟩
    · rw [upd_ne (by omega), upd_ne (by omega), upd_ne (by omega), upd_ne (by omega)]; exact gaS_at k (by omega) j (by omega)
theorem lX4_two2 {r m mw mf im lt rw rf G : Nat → Int32} {hi : Int32} {L R : Nat} (hS : SOk r) {a b n : Nat} (ha : a < nN r) (hb : b < nN r) (hn : n ≤ 30) (hG : ∀ j, j < 4 → G j = hbF r a a (nI (j / 2)) b (nI (j % 2)) n ∧ G (4 + j) = hbF r b a (nI (j / 2)) b (nI (j % 2)) n) : ∀ (q k : Nat) (x5 x6 : Option Value), k + q = 4 → twS (twT r a b n) q k = twS (twT r a b n) 4 0 → Ok mX4_two none 76 [some (.ref 0), some (.int (nI a)), some (.int (nI b)), some (.int (nI n)), some (.int (nI k)), x5, x6] [] (xW r (wsO r) (fsO r) m mw mf im (wsO im) (fsO im) lt rw rf G hi (nI L) (nI R)) 0 0 (fun v w => v = some (.int (twS (twT r a b n) 4 0)) ∧ w = xW r (wsO r) (fsO r) m mw mf im (wsO im) (fsO im) lt rw rf G hi (nI L) (nI R)) := by
  intro q
  induction q with
  | zero =>
    intro k x5 x6 hk hR
    have hk : k = 4 := by omega
    subst hk
    refine o_iload dX4_two_76 rfl ?_
    refine o_iconst dX4_two_78 ic_4 ?_
    refine o_icmp_ge (tgt := 175) dX4_two_79 (by decide) (fun _ => ?_) (fun c => absurd (by decide) c)
    refine o_bipush dX4_two_175 bp_m9 ?_
    refine o_iret dX4_two_177 rfl (vp_nar_int _) (Nat.le_of_ble_eq_true rfl) (Nat.le_of_ble_eq_true rfl) ?_
    exact ⟨by rw [← hR]; rfl, rfl⟩
  | succ q ih =>
  intro k x5 x6 hk hR
  have hk4 : k < 4 := by omega
  have e0 := hG k hk4
  have e1 := (hG (2 * (1 - k / 2) + k % 2) (by omega)).1
  rw [show (2 * (1 - k / 2) + k % 2) / 2 = 1 - k / 2 by omega, show (2 * (1 - k / 2) + k % 2) % 2 = k % 2 by omega] at e1
  have e2 := (hG (2 * (k / 2) + (1 - k % 2)) (by omega)).2
  rw [show (2 * (k / 2) + (1 - k % 2)) / 2 = k / 2 by omega, show (2 * (k / 2) + (1 - k % 2)) % 2 = 1 - k % 2 by omega] at e2
  refine o_iload dX4_two_76 rfl ?_
  refine o_iconst dX4_two_78 ic_4 ?_
  refine o_icmp_ge (tgt := 175) dX4_two_79 (by decide) (fun c_79 => ?_) (fun c_79 => ?_)
  · exact absurd (geI (b := 4) (by omega) (by omega) c_79) (by omega)
  · skip
    refine o_aload_n dX4_two_82 rfl rfl ?_
    refine o_getf (j := 7) dX4_two_83 rfl hcX4 inX4 (Nat.le_of_ble_eq_true rfl) wd211 rfl rfl ?_
    refine o_iload dX4_two_86 rfl ?_
    refine o_callSr (is := [26]) (at_f (by decide) rfl (by omega)) ⟨rfl, rfl⟩ dX4_two_88 wd237 csX4_at rfl ⟨(Nat.le_of_ble_eq_true rfl), (Nat.le_of_ble_eq_true rfl)⟩ rfl rfl rfl (Nat.le_of_ble_eq_true rfl) (Nat.le_of_ble_eq_true rfl) (Nat.le_of_ble_eq_true rfl) ?_
    refine o_aload_n dX4_two_91 rfl rfl ?_
    refine o_getf (j := 7) dX4_two_92 rfl hcX4 inX4 (Nat.le_of_ble_eq_true rfl) wd211 rfl rfl ?_
    refine o_iload dX4_two_95 rfl ?_
    refine o_iconst dX4_two_97 ic_2 ?_
    refine o_ixor dX4_two_98 ?_
    refine o_callSr (is := [26]) (at_f (by decide) (pr_x k hk4).1 (by omega)) ⟨rfl, rfl⟩ dX4_two_99 wd237 csX4_at rfl ⟨(Nat.le_of_ble_eq_true rfl), (Nat.le_of_ble_eq_true rfl)⟩ rfl rfl rfl (Nat.le_of_ble_eq_true rfl) (Nat.le_of_ble_eq_true rfl) (Nat.le_of_ble_eq_true rfl) ?_
    refine o_icmp_lt (tgt := 109) dX4_two_102 (by decide) (fun c_102 => ?_) (fun c_102 => ?_)
    · have hf : twT r a b n k = false := by unfold twT; rw [← e0.1, ← e1, decide_eq_true c_102]; rfl
      refine o_iconst dX4_two_109 ic_0 ?_
      refine o_istg_5 dX4_two_110 rfl (Nat.le_of_ble_eq_true rfl) ?_
      refine o_aload_n dX4_two_112 rfl rfl ?_
      refine o_getf (j := 7) dX4_two_113 rfl hcX4 inX4 (Nat.le_of_ble_eq_true rfl) wd211 rfl rfl ?_
      refine o_iconst dX4_two_116 ic_4 ?_
      refine o_iload dX4_two_117 rfl ?_
      refine o_iadd dX4_two_119 ?_
      refine o_callSr (is := [26]) (at_f (j := 4 + k) (by decide) (by rw [show (4 : Int32) = nI 4 from rfl, nI_add]) (by omega)) ⟨rfl, rfl⟩ dX4_two_120 wd237 csX4_at rfl ⟨(Nat.le_of_ble_eq_true rfl), (Nat.le_of_ble_eq_true rfl)⟩ rfl rfl rfl (Nat.le_of_ble_eq_true rfl) (Nat.le_of_ble_eq_true rfl) (Nat.le_of_ble_eq_true rfl) ?_
      refine o_aload_n dX4_two_123 rfl rfl ?_
      refine o_getf (j := 7) dX4_two_124 rfl hcX4 inX4 (Nat.le_of_ble_eq_true rfl) wd211 rfl rfl ?_
      refine o_iconst dX4_two_127 ic_4 ?_
      refine o_iload dX4_two_128 rfl ?_
      refine o_iconst dX4_two_130 ic_1 ?_
      refine o_ixor dX4_two_131 ?_
      refine o_iadd dX4_two_132 ?_
      refine o_callSr (is := [26]) (at_f (by decide) (pr_x k hk4).2 (by omega)) ⟨rfl, rfl⟩ dX4_two_133 wd237 csX4_at rfl ⟨(Nat.le_of_ble_eq_true rfl), (Nat.le_of_ble_eq_true rfl)⟩ rfl rfl rfl (Nat.le_of_ble_eq_true rfl) (Nat.le_of_ble_eq_true rfl) (Nat.le_of_ble_eq_true rfl) ?_
      refine o_icmp_lt (tgt := 143) dX4_two_136 (by decide) (fun c_136 => ?_) (fun c_136 => ?_)
      · have hf2 : twT r a b n k = false := by unfold twT; rw [← e0.2, ← e2, decide_eq_true c_136, Bool.not_true, Bool.and_false]
        refine o_iconst dX4_two_143 ic_0 ?_
        refine o_istg_6 dX4_two_144 rfl (Nat.le_of_ble_eq_true rfl) ?_
        refine o_iload dX4_two_146 rfl ?_
        refine o_if_eq (tgt := 169) dX4_two_148 (by decide) (fun _ => ?_) (fun cq => absurd (by decide) cq)
        refine o_inc_4 dX4_two_169 rfl ic_1 (Nat.le_of_ble_eq_true rfl) ?_
        refine o_goto (tgt := 76) dX4_two_172 (by decide) ?_
        exact o_eqa (by rw [nI_1]) rfl (ih (k + 1) _ _ (by omega) (by rw [← hR, twS, hf]; rfl))
      · skip
        refine o_iconst dX4_two_139 ic_1 ?_
        refine o_goto (tgt := 144) dX4_two_140 (by decide) ?_
        refine o_istg_6 dX4_two_144 rfl (Nat.le_of_ble_eq_true rfl) ?_
        refine o_iload dX4_two_146 rfl ?_
        refine o_if_eq (tgt := 169) dX4_two_148 (by decide) (fun _ => ?_) (fun cq => absurd (by decide) cq)
        refine o_inc_4 dX4_two_169 rfl ic_1 (Nat.le_of_ble_eq_true rfl) ?_
        refine o_goto (tgt := 76) dX4_two_172 (by decide) ?_
        exact o_eqa (by rw [nI_1]) rfl (ih (k + 1) _ _ (by omega) (by rw [← hR, twS, hf]; rfl))
    · skip
      refine o_iconst dX4_two_105 ic_1 ?_
      refine o_goto (tgt := 110) dX4_two_106 (by decide) ?_
      refine o_istg_5 dX4_two_110 rfl (Nat.le_of_ble_eq_true rfl) ?_
      refine o_aload_n dX4_two_112 rfl rfl ?_
      refine o_getf (j := 7) dX4_two_113 rfl hcX4 inX4 (Nat.le_of_ble_eq_true rfl) wd211 rfl rfl ?_
      refine o_iconst dX4_two_116 ic_4 ?_
      refine o_iload dX4_two_117 rfl ?_
      refine o_iadd dX4_two_119 ?_
      refine o_callSr (is := [26]) (at_f (j := 4 + k) (by decide) (by rw [show (4 : Int32) = nI 4 from rfl, nI_add]) (by omega)) ⟨rfl, rfl⟩ dX4_two_120 wd237 csX4_at rfl ⟨(Nat.le_of_ble_eq_true rfl), (Nat.le_of_ble_eq_true rfl)⟩ rfl rfl rfl (Nat.le_of_ble_eq_true rfl) (Nat.le_of_ble_eq_true rfl) (Nat.le_of_ble_eq_true rfl) ?_
      refine o_aload_n dX4_two_123 rfl rfl ?_
      refine o_getf (j := 7) dX4_two_124 rfl hcX4 inX4 (Nat.le_of_ble_eq_true rfl) wd211 rfl rfl ?_
      refine o_iconst dX4_two_127 ic_4 ?_
      refine o_iload dX4_two_128 rfl ?_
      refine o_iconst dX4_two_130 ic_1 ?_
      refine o_ixor dX4_two_131 ?_
      refine o_iadd dX4_two_132 ?_
      refine o_callSr (is := [26]) (at_f (by decide) (pr_x k hk4).2 (by omega)) ⟨rfl, rfl⟩ dX4_two_133 wd237 csX4_at rfl ⟨(Nat.le_of_ble_eq_true rfl), (Nat.le_of_ble_eq_true rfl)⟩ rfl rfl rfl (Nat.le_of_ble_eq_true rfl) (Nat.le_of_ble_eq_true rfl) (Nat.le_of_ble_eq_true rfl) ?_
      refine o_icmp_lt (tgt := 143) dX4_two_136 (by decide) (fun c_136 => ?_) (fun c_136 => ?_)
      · have hf2 : twT r a b n k = false := by unfold twT; rw [← e0.2, ← e2, decide_eq_true c_136, Bool.not_true, Bool.and_false]
        refine o_iconst dX4_two_143 ic_0 ?_
        refine o_istg_6 dX4_two_144 rfl (Nat.le_of_ble_eq_true rfl) ?_
        refine o_iload dX4_two_146 rfl ?_
        refine o_if_eq (tgt := 169) dX4_two_148 (by decide) (fun cq => absurd cq (by decide)) (fun _ => ?_)
        refine o_iload dX4_two_151 rfl ?_
        refine o_if_eq (tgt := 169) dX4_two_153 (by decide) (fun _ => ?_) (fun cq => absurd (by decide) cq)
        refine o_inc_4 dX4_two_169 rfl ic_1 (Nat.le_of_ble_eq_true rfl) ?_
        refine o_goto (tgt := 76) dX4_two_172 (by decide) ?_
        exact o_eqa (by rw [nI_1]) rfl (ih (k + 1) _ _ (by omega) (by rw [← hR, twS, hf2]; rfl))
      · skip
        refine o_iconst dX4_two_139 ic_1 ?_
        refine o_goto (tgt := 144) dX4_two_140 (by decide) ?_
        refine o_istg_6 dX4_two_144 rfl (Nat.le_of_ble_eq_true rfl) ?_
        refine o_iload dX4_two_146 rfl ?_
        refine o_if_eq (tgt := 169) dX4_two_148 (by decide) (fun cq => absurd cq (by decide)) (fun _ => ?_)
        refine o_iload dX4_two_151 rfl ?_
        refine o_if_eq (tgt := 169) dX4_two_153 (by decide) (fun cq => absurd cq (by decide)) (fun _ => ?_)
        refine o_bipush dX4_two_156 bp_10 ?_
        refine o_iload dX4_two_158 rfl ?_
        refine o_iconst dX4_two_160 ic_2 ?_
        refine o_idiv dX4_two_161 (by decide) ?_
        refine o_imul dX4_two_162 ?_
        refine o_iload dX4_two_163 rfl ?_
        refine o_iconst dX4_two_165 ic_2 ?_
        refine o_irem dX4_two_166 (by decide) ?_
        refine o_iadd dX4_two_167 ?_
        refine o_iret dX4_two_168 rfl (vp_nar_int _) (Nat.le_of_ble_eq_true rfl) (Nat.le_of_ble_eq_true rfl) ?_
        exact ⟨by rw [← hR, twS, if_pos (by unfold twT; rw [← e0.1, ← e1, ← e0.2, ← e2, decide_eq_false c_102, decide_eq_false c_136]; rfl), rm2 (by omega), dv2 (by omega)], rfl⟩
theorem lX4_two1 {r im lt rw rf ga : Nat → Int32} {hi : Int32} {L R : Nat} (hS : SOk r) {a b n : Nat} (ha : a < nN r) (hb : b < nN r) (hn : n ≤ 30) {P : Option Value → PW → Prop} (hP : ∀ (m mw mf : Nat → Int32) (i4 : Int32), Ok mX4_two none 73 [some (.ref 0), some (.int (nI a)), some (.int (nI b)), some (.int (nI n)), some (.int i4), none, none] [] (xW r (wsO r) (fsO r) m mw mf im (wsO im) (fsO im) lt rw rf (gaS r a b n ga 4) hi (nI L) (nI R)) 0 0 P) : ∀ (q k : Nat) (m mw mf : Nat → Int32), 4 - k < q → k ≤ 4 → Ok mX4_two none 52 [some (.ref 0), some (.int (nI a)), some (.int (nI b)), some (.int (nI n)), some (.int (nI k)), none, none] [] (xW r (wsO r) (fsO r) m mw mf im (wsO im) (fsO im) lt rw rf (gaS r a b n ga k) hi (nI L) (nI R)) 0 0 (P) := by
  intro q
  induction q with
  | zero => intro k m mw mf hq hk; omega
  | succ q ih =>
  intro k m mw mf hq hk
  refine o_iload dX4_two_52 rfl ?_
  refine o_iconst dX4_two_54 ic_4 ?_
  refine o_icmp_ge (tgt := 73) dX4_two_55 (by decide) (fun c_55 => ?_) (fun c_55 => ?_)
  · have hkN : k = 4 := Nat.le_antisymm hk (geI (b := 4) (by omega) (by omega) c_55)
    subst hkN
    exact hP m mw mf _
  · have hkN : k < 4 := ltI (b := 4) (by omega) (by omega) c_55
    refine o_aload_n dX4_two_58 rfl rfl ?_
    refine o_iload_n dX4_two_59 rfl rfl ?_
    refine o_iload_n dX4_two_60 rfl rfl ?_
    refine o_iload dX4_two_61 rfl ?_
    refine o_iload_n dX4_two_63 rfl rfl ?_
    refine o_callVd (w2 := xW r (wsO r) (fsO r) (hrs (hbR r a (nI (k / 2)) b (nI (k % 2))) n) (wsO r) (fsO r) im (wsO im) (fsO im) lt rw rf (gaS r a b n ga (k + 1)) hi (nI L) (nI R)) (is := [0, 1, 2, 3, 4, 5, 6, 7, 8, 9, 10, 11, 12, 13, 14, 15, 16, 17, 18, 19, 20, 21, 22, 23, 24, 25, 26, 27, 28, 29, 30, 31, 32, 33, 34, 35, 36, 37, 38, 39, 40, 41, 42, 43]) (tX4_tryPair hS ha hb hn hkN) ⟨rfl, rfl⟩ dX4_two_64 wd584 cvX4_tryPair rfl ⟨(Nat.le_of_ble_eq_true rfl), (Nat.le_of_ble_eq_true rfl)⟩ hcX4 rfl rfl rfl rfl (Nat.le_of_ble_eq_true rfl) (Nat.le_of_ble_eq_true rfl) (Nat.le_of_ble_eq_true rfl) (pb_seg 0 (Nat.le_of_ble_eq_true rfl) rfl rfl rfl) ?_
    refine o_inc_4 dX4_two_67 rfl ic_1 (Nat.le_of_ble_eq_true rfl) ?_
    refine o_goto (tgt := 52) dX4_two_70 (by decide) ?_
    exact o_eqa (by rw [nI_1]) rfl (ih (k + 1) _ _ _ (by omega) (by omega))
theorem tX4_two {r m mw mf im lt rw rf ga : Nat → Int32} {hi : Int32} {L R : Nat} (hS : SOk r) {x y n : Int32} : PM mX4_two [.ref 0, .int x, .int y, .int n] (xW r (wsO r) (fsO r) m mw mf im (wsO im) (fsO im) lt rw rf ga hi (nI L) (nI R)) (CP (s_two x y n (r, im, hi, lt, L, rw, R, rf))) := by
  refine PM.ofp 3 (by decide) (Nat.le_of_ble_eq_true rfl) ?_
  show Ok mX4_two none 0 [some (.ref 0), some (.int x), some (.int y), some (.int n), none, none, none] [] (xW r (wsO r) (fsO r) m mw mf im (wsO im) (fsO im) lt rw rf ga hi (nI L) (nI R)) 0 0 _
  refine o_aload_n dX4_two_0 rfl rfl ?_
  refine o_getf (j := 0) dX4_two_1 rfl hcX4 inX4 (Nat.le_of_ble_eq_true rfl) wd204 rfl rfl ?_
  refine o_iload_n dX4_two_4 rfl rfl ?_
  refine o_callVr (is := [2, 3, 4, 5, 6, 7, 8, 9, 10, 11, 12, 13]) (xhas hS) ⟨rfl, rfl⟩ dX4_two_5 wd384 cvX3_has rfl ⟨(Nat.le_of_ble_eq_true rfl), (Nat.le_of_ble_eq_true rfl)⟩ hcX3 rfl rfl rfl rfl (Nat.le_of_ble_eq_true rfl) (Nat.le_of_ble_eq_true rfl) (Nat.le_of_ble_eq_true rfl) ?_
  refine o_if_eq (tgt := 27) dX4_two_8 (by decide) (fun c_8 => ?_) (fun c_8 => ?_)
  · have hno := bI_0.mp c_8
    refine o_aload_n dX4_two_27 rfl rfl ?_
    refine o_iconst dX4_two_28 ic_m1 ?_
    refine o_callVd (w2 := xW r (wsO r) (fsO r) m mw mf im (wsO im) (fsO im) lt rw (rfu rf 1) ga hi (nI L) (nI R)) (is := [0, 1, 2, 3, 4, 5, 6, 7, 8, 9, 10, 11, 12, 13, 14, 15, 16, 17, 18, 19, 20, 21, 22, 23, 24, 25, 26, 27, 28, 29, 30, 31, 32, 33, 34, 35, 36, 37, 38, 39, 40, 41, 42, 43]) (tX4_refused (c := 1) rfl (by decide)) ⟨rfl, rfl⟩ dX4_two_29 wd233 cvX4_refused rfl ⟨(Nat.le_of_ble_eq_true rfl), (Nat.le_of_ble_eq_true rfl)⟩ hcX4 rfl rfl rfl rfl (Nat.le_of_ble_eq_true rfl) (Nat.le_of_ble_eq_true rfl) (Nat.le_of_ble_eq_true rfl) (pb_seg 0 (Nat.le_of_ble_eq_true rfl) rfl rfl rfl) ?_
    refine o_iret dX4_two_32 rfl (vp_nar_int _) (Nat.le_of_ble_eq_true rfl) (Nat.le_of_ble_eq_true rfl) ?_
    exact CP.mk (by simp only [s_two, hno, Bool.false_and]; rfl)
  · obtain ⟨d, hd, rfl⟩ := inR_yes (by have := hS.n6; omega) (bI_ne c_8)
    have h9 := hS.n6
    have hin := inR_nI (D := nN r) (by omega) hd
    have ec := cN_nI (d := d) (by omega)
    refine o_aload_n dX4_two_11 rfl rfl ?_
    refine o_getf (j := 0) dX4_two_12 rfl hcX4 inX4 (Nat.le_of_ble_eq_true rfl) wd204 rfl rfl ?_
    refine o_iload_n dX4_two_15 rfl rfl ?_
    refine o_callVr (is := [2, 3, 4, 5, 6, 7, 8, 9, 10, 11, 12, 13]) (xhas hS) ⟨rfl, rfl⟩ dX4_two_16 wd384 cvX3_has rfl ⟨(Nat.le_of_ble_eq_true rfl), (Nat.le_of_ble_eq_true rfl)⟩ hcX3 rfl rfl rfl rfl (Nat.le_of_ble_eq_true rfl) (Nat.le_of_ble_eq_true rfl) (Nat.le_of_ble_eq_true rfl) ?_
    refine o_if_eq (tgt := 27) dX4_two_19 (by decide) (fun c_19 => ?_) (fun c_19 => ?_)
    · have hny : inR (nN r) y = false := bI_0.mp c_19
      refine o_aload_n dX4_two_27 rfl rfl ?_
      refine o_iconst dX4_two_28 ic_m1 ?_
      refine o_callVd (w2 := xW r (wsO r) (fsO r) m mw mf im (wsO im) (fsO im) lt rw (rfu rf 1) ga hi (nI L) (nI R)) (is := [0, 1, 2, 3, 4, 5, 6, 7, 8, 9, 10, 11, 12, 13, 14, 15, 16, 17, 18, 19, 20, 21, 22, 23, 24, 25, 26, 27, 28, 29, 30, 31, 32, 33, 34, 35, 36, 37, 38, 39, 40, 41, 42, 43]) (tX4_refused (c := 1) rfl (by decide)) ⟨rfl, rfl⟩ dX4_two_29 wd233 cvX4_refused rfl ⟨(Nat.le_of_ble_eq_true rfl), (Nat.le_of_ble_eq_true rfl)⟩ hcX4 rfl rfl rfl rfl (Nat.le_of_ble_eq_true rfl) (Nat.le_of_ble_eq_true rfl) (Nat.le_of_ble_eq_true rfl) (pb_seg 0 (Nat.le_of_ble_eq_true rfl) rfl rfl rfl) ?_
      refine o_iret dX4_two_32 rfl (vp_nar_int _) (Nat.le_of_ble_eq_true rfl) (Nat.le_of_ble_eq_true rfl) ?_
      exact CP.mk (by simp only [s_two, hny, Bool.and_false, Bool.false_and]; rfl)
    · obtain ⟨b, hb, rfl⟩ := inR_yes (by have := hS.n6; omega) (bI_ne c_19)
      have hib := inR_nI (D := nN r) (by have := hS.n6; omega) hb
      have eb := cN_nI (d := b) (by have := hS.n6; omega)
      refine o_iload_n dX4_two_22 rfl rfl ?_
      refine o_iload_n dX4_two_23 rfl rfl ?_
      refine o_icmp_ne (tgt := 33) dX4_two_24 (by decide) (fun c_24 => ?_) (fun c_24 => ?_)
      · skip
        refine o_iload_n dX4_two_33 rfl rfl ?_
        refine o_if_lt (tgt := 43) dX4_two_34 (by decide) (fun c_34 => ?_) (fun c_34 => ?_)
        · skip
          refine o_aload_n dX4_two_43 rfl rfl ?_
          refine o_iload_n dX4_two_44 rfl rfl ?_
          refine o_callVd (w2 := xW r (wsO r) (fsO r) m mw mf im (wsO im) (fsO im) lt rw (rfu rf 4) ga hi (nI L) (nI R)) (is := [0, 1, 2, 3, 4, 5, 6, 7, 8, 9, 10, 11, 12, 13, 14, 15, 16, 17, 18, 19, 20, 21, 22, 23, 24, 25, 26, 27, 28, 29, 30, 31, 32, 33, 34, 35, 36, 37, 38, 39, 40, 41, 42, 43]) (rfn_lo c_34) ⟨rfl, rfl⟩ dX4_two_45 wd412 cvX4_refusedNumber rfl ⟨(Nat.le_of_ble_eq_true rfl), (Nat.le_of_ble_eq_true rfl)⟩ hcX4 rfl rfl rfl rfl (Nat.le_of_ble_eq_true rfl) (Nat.le_of_ble_eq_true rfl) (Nat.le_of_ble_eq_true rfl) (pb_seg 0 (Nat.le_of_ble_eq_true rfl) rfl rfl rfl) ?_
          refine o_iret dX4_two_48 rfl (vp_nar_int _) (Nat.le_of_ble_eq_true rfl) (Nat.le_of_ble_eq_true rfl) ?_
          exact CP.mk (by simp only [s_two, hin, hib, decide_eq_false c_24, Bool.not_false, Bool.and_self, if_true, wrB, if_pos c_34]; rfl)
        · skip
          refine o_iload_n dX4_two_37 rfl rfl ?_
          refine o_bipush dX4_two_38 bp_30 ?_
          refine o_icmp_le (tgt := 49) dX4_two_40 (by decide) (fun c_40 => ?_) (fun c_40 => ?_)
          · have q2 : ¬ nI 30 < n := Int32.not_lt.mpr c_40
            obtain ⟨q, hq, rfl⟩ := rng (b := 30) (by omega) c_34 q2
            have eq := cN_nI (d := q) (by omega)
            refine o_iconst dX4_two_49 ic_0 ?_
            refine o_istg_4 dX4_two_50 rfl (Nat.le_of_ble_eq_true rfl) ?_
            refine o_eqa (by rw [nI_0]) rfl (lX4_two1 hS hd hb hq (fun m2 mw2 mf2 i4 => ?_) 5 0 m mw mf (by omega) (by omega))
            refine o_iconst dX4_two_73 ic_0 ?_
            refine o_istg_4 dX4_two_74 rfl (Nat.le_of_ble_eq_true rfl) ?_
            refine o_post (fun v w h => ?_) (o_eqa (by rw [nI_0]) rfl (lX4_two2 hS hd hb hq (gaS_at 4 (Nat.le_refl _)) 4 0 none none (by omega) rfl))
            obtain ⟨rfl, rfl⟩ := h
            exact CP.mk (by simp only [s_two, hin, hib, decide_eq_false c_24, Bool.not_false, Bool.and_self, if_true, wrB, if_neg c_34, if_neg q2, ec, eb, eq])
          · have q2 : nI 30 < n := Int32.not_le.mp c_40
            refine o_aload_n dX4_two_43 rfl rfl ?_
            refine o_iload_n dX4_two_44 rfl rfl ?_
            refine o_callVd (w2 := xW r (wsO r) (fsO r) m mw mf im (wsO im) (fsO im) lt rw (rfu rf 6) ga hi (nI L) (nI R)) (is := [0, 1, 2, 3, 4, 5, 6, 7, 8, 9, 10, 11, 12, 13, 14, 15, 16, 17, 18, 19, 20, 21, 22, 23, 24, 25, 26, 27, 28, 29, 30, 31, 32, 33, 34, 35, 36, 37, 38, 39, 40, 41, 42, 43]) (rfn_hi c_34) ⟨rfl, rfl⟩ dX4_two_45 wd412 cvX4_refusedNumber rfl ⟨(Nat.le_of_ble_eq_true rfl), (Nat.le_of_ble_eq_true rfl)⟩ hcX4 rfl rfl rfl rfl (Nat.le_of_ble_eq_true rfl) (Nat.le_of_ble_eq_true rfl) (Nat.le_of_ble_eq_true rfl) (pb_seg 0 (Nat.le_of_ble_eq_true rfl) rfl rfl rfl) ?_
            refine o_iret dX4_two_48 rfl (vp_nar_int _) (Nat.le_of_ble_eq_true rfl) (Nat.le_of_ble_eq_true rfl) ?_
            exact CP.mk (by simp only [s_two, hin, hib, decide_eq_false c_24, Bool.not_false, Bool.and_self, if_true, wrB, if_neg c_34, if_pos q2]; rfl)
      · skip
        refine o_aload_n dX4_two_27 rfl rfl ?_
        refine o_iconst dX4_two_28 ic_m1 ?_
        refine o_callVd (w2 := xW r (wsO r) (fsO r) m mw mf im (wsO im) (fsO im) lt rw (rfu rf 1) ga hi (nI L) (nI R)) (is := [0, 1, 2, 3, 4, 5, 6, 7, 8, 9, 10, 11, 12, 13, 14, 15, 16, 17, 18, 19, 20, 21, 22, 23, 24, 25, 26, 27, 28, 29, 30, 31, 32, 33, 34, 35, 36, 37, 38, 39, 40, 41, 42, 43]) (tX4_refused (c := 1) rfl (by decide)) ⟨rfl, rfl⟩ dX4_two_29 wd233 cvX4_refused rfl ⟨(Nat.le_of_ble_eq_true rfl), (Nat.le_of_ble_eq_true rfl)⟩ hcX4 rfl rfl rfl rfl (Nat.le_of_ble_eq_true rfl) (Nat.le_of_ble_eq_true rfl) (Nat.le_of_ble_eq_true rfl) (pb_seg 0 (Nat.le_of_ble_eq_true rfl) rfl rfl rfl) ?_
        refine o_iret dX4_two_32 rfl (vp_nar_int _) (Nat.le_of_ble_eq_true rfl) (Nat.le_of_ble_eq_true rfl) ?_
        exact CP.mk (by simp only [s_two, c_24, decide_true, Bool.not_true, Bool.and_false]; rfl)
theorem part_eq {a b : Nat} {p : Int32} (ha : a < 2 ^ 62) (hb : b < 2 ^ 40) (h0 : 0 < b) (hp : inR 2 p = true) : partS (lN a) (lN b) p = partM (lN a) (lN b) p := by
  obtain ⟨-, g1, -⟩ := gcd_ok ha hb (Or.inr (by omega))
  have hg : 0 < Nat.gcd a b := Nat.gcd_pos_of_pos_right a h0
  have hgl : Nat.gcd a b ≤ b := Nat.gcd_le_right a h0
  have hn : ¬ lN (Nat.gcd a b) < 1 := fun q => by
    have := (pk_lLT (b := 1) (by omega) (by omega)).mp q
    omega
  have hp : p = 0 ∨ p = 1 := by
    obtain ⟨d, hd, rfl⟩ := inR_yes (by omega) hp
    match d, hd with
    | 0, _ => exact Or.inl rfl
    | 1, _ => exact Or.inr rfl
  unfold partS partM
  rw [g1, if_neg hn]
  by_cases c : a = 0
  · subst c
    rw [if_pos (show lN 0 = 0 from rfl), Nat.gcd_zero_left]
    rcases hp with rfl | rfl
    · rw [if_pos rfl, pk_lDiv (by omega) h0 (by omega), Nat.zero_div]; rfl
    · rw [if_neg (by decide), pk_lDiv (by omega) h0 (by omega), Nat.div_self h0]; rfl
  · rw [if_neg (show ¬ lN a = 0 from fun e => c ((pk_lEQ (b := 0) (by omega) (by omega)).mp e))]
theorem mean_eq {r : Nat → Int32} (hS : SOk r) {p : Int32} (hp : inR 2 p = true) : partS (moodS r (nN r)).toInt64 (if (1 : Int32) < nI (nN r) then nI (nN r) else 1).toInt64 p = partM (moodS r (nN r)).toInt64 (nI (nN r)).toInt64 p := by
  have h6 := hS.n6
  obtain ⟨v, hv, ev⟩ := moodS_n (fun p hp => hS.pm hp) (nN r) (Nat.le_refl _)
  have e1 : (moodS r (nN r)).toInt64 = lN v := by rw [ev]; exact nI_l (by omega)
  have e2 : (nI (nN r)).toInt64 = lN (nN r) := nI_l (by omega)
  have e3 : (if (1 : Int32) < nI (nN r) then nI (nN r) else 1) = nI (max 1 (nN r)) := by
    show (if nI 1 < nI (nN r) then nI (nN r) else nI 1) = nI (max 1 (nN r))
    by_cases c : 1 < nN r
    · rw [if_pos ((nI_ltI (by omega) (by omega)).mpr c), Nat.max_eq_right (by omega)]
    · rw [if_neg (fun q => c ((nI_ltI (by omega) (by omega)).mp q)), Nat.max_eq_left (by omega)]
  have e4 : (nI (max 1 (nN r))).toInt64 = lN (max 1 (nN r)) := nI_l (by omega)
  rw [e1, e2, e3, e4, part_eq (by omega) (by omega) (by omega) hp]
  by_cases c : nN r = 0
  · have hv0 : v = 0 := by rw [c] at hv; omega
    subst hv0
    unfold partM
    rw [if_pos (show lN 0 = 0 from rfl), if_pos (show lN 0 = 0 from rfl)]
  · rw [Nat.max_eq_right (by omega)]
theorem tX4_mean {r m mw mf im lt rw rf ga : Nat → Int32} {hi : Int32} {L R : Nat} (hS : SOk r) {w : Int32} : PM mX4_mean [.ref 0, .int w] (xW r (wsO r) (fsO r) m mw mf im (wsO im) (fsO im) lt rw rf ga hi (nI L) (nI R)) (CP (s_mean w (r, im, hi, lt, L, rw, R, rf))) := by
  refine PM.ofp 0 (by decide) (Nat.le_of_ble_eq_true rfl) ?_
  show Ok mX4_mean none 0 [some (.ref 0), some (.int w)] [] (xW r (wsO r) (fsO r) m mw mf im (wsO im) (fsO im) lt rw rf ga hi (nI L) (nI R)) 0 0 _
  refine o_iload_n dX4_mean_0 rfl rfl ?_
  refine o_callSr (is := []) (tX4_isHalf) ⟨rfl, rfl⟩ dX4_mean_1 wd443 csX4_isHalf rfl ⟨(Nat.le_of_ble_eq_true rfl), (Nat.le_of_ble_eq_true rfl)⟩ rfl rfl rfl (Nat.le_of_ble_eq_true rfl) (Nat.le_of_ble_eq_true rfl) (Nat.le_of_ble_eq_true rfl) ?_
  refine o_if_ne (tgt := 14) dX4_mean_4 (by decide) (fun c_4 => ?_) (fun c_4 => ?_)
  · have hww : inR 2 w = true := by rw [← isHalf_eq]; exact bI_ne c_4
    refine o_aload_n dX4_mean_14 rfl rfl ?_
    refine o_getf (j := 0) dX4_mean_15 rfl hcX4 inX4 (Nat.le_of_ble_eq_true rfl) wd204 rfl rfl ?_
    refine o_callVr (is := [2, 3, 4, 5, 6, 7, 8, 9, 10, 11, 12, 13]) (tX3_moodsTogether (by have := hS.n6; omega) hS.e1) ⟨rfl, rfl⟩ dX4_mean_18 wd618 cvX3_moodsTogether rfl ⟨(Nat.le_of_ble_eq_true rfl), (Nat.le_of_ble_eq_true rfl)⟩ hcX3 rfl rfl rfl rfl (Nat.le_of_ble_eq_true rfl) (Nat.le_of_ble_eq_true rfl) (Nat.le_of_ble_eq_true rfl) ?_
    refine o_i2l dX4_mean_21 ?_
    refine o_iconst dX4_mean_22 ic_1 ?_
    refine o_aload_n dX4_mean_23 rfl rfl ?_
    refine o_getf (j := 0) dX4_mean_24 rfl hcX4 inX4 (Nat.le_of_ble_eq_true rfl) wd204 rfl rfl ?_
    refine o_getf (j := 4) dX4_mean_27 rfl hcX3 inX3 (Nat.le_of_ble_eq_true rfl) wd150 rfl rfl ?_
    refine o_eqs (by rw [hS.e1]) ?_
    refine o_mmax dX4_mean_30 wd370 wd184 wd60 wd185 (Nat.le_of_ble_eq_true rfl) (Nat.le_of_ble_eq_true rfl) (Nat.le_of_ble_eq_true rfl) (Nat.le_of_ble_eq_true rfl) ?_
    refine o_i2l dX4_mean_33 ?_
    refine o_iload_n dX4_mean_34 rfl rfl ?_
    refine o_callSr (is := []) (tX4_partOf) ⟨rfl, rfl⟩ dX4_mean_35 wd608 csX4_partOf rfl ⟨(Nat.le_of_ble_eq_true rfl), (Nat.le_of_ble_eq_true rfl)⟩ rfl rfl rfl (Nat.le_of_ble_eq_true rfl) (Nat.le_of_ble_eq_true rfl) (Nat.le_of_ble_eq_true rfl) ?_
    refine o_lret dX4_mean_38 rfl (Nat.le_of_ble_eq_true rfl) (Nat.le_of_ble_eq_true rfl) ?_
    exact CP.mk (by rw [mean_eq hS hww]; simp only [s_mean, hww, if_true])
  · have hww : inR 2 w = false := by rw [← isHalf_eq]; exact bI_0.mp c_4
    refine o_aload_n dX4_mean_7 rfl rfl ?_
    refine o_bipush dX4_mean_8 bp_m2 ?_
    refine o_callVd (w2 := xW r (wsO r) (fsO r) m mw mf im (wsO im) (fsO im) lt rw (rfu rf 2) ga hi (nI L) (nI R)) (is := [0, 1, 2, 3, 4, 5, 6, 7, 8, 9, 10, 11, 12, 13, 14, 15, 16, 17, 18, 19, 20, 21, 22, 23, 24, 25, 26, 27, 28, 29, 30, 31, 32, 33, 34, 35, 36, 37, 38, 39, 40, 41, 42, 43]) (tX4_refusedLong (c := 2) rfl (by decide)) ⟨rfl, rfl⟩ dX4_mean_10 wd596 cvX4_refusedLong rfl ⟨(Nat.le_of_ble_eq_true rfl), (Nat.le_of_ble_eq_true rfl)⟩ hcX4 rfl rfl rfl rfl (Nat.le_of_ble_eq_true rfl) (Nat.le_of_ble_eq_true rfl) (Nat.le_of_ble_eq_true rfl) (pb_seg 0 (Nat.le_of_ble_eq_true rfl) rfl rfl rfl) ?_
    refine o_lret dX4_mean_13 rfl (Nat.le_of_ble_eq_true rfl) (Nat.le_of_ble_eq_true rfl) ?_
    exact CP.mk (by simp only [s_mean, hww]; rfl)
