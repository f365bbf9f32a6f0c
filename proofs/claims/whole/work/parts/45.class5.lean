theorem ROk.addP {r : Nat → Int32} {D N h : Nat} {a b c : Int32} (hR : ROk r D N h) (hN : N ≤ 6) (ha : RmI a) (hb : RmI b) (hc : FgI c) : ROk (adP r N a b c) D (N + 1) h := by
  have h9 := hR.1.1.2.1
  have ht : ∀ i, i ≠ 1 → i < 50 + 3 * N → adP r N a b c i = r i := fun i h1 h2 => by unfold adP; rw [upd_ne h1, upd_ne (by omega), upd_ne (by omega), upd_ne (by omega)]
  refine ⟨hR.1.add hN ha hb, fun d hd => by rw [ht _ (by omega) (by omega), ht _ (by omega) (by omega)]; exact hR.2.1 d hd, fun q hq => ?_, by rw [ht _ (by omega) (by omega)]; exact hR.2.2.2⟩
  by_cases e : q = N
  · rw [e]; unfold adP; rw [upd_ne (by omega), upd_eq]; exact hc
  · rw [ht _ (by omega) (by omega)]; exact hR.2.2.1 q (by omega)
theorem SD.addP {r : Nat → Int32} (hS : SOk r) {a b c : Int32} : SD r (adP r (nN r) a b c) := by
  have h9 := hS.d9
  have ht : ∀ i, i ≠ 1 → i < 50 → adP r (nN r) a b c i = r i := fun i h1 h2 => by unfold adP; rw [upd_ne h1, upd_ne (by omega), upd_ne (by omega), upd_ne (by omega)]
  exact ⟨ht 0 (by omega) (by omega), fun d hd => ⟨ht _ (by omega) (by omega), ht _ (by omega) (by omega)⟩⟩
theorem ROk.e1 {m : Nat → Int32} {D N h : Nat} (hR : ROk m D N h) : nN m = N := by
  unfold nN; rw [hR.1.1.2.2.1]; exact cN_nI (by have := hR.1.1.2.2.2.1; omega)
theorem SD.e0 {r m : Nat → Int32} (h : SD r m) : dN m = dN r := by unfold dN; rw [h.1]
/-- hours in mind, of another row with the same doors -/
theorem goM {r m ws : Nat → Int32} {N h n : Nat} (hS : SOk r) (hR : ROk m (dN r) N h) (hsd : SD r m) (hn : n < 2147483648) : PD mX3_goHours [.ref 0, .int (nI n), .int 0] (tW m ws (fsO r)) (some (.int (wentC (fsO r) (dN r) N false m n))) (tW (hrs m n) ws (fsO r)) := by
  have q := goW (ws := ws) (n := n) hR (hS.on.same hsd.2) hn
  have e : hrs m n = hoursM (farOf r) (dN r) N m n := by unfold hrs; rw [hsd.all.2.2, hsd.e0, hR.e1]
  rw [e]; exact q
theorem hcM {m ws fs : Nat → Int32} {D N h n : Nat} (hR : ROk m D N h) : PD mX3_homeCount [.ref 0] (tW (hrs m n) ws fs) (some (.int (bitsM (homeM (hrs m n) N) 9))) (tW (hrs m n) ws fs) := by
  have h1 : hrs m n 1 = nI N := (hoursM_ne (by omega) (by omega) (fun p hp => by omega) n).trans hR.1.1.2.2.1
  have h4 : hrs m n 4 = 0 := (hoursM_ne (by omega) (by omega) (fun p hp => by omega) n).trans hR.2.2.2
  exact (tX3_homeCount hR.1.1.2.2.2.1 h1).mono (by rw [hc_eq h4 hR.1.1.2.2.2.1])
theorem pstepM_stay {g : Nat → Nat} {D N q p : Nat} {s : Nat → Int32} (h : s (50 + 3 * p) = s (51 + 3 * p)) : pstepM g D N s q (50 + 3 * p) = s (50 + 3 * p) := by
  by_cases e : q = p
  · subst e; unfold pstepM; rw [if_pos (Or.inr h)]
  · exact pstepM_ne (by omega) (by omega) (by omega)
theorem hstepM_stay {g : Nat → Nat} {D N p : Nat} {s : Nat → Int32} (h : s (50 + 3 * p) = s (51 + 3 * p)) : ∀ k, hstepM g D N s k (50 + 3 * p) = s (50 + 3 * p) ∧ hstepM g D N s k (51 + 3 * p) = s (51 + 3 * p)
  | 0 => ⟨rfl, rfl⟩
  | k + 1 => by
    obtain ⟨h1, h2⟩ := hstepM_stay (g := g) (D := D) (N := N) h k
    rw [hstepM, pstepM_stay (by rw [h1, h2, h]), pstepM_ne (by omega) (by omega) (by omega)]
    exact ⟨h1, h2⟩
theorem hoursM_stay {g : Nat → Nat} {D N p : Nat} {s : Nat → Int32} (h : s (50 + 3 * p) = s (51 + 3 * p)) : ∀ k, hoursM g D N s k (50 + 3 * p) = s (50 + 3 * p) ∧ hoursM g D N s k (51 + 3 * p) = s (51 + 3 * p)
  | 0 => ⟨rfl, rfl⟩
  | k + 1 => by
    obtain ⟨h1, h2⟩ := hoursM_stay (g := g) (D := D) (N := N) h k
    have h3 := hstepM_stay (g := g) (D := D) (N := N) (p := p) (s := upd (hoursM g D N s k) 2 (hoursM g D N s k 2 + 1)) (by rw [upd_ne (by omega), upd_ne (by omega), h1, h2, h]) N
    rw [upd_ne (by omega), upd_ne (by omega), h1, h2] at h3
    rw [hoursM, hourM]
    exact h3
theorem hp_k : ∀ N, N < 7 → ∀ y, y < 64 → y < 2 ^ N → (bitsM (nI (y ||| 2 ^ N)) 9 - 1 : Int32) = bitsM (nI (y ||| 2 ^ N) &&& (((1 : Int32) <<< (nI N &&& 31)) ^^^ (-1 : Int32))) 9 ∧ (-1 : Int32) < bitsM (nI (y ||| 2 ^ N) &&& (((1 : Int32) <<< (nI N &&& 31)) ^^^ (-1 : Int32))) 9 := by decide +kernel
theorem hp_val {r : Nat → Int32} (hS : SOk r) {a n : Nat} (ha : a < 8) : bitsM (homeM (hrs (adP r (nN r) (nI a) (nI a) 9) n) (nN r + 1)) 9 - 1 = hpV r n a ∧ -1 < hpV r n a := by
  have h6 := hS.n6
  have hR := hS.R.addP h6 (RmI.nI ha) (RmI.nI ha) (c := 9) ⟨9, by omega, rfl⟩
  have h4 : hrs (adP r (nN r) (nI a) (nI a) 9) n 4 = 0 := (hoursM_ne (by omega) (by omega) (fun p hp => by omega) n).trans hR.2.2.2
  have e0 : adP r (nN r) (nI a) (nI a) 9 (50 + 3 * nN r) = nI a := by unfold adP; rw [upd_ne (by omega), upd_ne (by omega), upd_ne (by omega), upd_eq]
  have e1 : adP r (nN r) (nI a) (nI a) 9 (51 + 3 * nN r) = nI a := by unfold adP; rw [upd_ne (by omega), upd_ne (by omega), upd_eq]
  obtain ⟨s0, s1⟩ := hoursM_stay (g := farOf (adP r (nN r) (nI a) (nI a) 9)) (D := dN (adP r (nN r) (nI a) (nI a) 9)) (N := nN (adP r (nN r) (nI a) (nI a) 9)) (e0.trans e1.symm) n
  have hl := homeN_lt (r := hrs (adP r (nN r) (nI a) (nI a) 9) n) (nN r)
  have h2 : 2 ^ nN r ≤ 2 ^ 6 := Nat.pow_le_pow_right (by omega) h6
  have hb : homeM (hrs (adP r (nN r) (nI a) (nI a) 9) n) (nN r + 1) = nI (homeN (hrs (adP r (nN r) (nI a) (nI a) 9) n) (nN r) ||| 2 ^ nN r) := by
    rw [← home_eq h4 _ (by omega), homeS_n _ (by omega), homeN, if_pos (by unfold hrs; rw [s0, s1, e0, e1])]
  unfold hpV
  rw [hb]
  exact hp_k (nN r) (by omega) _ (by omega) hl
theorem bu9a {v : Nat → Int32} (h : -1 < v 0) : ∀ k, buS (-9) (-1) v (k + 1) = buS 0 (-1) v (k + 1)
  | 0 => by
    show (if (-1 : Int32) < v 0 then (nI 0, v 0) else ((-9 : Int32), (-1 : Int32))) = (if (-1 : Int32) < v 0 then (nI 0, v 0) else ((0 : Int32), (-1 : Int32)))
    rw [if_pos h, if_pos h]
  | k + 1 => by
    show (if (buS (-9) (-1) v (k + 1)).2 < v (k + 1) then (nI (k + 1), v (k + 1)) else buS (-9) (-1) v (k + 1)) = (if (buS 0 (-1) v (k + 1)).2 < v (k + 1) then (nI (k + 1), v (k + 1)) else buS 0 (-1) v (k + 1))
    rw [bu9a h k]
theorem bu9 {v : Nat → Int32} (h : -1 < v 0) : buS (-9) (-1) v 8 = buS 0 (-1) v 8 := bu9a h 7
theorem tX4_homeWithHelper {r m mw mf im lt rw rf ga : Nat → Int32} {hi : Int32} {L R : Nat} (hS : SOk r) {a n : Nat} (ha : a < 8) (hn : n ≤ 30) : PM mX4_homeWithHelper [.ref 0, .int (nI a), .int (nI n)] (xW r (wsO r) (fsO r) m mw mf im (wsO im) (fsO im) lt rw rf ga hi (nI L) (nI R)) (fun v w => v = some (.int (hpV r n a)) ∧ ∃ m2 mw2 mf2, w = xW r (wsO r) (fsO r) m2 mw2 mf2 im (wsO im) (fsO im) lt rw rf ga hi (nI L) (nI R)) := by
  refine PM.ofp 0 (by decide) (Nat.le_of_ble_eq_true rfl) ?_
  show Ok mX4_homeWithHelper none 0 [some (.ref 0), some (.int (nI a)), some (.int (nI n))] [] (xW r (wsO r) (fsO r) m mw mf im (wsO im) (fsO im) lt rw rf ga hi (nI L) (nI R)) 0 0 _
  have hR := hS.R.addP hS.n6 (RmI.nI ha) (RmI.nI ha) (c := 9) ⟨9, by omega, rfl⟩
  have hsd := SD.addP hS (a := nI a) (b := nI a) (c := 9)
  refine o_aload_n dX4_homeWithHelper_0 rfl rfl ?_
  refine o_getf (j := 1) dX4_homeWithHelper_1 rfl hcX4 inX4 (Nat.le_of_ble_eq_true rfl) wd205 rfl rfl ?_
  refine o_aload_n dX4_homeWithHelper_4 rfl rfl ?_
  refine o_getf (j := 0) dX4_homeWithHelper_5 rfl hcX4 inX4 (Nat.le_of_ble_eq_true rfl) wd204 rfl rfl ?_
  refine o_callVd (w2 := xW r (wsO r) (fsO r) r (wsO r) (fsO r) im (wsO im) (fsO im) lt rw rf ga hi (nI L) (nI R)) (is := [14, 15, 16, 17, 18, 19, 20, 21, 22, 23, 24, 25, 2, 3, 4, 5, 6, 7, 8, 9, 10, 11, 12, 13]) (tX3_become) ⟨rfl, rfl⟩ dX4_homeWithHelper_8 wd273 cvX3_become rfl ⟨(Nat.le_of_ble_eq_true rfl), (Nat.le_of_ble_eq_true rfl)⟩ hcX3 rfl rfl rfl rfl (Nat.le_of_ble_eq_true rfl) (Nat.le_of_ble_eq_true rfl) (Nat.le_of_ble_eq_true rfl) (pb_two (w1 := xW r (wsO r) (fsO r) r (wsO r) (fsO r) im (wsO im) (fsO im) lt rw rf ga hi (nI L) (nI R)) 12 14 2 12 rfl rfl (Nat.le_of_ble_eq_true rfl) rfl rfl rfl (Nat.le_of_ble_eq_true rfl) rfl rfl rfl) ?_
  refine o_aload_n dX4_homeWithHelper_11 rfl rfl ?_
  refine o_getf (j := 1) dX4_homeWithHelper_12 rfl hcX4 inX4 (Nat.le_of_ble_eq_true rfl) wd205 rfl rfl ?_
  refine o_iload_n dX4_homeWithHelper_15 rfl rfl ?_
  refine o_iload_n dX4_homeWithHelper_16 rfl rfl ?_
  refine o_bipush dX4_homeWithHelper_17 bp_9 ?_
  refine o_callVd (w2 := xW r (wsO r) (fsO r) (adP r (nN r) (nI a) (nI a) 9) (wsO r) (fsO r) im (wsO im) (fsO im) lt rw rf ga hi (nI L) (nI R)) (is := [14, 15, 16, 17, 18, 19, 20, 21, 22, 23, 24, 25]) (tX3_addPerson hS.n6 hS.e1) ⟨rfl, rfl⟩ dX4_homeWithHelper_19 wd508 cvX3_addPerson rfl ⟨(Nat.le_of_ble_eq_true rfl), (Nat.le_of_ble_eq_true rfl)⟩ hcX3 rfl rfl rfl rfl (Nat.le_of_ble_eq_true rfl) (Nat.le_of_ble_eq_true rfl) (Nat.le_of_ble_eq_true rfl) (pb_seg 14 (Nat.le_of_ble_eq_true rfl) rfl rfl rfl) ?_
  refine o_aload_n dX4_homeWithHelper_22 rfl rfl ?_
  refine o_getf (j := 1) dX4_homeWithHelper_23 rfl hcX4 inX4 (Nat.le_of_ble_eq_true rfl) wd205 rfl rfl ?_
  refine o_iload_n dX4_homeWithHelper_26 rfl rfl ?_
  refine o_iconst dX4_homeWithHelper_27 ic_0 ?_
  refine o_callVd (w2 := xW r (wsO r) (fsO r) (hrs (adP r (nN r) (nI a) (nI a) 9) n) (wsO r) (fsO r) im (wsO im) (fsO im) lt rw rf ga hi (nI L) (nI R)) (is := [14, 15, 16, 17, 18, 19, 20, 21, 22, 23, 24, 25]) (goM hS hR hsd (by omega)) ⟨rfl, rfl⟩ dX4_homeWithHelper_28 wd424 cvX3_goHours rfl ⟨(Nat.le_of_ble_eq_true rfl), (Nat.le_of_ble_eq_true rfl)⟩ hcX3 rfl rfl rfl rfl (Nat.le_of_ble_eq_true rfl) (Nat.le_of_ble_eq_true rfl) (Nat.le_of_ble_eq_true rfl) (pb_seg 14 (Nat.le_of_ble_eq_true rfl) rfl rfl rfl) ?_
  refine o_pop dX4_homeWithHelper_31 rfl ?_
  refine o_aload_n dX4_homeWithHelper_32 rfl rfl ?_
  refine o_getf (j := 1) dX4_homeWithHelper_33 rfl hcX4 inX4 (Nat.le_of_ble_eq_true rfl) wd205 rfl rfl ?_
  refine o_callVr (is := [14, 15, 16, 17, 18, 19, 20, 21, 22, 23, 24, 25]) (hcM hR) ⟨rfl, rfl⟩ dX4_homeWithHelper_36 wd425 cvX3_homeCount rfl ⟨(Nat.le_of_ble_eq_true rfl), (Nat.le_of_ble_eq_true rfl)⟩ hcX3 rfl rfl rfl rfl (Nat.le_of_ble_eq_true rfl) (Nat.le_of_ble_eq_true rfl) (Nat.le_of_ble_eq_true rfl) ?_
  refine o_iconst dX4_homeWithHelper_39 ic_1 ?_
  refine o_isub dX4_homeWithHelper_40 ?_
  refine o_iret dX4_homeWithHelper_41 rfl (vp_nar_int _) (Nat.le_of_ble_eq_true rfl) (Nat.le_of_ble_eq_true rfl) ?_
  exact ⟨by rw [(hp_val hS ha).1], _, _, _, rfl⟩
theorem lX4_helper {r im lt rw rf ga : Nat → Int32} {hi : Int32} {L R : Nat} (hS : SOk r) {n : Nat} {w : Int32} (hn : n ≤ 30) : ∀ (q k : Nat) (m mw mf : Nat → Int32) (x6 : Option Value), 8 - k < q → k ≤ 8 → Ok mX4_helper none 39 [some (.ref 0), some (.int (nI n)), some (.int w), some (.int (buS (-9) (-1) (hpV r n) k).1), some (.int (buS (-9) (-1) (hpV r n) k).2), some (.int (nI k)), x6] [] (xW r (wsO r) (fsO r) m mw mf im (wsO im) (fsO im) lt rw rf ga hi (nI L) (nI R)) 0 0 (fun v w2 => v = some (.int (if w = 0 then (buS 0 (-1) (hpV r n) 8).1 else (buS 0 (-1) (hpV r n) 8).2)) ∧ ∃ m2 mw2 mf2, w2 = xW r (wsO r) (fsO r) m2 mw2 mf2 im (wsO im) (fsO im) lt rw rf ga hi (nI L) (nI R)) := by
  intro q
  induction q with
  | zero => intro k m mw mf x6 hq hk; omega
  | succ q ih =>
  intro k m mw mf x6 hq hk
  refine o_iload dX4_helper_39 rfl ?_
  refine o_bipush dX4_helper_41 bp_8 ?_
  refine o_icmp_ge (tgt := 75) dX4_helper_43 (by decide) (fun c_43 => ?_) (fun c_43 => ?_)
  · have hkN : k = 8 := Nat.le_antisymm hk (geI (b := 8) (by omega) (by omega) c_43)
    subst hkN
    refine o_iload_n dX4_helper_75 rfl rfl ?_
    refine o_if_ne (tgt := 83) dX4_helper_76 (by decide) (fun c_76 => ?_) (fun c_76 => ?_)
    · skip
      refine o_iload dX4_helper_83 rfl ?_
      refine o_iret dX4_helper_85 rfl (vp_nar_int _) (Nat.le_of_ble_eq_true rfl) (Nat.le_of_ble_eq_true rfl) ?_
      exact ⟨by rw [if_neg c_76, bu9 (hp_val hS (by omega)).2], _, _, _, rfl⟩
    · skip
      refine o_iload_n dX4_helper_79 rfl rfl ?_
      refine o_goto (tgt := 85) dX4_helper_80 (by decide) ?_
      refine o_iret dX4_helper_85 rfl (vp_nar_int _) (Nat.le_of_ble_eq_true rfl) (Nat.le_of_ble_eq_true rfl) ?_
      exact ⟨by rw [if_pos c_76, bu9 (hp_val hS (by omega)).2], _, _, _, rfl⟩
  · have hkN : k < 8 := ltI (b := 8) (by omega) (by omega) c_43
    refine o_aload_n dX4_helper_46 rfl rfl ?_
    refine o_iload dX4_helper_47 rfl ?_
    refine o_iload_n dX4_helper_49 rfl rfl ?_
    refine o_callV (is := [0, 1, 2, 3, 4, 5, 6, 7, 8, 9, 10, 11, 12, 13, 14, 15, 16, 17, 18, 19, 20, 21, 22, 23, 24, 25, 26, 27, 28, 29, 30, 31, 32, 33, 34, 35, 36, 37, 38, 39, 40, 41, 42, 43]) (tX4_homeWithHelper hS hkN hn) ⟨rfl, rfl⟩ dX4_helper_50 wd504 cvX4_homeWithHelper rfl ⟨(Nat.le_of_ble_eq_true rfl), (Nat.le_of_ble_eq_true rfl)⟩ hcX4 rfl rfl rfl rfl (Nat.le_of_ble_eq_true rfl) (Nat.le_of_ble_eq_true rfl) (Nat.le_of_ble_eq_true rfl) (fun ra wb hq hqn => ?_)
    obtain ⟨rfl, m2, mw2, mf2, rfl⟩ := hq
    refine o_eqw (w2 := xW r (wsO r) (fsO r) m2 mw2 mf2 im (wsO im) (fsO im) lt rw rf ga hi (nI L) (nI R)) (pb_seg 0 (Nat.le_of_ble_eq_true rfl) rfl rfl rfl) ?_
    refine o_istg_6 dX4_helper_53 rfl (Nat.le_of_ble_eq_true rfl) ?_
    refine o_iload dX4_helper_55 rfl ?_
    refine o_iload dX4_helper_57 rfl ?_
    refine o_icmp_le (tgt := 69) dX4_helper_59 (by decide) (fun c_59 => ?_) (fun c_59 => ?_)
    · skip
      refine o_inc_5 dX4_helper_69 rfl ic_1 (Nat.le_of_ble_eq_true rfl) ?_
      refine o_goto (tgt := 39) dX4_helper_72 (by decide) ?_
      exact o_eqa (by rw [nI_1, buS, if_neg (Int32.not_lt.mpr c_59)]) rfl (ih (k + 1) _ _ _ _ (by omega) (by omega))
    · skip
      refine o_iload dX4_helper_62 rfl ?_
      refine o_istg_4 dX4_helper_64 rfl (Nat.le_of_ble_eq_true rfl) ?_
      refine o_iload dX4_helper_66 rfl ?_
      refine o_istn_3 dX4_helper_68 rfl rfl (Nat.le_of_ble_eq_true rfl) ?_
      refine o_inc_5 dX4_helper_69 rfl ic_1 (Nat.le_of_ble_eq_true rfl) ?_
      refine o_goto (tgt := 39) dX4_helper_72 (by decide) ?_
      exact o_eqa (by rw [nI_1, buS, if_pos (Int32.not_le.mp c_59)]) rfl (ih (k + 1) _ _ _ _ (by omega) (by omega))
theorem tX4_helper {r m mw mf im lt rw rf ga : Nat → Int32} {hi : Int32} {L R : Nat} (hS : SOk r) {x w : Int32} : PM mX4_helper [.ref 0, .int x, .int w] (xW r (wsO r) (fsO r) m mw mf im (wsO im) (fsO im) lt rw rf ga hi (nI L) (nI R)) (CP (s_helper x w (r, im, hi, lt, L, rw, R, rf))) := by
  refine PM.ofp 4 (by decide) (Nat.le_of_ble_eq_true rfl) ?_
  show Ok mX4_helper none 0 [some (.ref 0), some (.int x), some (.int w), none, none, none, none] [] (xW r (wsO r) (fsO r) m mw mf im (wsO im) (fsO im) lt rw rf ga hi (nI L) (nI R)) 0 0 _
  refine o_iload_n dX4_helper_0 rfl rfl ?_
  refine o_if_lt (tgt := 10) dX4_helper_1 (by decide) (fun c_1 => ?_) (fun c_1 => ?_)
  · skip
    refine o_aload_n dX4_helper_10 rfl rfl ?_
    refine o_iload_n dX4_helper_11 rfl rfl ?_
    refine o_callVd (w2 := xW r (wsO r) (fsO r) m mw mf im (wsO im) (fsO im) lt rw (rfu rf 4) ga hi (nI L) (nI R)) (is := [0, 1, 2, 3, 4, 5, 6, 7, 8, 9, 10, 11, 12, 13, 14, 15, 16, 17, 18, 19, 20, 21, 22, 23, 24, 25, 26, 27, 28, 29, 30, 31, 32, 33, 34, 35, 36, 37, 38, 39, 40, 41, 42, 43]) (rfn_lo c_1) ⟨rfl, rfl⟩ dX4_helper_12 wd412 cvX4_refusedNumber rfl ⟨(Nat.le_of_ble_eq_true rfl), (Nat.le_of_ble_eq_true rfl)⟩ hcX4 rfl rfl rfl rfl (Nat.le_of_ble_eq_true rfl) (Nat.le_of_ble_eq_true rfl) (Nat.le_of_ble_eq_true rfl) (pb_seg 0 (Nat.le_of_ble_eq_true rfl) rfl rfl rfl) ?_
    refine o_iret dX4_helper_15 rfl (vp_nar_int _) (Nat.le_of_ble_eq_true rfl) (Nat.le_of_ble_eq_true rfl) ?_
    exact CP.mk (by simp only [s_helper, wrB, if_pos c_1]; rfl)
  · skip
    refine o_iload_n dX4_helper_4 rfl rfl ?_
    refine o_bipush dX4_helper_5 bp_30 ?_
    refine o_icmp_le (tgt := 16) dX4_helper_7 (by decide) (fun c_7 => ?_) (fun c_7 => ?_)
    · have q2 : ¬ nI 30 < x := Int32.not_lt.mpr c_7
      obtain ⟨q, hq, rfl⟩ := rng (b := 30) (by omega) c_1 q2
      have eq := cN_nI (d := q) (by omega)
      refine o_iload_n dX4_helper_16 rfl rfl ?_
      refine o_callSr (is := []) (tX4_isHalf) ⟨rfl, rfl⟩ dX4_helper_17 wd443 csX4_isHalf rfl ⟨(Nat.le_of_ble_eq_true rfl), (Nat.le_of_ble_eq_true rfl)⟩ rfl rfl rfl (Nat.le_of_ble_eq_true rfl) (Nat.le_of_ble_eq_true rfl) (Nat.le_of_ble_eq_true rfl) ?_
      refine o_if_ne (tgt := 30) dX4_helper_20 (by decide) (fun c_20 => ?_) (fun c_20 => ?_)
      · have hww : inR 2 w = true := by rw [← isHalf_eq]; exact bI_ne c_20
        refine o_bipush dX4_helper_30 bp_m9 ?_
        refine o_istn_3 dX4_helper_32 rfl rfl (Nat.le_of_ble_eq_true rfl) ?_
        refine o_iconst dX4_helper_33 ic_m1 ?_
        refine o_istg_4 dX4_helper_34 rfl (Nat.le_of_ble_eq_true rfl) ?_
        refine o_iconst dX4_helper_36 ic_0 ?_
        refine o_istg_5 dX4_helper_37 rfl (Nat.le_of_ble_eq_true rfl) ?_
        refine o_post (fun v w2 h => ?_) (o_eqa (by rw [nI_0]; rfl) rfl (lX4_helper (w := w) hS hq 9 0 _ _ _ _ (by omega) (by omega)))
        obtain ⟨rfl, m2, mw2, mf2, rfl⟩ := h
        exact CP.mk (by simp only [s_helper, wrB, if_neg c_1, if_neg q2, hww, if_true, eq])
      · have hww : inR 2 w = false := by rw [← isHalf_eq]; exact bI_0.mp c_20
        refine o_aload_n dX4_helper_23 rfl rfl ?_
        refine o_bipush dX4_helper_24 bp_m2 ?_
        refine o_callVd (w2 := xW r (wsO r) (fsO r) m mw mf im (wsO im) (fsO im) lt rw (rfu rf 2) ga hi (nI L) (nI R)) (is := [0, 1, 2, 3, 4, 5, 6, 7, 8, 9, 10, 11, 12, 13, 14, 15, 16, 17, 18, 19, 20, 21, 22, 23, 24, 25, 26, 27, 28, 29, 30, 31, 32, 33, 34, 35, 36, 37, 38, 39, 40, 41, 42, 43]) (tX4_refused (c := 2) rfl (by decide)) ⟨rfl, rfl⟩ dX4_helper_26 wd233 cvX4_refused rfl ⟨(Nat.le_of_ble_eq_true rfl), (Nat.le_of_ble_eq_true rfl)⟩ hcX4 rfl rfl rfl rfl (Nat.le_of_ble_eq_true rfl) (Nat.le_of_ble_eq_true rfl) (Nat.le_of_ble_eq_true rfl) (pb_seg 0 (Nat.le_of_ble_eq_true rfl) rfl rfl rfl) ?_
        refine o_iret dX4_helper_29 rfl (vp_nar_int _) (Nat.le_of_ble_eq_true rfl) (Nat.le_of_ble_eq_true rfl) ?_
        exact CP.mk (by simp only [s_helper, wrB, if_neg c_1, if_neg q2, hww]; rfl)
    · have q2 : nI 30 < x := Int32.not_le.mp c_7
      refine o_aload_n dX4_helper_10 rfl rfl ?_
      refine o_iload_n dX4_helper_11 rfl rfl ?_
      refine o_callVd (w2 := xW r (wsO r) (fsO r) m mw mf im (wsO im) (fsO im) lt rw (rfu rf 6) ga hi (nI L) (nI R)) (is := [0, 1, 2, 3, 4, 5, 6, 7, 8, 9, 10, 11, 12, 13, 14, 15, 16, 17, 18, 19, 20, 21, 22, 23, 24, 25, 26, 27, 28, 29, 30, 31, 32, 33, 34, 35, 36, 37, 38, 39, 40, 41, 42, 43]) (rfn_hi c_1) ⟨rfl, rfl⟩ dX4_helper_12 wd412 cvX4_refusedNumber rfl ⟨(Nat.le_of_ble_eq_true rfl), (Nat.le_of_ble_eq_true rfl)⟩ hcX4 rfl rfl rfl rfl (Nat.le_of_ble_eq_true rfl) (Nat.le_of_ble_eq_true rfl) (Nat.le_of_ble_eq_true rfl) (pb_seg 0 (Nat.le_of_ble_eq_true rfl) rfl rfl rfl) ?_
      refine o_iret dX4_helper_15 rfl (vp_nar_int _) (Nat.le_of_ble_eq_true rfl) (Nat.le_of_ble_eq_true rfl) ?_
      exact CP.mk (by simp only [s_helper, wrB, if_neg c_1, if_pos q2]; rfl)
theorem stG_ne {r : Nat → Int32} {set : Int32} {i : Nat} : ∀ k, (∀ j, j < k → i ≠ 51 + 3 * j) → stG r set k i = r i
  | 0, _ => rfl
  | k + 1, h => by
    rw [stG]
    split
    · rw [upd_ne (h k (by omega))]; exact stG_ne k (fun j hj => h j (by omega))
    · exact stG_ne k (fun j hj => h j (by omega))
theorem ROk.stG {r : Nat → Int32} {D N h : Nat} {set : Int32} (hR : ROk r D N h) : ROk (stG r set N) D N h := by
  have h9 := hR.1.1.2.1
  exact ⟨hR.1.stG N (Nat.le_refl _), fun d hd => by rw [stG_ne N (fun j hj => by omega), stG_ne N (fun j hj => by omega)]; exact hR.2.1 d hd, fun p hp => by rw [stG_ne N (fun j hj => by omega)]; exact hR.2.2.1 p hp, by rw [stG_ne N (fun j hj => by omega)]; exact hR.2.2.2⟩
theorem SD.stG {r : Nat → Int32} (hS : SOk r) {set : Int32} {k : Nat} : SD r (stG r set k) := by
  have h9 := hS.d9
  exact ⟨stG_ne k (fun j hj => by omega), fun d hd => ⟨stG_ne k (fun j hj => by omega), stG_ne k (fun j hj => by omega)⟩⟩
theorem home_bit {x : Nat → Int32} {N p : Nat} (h4 : x 4 = 0) (hN : N ≤ 7) (hp : p < N) : hasB (homeM x N) (nI p) = decide (x (50 + 3 * p) = x (51 + 3 * p)) := by
  have hl := homeN_lt (r := x) N
  have h2 : 2 ^ N ≤ 2 ^ 7 := Nat.pow_le_pow_right (by omega) hN
  rw [← home_eq h4 N hN, homeS_n N hN, hasB_nI (by omega) (by omega), homeN_bit]
  exact decide_eq_decide.mpr ⟨fun h => h.2, fun h => ⟨hp, h⟩⟩
theorem fw_c {r : Nat → Int32} {n p : Nat} : ∀ k, fwS r n p k = -9 ∨ ∃ j, j < k ∧ fwS r n p k = nI j
  | 0 => Or.inl rfl
  | k + 1 => by
    rw [fwS]
    have ih : fwS r n p k = -9 ∨ ∃ j, j < k + 1 ∧ fwS r n p k = nI j := by
      rcases fw_c (r := r) (n := n) (p := p) k with h | ⟨j, h1, h2⟩
      · exact Or.inl h
      · exact Or.inr ⟨j, by omega, h2⟩
    split
    · exact ih
    · split
      · exact Or.inr ⟨k, by omega, rfl⟩
      · exact ih
theorem lX4_isHomeWhileStay {r im lt rw rf ga : Nat → Int32} {hi : Int32} {L R : Nat} (hS : SOk r) {p b n : Nat} (hp : p < nN r) (hn : n ≤ 30) : ∀ (q k : Nat), nN r - k < q → k ≤ nN r → Ok mX4_isHomeWhileStay none 14 [some (.ref 0), some (.int (nI p)), some (.int (nI b)), some (.int (nI n)), some (.int (nI k))] [] (xW r (wsO r) (fsO r) (stG r (nI b) k) (wsO r) (fsO r) im (wsO im) (fsO im) lt rw rf ga hi (nI L) (nI R)) 0 0 (fun v w => v = some (.int (bI (hasB (homeM (hrs (stG r (nI b) (nN r)) n) (nN r)) (nI p)))) ∧ ∃ m2 mw2 mf2, w = xW r (wsO r) (fsO r) m2 mw2 mf2 im (wsO im) (fsO im) lt rw rf ga hi (nI L) (nI R)) := by
  intro q
  induction q with
  | zero => intro k hq hk; omega
  | succ q ih =>
  intro k hq hk
  have h6 := hS.n6
  have h9 := hS.d9
  refine o_iload dX4_isHomeWhileStay_14 rfl ?_
  refine o_aload_n dX4_isHomeWhileStay_16 rfl rfl ?_
  refine o_getf (j := 1) dX4_isHomeWhileStay_17 rfl hcX4 inX4 (Nat.le_of_ble_eq_true rfl) wd205 rfl rfl ?_
  refine o_getf (j := 4) dX4_isHomeWhileStay_20 rfl hcX3 inX3 (Nat.le_of_ble_eq_true rfl) wd150 rfl rfl ?_
  refine o_eqs (by rw [stG_ne k (fun j hj => by omega), hS.e1]) ?_
  refine o_icmp_ge (tgt := 50) dX4_isHomeWhileStay_23 (by decide) (fun c_23 => ?_) (fun c_23 => ?_)
  · have hkN : k = nN r := Nat.le_antisymm hk (geI (b := nN r) (by omega) (by omega) c_23)
    rw [hkN]
    refine o_aload_n dX4_isHomeWhileStay_50 rfl rfl ?_
    refine o_getf (j := 1) dX4_isHomeWhileStay_51 rfl hcX4 inX4 (Nat.le_of_ble_eq_true rfl) wd205 rfl rfl ?_
    refine o_iload_n dX4_isHomeWhileStay_54 rfl rfl ?_
    refine o_iconst dX4_isHomeWhileStay_55 ic_0 ?_
    refine o_callVd (w2 := xW r (wsO r) (fsO r) (hrs (stG r (nI b) (nN r)) n) (wsO r) (fsO r) im (wsO im) (fsO im) lt rw rf ga hi (nI L) (nI R)) (is := [14, 15, 16, 17, 18, 19, 20, 21, 22, 23, 24, 25]) (goM hS (ROk.stG (set := nI b) hS.R) (SD.stG hS) (by omega)) ⟨rfl, rfl⟩ dX4_isHomeWhileStay_56 wd424 cvX3_goHours rfl ⟨(Nat.le_of_ble_eq_true rfl), (Nat.le_of_ble_eq_true rfl)⟩ hcX3 rfl rfl rfl rfl (Nat.le_of_ble_eq_true rfl) (Nat.le_of_ble_eq_true rfl) (Nat.le_of_ble_eq_true rfl) (pb_seg 14 (Nat.le_of_ble_eq_true rfl) rfl rfl rfl) ?_
    refine o_pop dX4_isHomeWhileStay_59 rfl ?_
    refine o_aload_n dX4_isHomeWhileStay_60 rfl rfl ?_
    refine o_getf (j := 1) dX4_isHomeWhileStay_61 rfl hcX4 inX4 (Nat.le_of_ble_eq_true rfl) wd205 rfl rfl ?_
    refine o_iload_n dX4_isHomeWhileStay_64 rfl rfl ?_
    refine o_callVr (is := [14, 15, 16, 17, 18, 19, 20, 21, 22, 23, 24, 25]) (tX3_isHome (by omega)) ⟨rfl, rfl⟩ dX4_isHomeWhileStay_65 wd522 cvX3_isHome rfl ⟨(Nat.le_of_ble_eq_true rfl), (Nat.le_of_ble_eq_true rfl)⟩ hcX3 rfl rfl rfl rfl (Nat.le_of_ble_eq_true rfl) (Nat.le_of_ble_eq_true rfl) (Nat.le_of_ble_eq_true rfl) ?_
    refine o_iret dX4_isHomeWhileStay_68 rfl (by first | exact nz_b _ | decide) (Nat.le_of_ble_eq_true rfl) (Nat.le_of_ble_eq_true rfl) ?_
    exact ⟨by rw [home_bit (x := hrs (stG r (nI b) (nN r)) n) ((hoursM_ne (by omega) (by omega) (fun p hp => by omega) n).trans (ROk.stG (set := nI b) hS.R).2.2.2) (by omega) hp], _, _, _, rfl⟩
  · have hkN : k < nN r := ltI (b := nN r) (by omega) (by omega) c_23
    refine o_iload_n dX4_isHomeWhileStay_26 rfl rfl ?_
    refine o_iload dX4_isHomeWhileStay_27 rfl ?_
    refine o_callSr (is := []) (tX4_hasBit) ⟨rfl, rfl⟩ dX4_isHomeWhileStay_29 wd486 csX4_hasBit rfl ⟨(Nat.le_of_ble_eq_true rfl), (Nat.le_of_ble_eq_true rfl)⟩ rfl rfl rfl (Nat.le_of_ble_eq_true rfl) (Nat.le_of_ble_eq_true rfl) (Nat.le_of_ble_eq_true rfl) ?_
    refine o_if_eq (tgt := 44) dX4_isHomeWhileStay_32 (by decide) (fun c_32 => ?_) (fun c_32 => ?_)
    · skip
      refine o_inc_4 dX4_isHomeWhileStay_44 rfl ic_1 (Nat.le_of_ble_eq_true rfl) ?_
      refine o_goto (tgt := 14) dX4_isHomeWhileStay_47 (by decide) ?_
      exact o_eqa (by rw [nI_1]) (by rw [stG, if_neg (by rw [bI_0.mp c_32]; decide)]) (ih (k + 1) (by omega) (by omega))
    · skip
      refine o_aload_n dX4_isHomeWhileStay_35 rfl rfl ?_
      refine o_getf (j := 1) dX4_isHomeWhileStay_36 rfl hcX4 inX4 (Nat.le_of_ble_eq_true rfl) wd205 rfl rfl ?_
      refine o_iload dX4_isHomeWhileStay_39 rfl ?_
      refine o_callVd (w2 := xW r (wsO r) (fsO r) (upd (stG r (nI b) k) (51 + 3 * k) (stG r (nI b) k (50 + 3 * k))) (wsO r) (fsO r) im (wsO im) (fsO im) lt rw rf ga hi (nI L) (nI R)) (is := [14, 15, 16, 17, 18, 19, 20, 21, 22, 23, 24, 25]) (tX3_stay (by omega)) ⟨rfl, rfl⟩ dX4_isHomeWhileStay_41 wd518 cvX3_stay rfl ⟨(Nat.le_of_ble_eq_true rfl), (Nat.le_of_ble_eq_true rfl)⟩ hcX3 rfl rfl rfl rfl (Nat.le_of_ble_eq_true rfl) (Nat.le_of_ble_eq_true rfl) (Nat.le_of_ble_eq_true rfl) (pb_seg 14 (Nat.le_of_ble_eq_true rfl) rfl rfl rfl) ?_
      refine o_inc_4 dX4_isHomeWhileStay_44 rfl ic_1 (Nat.le_of_ble_eq_true rfl) ?_
      refine o_goto (tgt := 14) dX4_isHomeWhileStay_47 (by decide) ?_
      exact o_eqa (by rw [nI_1]) (by rw [stG, if_pos (bI_ne c_32)]) (ih (k + 1) (by omega) (by omega))
theorem tX4_isHomeWhileStay {r m mw mf im lt rw rf ga : Nat → Int32} {hi : Int32} {L R : Nat} (hS : SOk r) {p b n : Nat} (hp : p < nN r) (hn : n ≤ 30) : PM mX4_isHomeWhileStay [.ref 0, .int (nI p), .int (nI b), .int (nI n)] (xW r (wsO r) (fsO r) m mw mf im (wsO im) (fsO im) lt rw rf ga hi (nI L) (nI R)) (fun v w => v = some (.int (bI (hasB (homeM (hrs (stG r (nI b) (nN r)) n) (nN r)) (nI p)))) ∧ ∃ m2 mw2 mf2, w = xW r (wsO r) (fsO r) m2 mw2 mf2 im (wsO im) (fsO im) lt rw rf ga hi (nI L) (nI R)) := by
  refine PM.ofp 1 (by decide) (Nat.le_of_ble_eq_true rfl) ?_
  show Ok mX4_isHomeWhileStay none 0 [some (.ref 0), some (.int (nI p)), some (.int (nI b)), some (.int (nI n)), none] [] (xW r (wsO r) (fsO r) m mw mf im (wsO im) (fsO im) lt rw rf ga hi (nI L) (nI R)) 0 0 _
  refine o_aload_n dX4_isHomeWhileStay_0 rfl rfl ?_
  refine o_getf (j := 1) dX4_isHomeWhileStay_1 rfl hcX4 inX4 (Nat.le_of_ble_eq_true rfl) wd205 rfl rfl ?_
  refine o_aload_n dX4_isHomeWhileStay_4 rfl rfl ?_
  refine o_getf (j := 0) dX4_isHomeWhileStay_5 rfl hcX4 inX4 (Nat.le_of_ble_eq_true rfl) wd204 rfl rfl ?_
  refine o_callVd (w2 := xW r (wsO r) (fsO r) r (wsO r) (fsO r) im (wsO im) (fsO im) lt rw rf ga hi (nI L) (nI R)) (is := [14, 15, 16, 17, 18, 19, 20, 21, 22, 23, 24, 25, 2, 3, 4, 5, 6, 7, 8, 9, 10, 11, 12, 13]) (tX3_become) ⟨rfl, rfl⟩ dX4_isHomeWhileStay_8 wd273 cvX3_become rfl ⟨(Nat.le_of_ble_eq_true rfl), (Nat.le_of_ble_eq_true rfl)⟩ hcX3 rfl rfl rfl rfl (Nat.le_of_ble_eq_true rfl) (Nat.le_of_ble_eq_true rfl) (Nat.le_of_ble_eq_true rfl) (pb_two (w1 := xW r (wsO r) (fsO r) r (wsO r) (fsO r) im (wsO im) (fsO im) lt rw rf ga hi (nI L) (nI R)) 12 14 2 12 rfl rfl (Nat.le_of_ble_eq_true rfl) rfl rfl rfl (Nat.le_of_ble_eq_true rfl) rfl rfl rfl) ?_
  refine o_iconst dX4_isHomeWhileStay_11 ic_0 ?_
  refine o_istg_4 dX4_isHomeWhileStay_12 rfl (Nat.le_of_ble_eq_true rfl) ?_
  exact o_eqa (by rw [nI_0]) rfl (lX4_isHomeWhileStay hS hp hn (nN r + 1) 0 (by omega) (by omega))
theorem lX4_fewest {r im lt rw rf ga : Nat → Int32} {hi : Int32} {L R : Nat} (hS : SOk r) {d n : Nat} (hd : d < nN r) (hn : n ≤ 30) : ∀ (q k : Nat) (m mw mf : Nat → Int32) (x5 : Option Value), 2 ^ nN r - k < q → k ≤ 2 ^ nN r → Ok mX4_fewest none 39 [some (.ref 0), some (.int (nI d)), some (.int (nI n)), some (.int (fwS r n d k)), some (.int (nI k)), x5] [] (xW r (wsO r) (fsO r) m mw mf im (wsO im) (fsO im) lt rw rf ga hi (nI L) (nI R)) 0 0 (fun v w => v = some (.int (fwS r n d (2 ^ nN r))) ∧ ∃ m2 mw2 mf2, w = xW r (wsO r) (fsO r) m2 mw2 mf2 im (wsO im) (fsO im) lt rw rf ga hi (nI L) (nI R)) := by
  intro q
  induction q with
  | zero => intro k m mw mf x5 hq hk; omega
  | succ q ih =>
  intro k m mw mf x5 hq hk
  have h6 := hS.n6
  have hp2 := p2_le h6
  refine o_iload dX4_fewest_39 rfl ?_
  refine o_iconst dX4_fewest_41 ic_1 ?_
  refine o_aload_n dX4_fewest_42 rfl rfl ?_
  refine o_getf (j := 0) dX4_fewest_43 rfl hcX4 inX4 (Nat.le_of_ble_eq_true rfl) wd204 rfl rfl ?_
  refine o_getf (j := 4) dX4_fewest_46 rfl hcX3 inX3 (Nat.le_of_ble_eq_true rfl) wd150 rfl rfl ?_
  refine o_eqs (by rw [hS.e1]) ?_
  refine o_ishl dX4_fewest_49 ?_
  refine o_eqs (by rw [sh1 (by omega)]) ?_
  refine o_icmp_ge (tgt := 112) dX4_fewest_50 (by decide) (fun c_50 => ?_) (fun c_50 => ?_)
  · have hkN : k = 2 ^ nN r := Nat.le_antisymm hk (geI (b := 2 ^ nN r) (by omega) (by omega) c_50)
    rw [hkN]
    refine o_iload_n dX4_fewest_112 rfl rfl ?_
    refine o_iret dX4_fewest_113 rfl (vp_nar_int _) (Nat.le_of_ble_eq_true rfl) (Nat.le_of_ble_eq_true rfl) ?_
    exact ⟨rfl, _, _, _, rfl⟩
  · have hkN : k < 2 ^ nN r := ltI (b := 2 ^ nN r) (by omega) (by omega) c_50
    refine o_iload_n dX4_fewest_53 rfl rfl ?_
    refine o_bipush dX4_fewest_54 bp_m9 ?_
    refine o_icmp_eq (tgt := 71) dX4_fewest_56 (by decide) (fun c_56 => ?_) (fun c_56 => ?_)
    · have hf : ¬ (¬ fwS r n d k < 0 ∧ ¬ bitsM (nI k) 9 < bitsM (fwS r n d k) 9) := fun q => q.1 (by rw [c_56]; exact m9_neg)
      refine o_iconst dX4_fewest_71 ic_1 ?_
      refine o_goto (tgt := 76) dX4_fewest_72 (by decide) ?_
      refine o_istg_5 dX4_fewest_76 rfl (Nat.le_of_ble_eq_true rfl) ?_
      refine o_iload dX4_fewest_78 rfl ?_
      refine o_if_eq (tgt := 106) dX4_fewest_80 (by decide) (fun cq => absurd cq (by decide)) (fun _ => ?_)
      refine o_iload dX4_fewest_83 rfl ?_
      refine o_iload_n dX4_fewest_85 rfl rfl ?_
      refine o_callSr (is := []) (tX4_hasBit) ⟨rfl, rfl⟩ dX4_fewest_86 wd486 csX4_hasBit rfl ⟨(Nat.le_of_ble_eq_true rfl), (Nat.le_of_ble_eq_true rfl)⟩ rfl rfl rfl (Nat.le_of_ble_eq_true rfl) (Nat.le_of_ble_eq_true rfl) (Nat.le_of_ble_eq_true rfl) ?_
      refine o_if_ne (tgt := 106) dX4_fewest_89 (by decide) (fun c_89 => ?_) (fun c_89 => ?_)
      · skip
        refine o_inc_4 dX4_fewest_106 rfl ic_1 (Nat.le_of_ble_eq_true rfl) ?_
        refine o_goto (tgt := 39) dX4_fewest_109 (by decide) ?_
        exact o_eqa (by rw [nI_1, fwS, if_pos (Or.inl (bI_ne c_89))]) rfl (ih (k + 1) _ _ _ _ (by omega) (by omega))
      · have hc : ¬ (hasB (nI k) (nI d) = true ∨ (¬ fwS r n d k < 0 ∧ ¬ bitsM (nI k) 9 < bitsM (fwS r n d k) 9)) := fun q => by
          rcases q with q | q
          · rw [bI_0.mp c_89] at q; exact absurd q (by decide)
          · exact hf q
        refine o_aload_n dX4_fewest_92 rfl rfl ?_
        refine o_iload_n dX4_fewest_93 rfl rfl ?_
        refine o_iload dX4_fewest_94 rfl ?_
        refine o_iload_n dX4_fewest_96 rfl rfl ?_
        refine o_callV (is := [0, 1, 2, 3, 4, 5, 6, 7, 8, 9, 10, 11, 12, 13, 14, 15, 16, 17, 18, 19, 20, 21, 22, 23, 24, 25, 26, 27, 28, 29, 30, 31, 32, 33, 34, 35, 36, 37, 38, 39, 40, 41, 42, 43]) (tX4_isHomeWhileStay hS hd hn) ⟨rfl, rfl⟩ dX4_fewest_97 wd514 cvX4_isHomeWhileStay rfl ⟨(Nat.le_of_ble_eq_true rfl), (Nat.le_of_ble_eq_true rfl)⟩ hcX4 rfl rfl rfl rfl (Nat.le_of_ble_eq_true rfl) (Nat.le_of_ble_eq_true rfl) (Nat.le_of_ble_eq_true rfl) (fun ra wb hq hqn => ?_)
        obtain ⟨rfl, m2, mw2, mf2, rfl⟩ := hq
        refine o_eqw (w2 := xW r (wsO r) (fsO r) m2 mw2 mf2 im (wsO im) (fsO im) lt rw rf ga hi (nI L) (nI R)) (pb_seg 0 (Nat.le_of_ble_eq_true rfl) rfl rfl rfl) ?_
        refine o_if_eq (tgt := 106) dX4_fewest_100 (by decide) (fun c_100 => ?_) (fun c_100 => ?_)
        · skip
          refine o_inc_4 dX4_fewest_106 rfl ic_1 (Nat.le_of_ble_eq_true rfl) ?_
          refine o_goto (tgt := 39) dX4_fewest_109 (by decide) ?_
          exact o_eqa (by rw [nI_1, fwS, if_neg hc, if_neg (by rw [bI_0.mp c_100]; decide)]) rfl (ih (k + 1) _ _ _ _ (by omega) (by omega))
        · skip
          refine o_iload dX4_fewest_103 rfl ?_
          refine o_istn_3 dX4_fewest_105 rfl rfl (Nat.le_of_ble_eq_true rfl) ?_
          refine o_inc_4 dX4_fewest_106 rfl ic_1 (Nat.le_of_ble_eq_true rfl) ?_
          refine o_goto (tgt := 39) dX4_fewest_109 (by decide) ?_
          exact o_eqa (by rw [nI_1, fwS, if_neg hc, if_pos (bI_ne c_100)]) rfl (ih (k + 1) _ _ _ _ (by omega) (by omega))
    · obtain ⟨j, hj, ej⟩ := (fw_c (r := r) (n := n) (p := d) k).resolve_left c_56
      have b1 := bc_bits k (by omega)
      have b2 := bc_bits j (by omega)
      rw [← ej] at b2
      refine o_iload dX4_fewest_59 rfl ?_
      refine o_callSr (is := []) (tJ6_bitCount_0f7a4) ⟨rfl, rfl⟩ dX4_fewest_61 wd513 csJ6_bitCount_0f7a4 rfl ⟨(Nat.le_of_ble_eq_true rfl), (Nat.le_of_ble_eq_true rfl)⟩ rfl rfl rfl (Nat.le_of_ble_eq_true rfl) (Nat.le_of_ble_eq_true rfl) (Nat.le_of_ble_eq_true rfl) ?_
      refine o_iload_n dX4_fewest_64 rfl rfl ?_
      refine o_callSr (is := []) (tJ6_bitCount_0f7a4) ⟨rfl, rfl⟩ dX4_fewest_65 wd513 csJ6_bitCount_0f7a4 rfl ⟨(Nat.le_of_ble_eq_true rfl), (Nat.le_of_ble_eq_true rfl)⟩ rfl rfl rfl (Nat.le_of_ble_eq_true rfl) (Nat.le_of_ble_eq_true rfl) (Nat.le_of_ble_eq_true rfl) ?_
      refine o_icmp_ge (tgt := 75) dX4_fewest_68 (by decide) (fun c_68 => ?_) (fun c_68 => ?_)
      · have hy : hasB (nI k) (nI d) = true ∨ (¬ fwS r n d k < 0 ∧ ¬ bitsM (nI k) 9 < bitsM (fwS r n d k) 9) := Or.inr ⟨by rw [ej]; exact nI_pos (by omega), by rw [← b1, ← b2]; exact Int32.not_lt.mpr c_68⟩
        refine o_iconst dX4_fewest_75 ic_0 ?_
        refine o_istg_5 dX4_fewest_76 rfl (Nat.le_of_ble_eq_true rfl) ?_
        refine o_iload dX4_fewest_78 rfl ?_
        refine o_if_eq (tgt := 106) dX4_fewest_80 (by decide) (fun _ => ?_) (fun cq => absurd (by decide) cq)
        refine o_inc_4 dX4_fewest_106 rfl ic_1 (Nat.le_of_ble_eq_true rfl) ?_
        refine o_goto (tgt := 39) dX4_fewest_109 (by decide) ?_
        exact o_eqa (by rw [nI_1, fwS, if_pos hy]) rfl (ih (k + 1) _ _ _ _ (by omega) (by omega))
      · have hf : ¬ (¬ fwS r n d k < 0 ∧ ¬ bitsM (nI k) 9 < bitsM (fwS r n d k) 9) := fun q => q.2 (by rw [← b1, ← b2]; exact Int32.not_le.mp c_68)
        refine o_iconst dX4_fewest_71 ic_1 ?_
        refine o_goto (tgt := 76) dX4_fewest_72 (by decide) ?_
        refine o_istg_5 dX4_fewest_76 rfl (Nat.le_of_ble_eq_true rfl) ?_
        refine o_iload dX4_fewest_78 rfl ?_
        refine o_if_eq (tgt := 106) dX4_fewest_80 (by decide) (fun cq => absurd cq (by decide)) (fun _ => ?_)
        refine o_iload dX4_fewest_83 rfl ?_
        refine o_iload_n dX4_fewest_85 rfl rfl ?_
        refine o_callSr (is := []) (tX4_hasBit) ⟨rfl, rfl⟩ dX4_fewest_86 wd486 csX4_hasBit rfl ⟨(Nat.le_of_ble_eq_true rfl), (Nat.le_of_ble_eq_true rfl)⟩ rfl rfl rfl (Nat.le_of_ble_eq_true rfl) (Nat.le_of_ble_eq_true rfl) (Nat.le_of_ble_eq_true rfl) ?_
        refine o_if_ne (tgt := 106) dX4_fewest_89 (by decide) (fun c_89 => ?_) (fun c_89 => ?_)
        · skip
          refine o_inc_4 dX4_fewest_106 rfl ic_1 (Nat.le_of_ble_eq_true rfl) ?_
          refine o_goto (tgt := 39) dX4_fewest_109 (by decide) ?_
          exact o_eqa (by rw [nI_1, fwS, if_pos (Or.inl (bI_ne c_89))]) rfl (ih (k + 1) _ _ _ _ (by omega) (by omega))
        · have hc : ¬ (hasB (nI k) (nI d) = true ∨ (¬ fwS r n d k < 0 ∧ ¬ bitsM (nI k) 9 < bitsM (fwS r n d k) 9)) := fun q => by
            rcases q with q | q
            · rw [bI_0.mp c_89] at q; exact absurd q (by decide)
            · exact hf q
          refine o_aload_n dX4_fewest_92 rfl rfl ?_
          refine o_iload_n dX4_fewest_93 rfl rfl ?_
          refine o_iload dX4_fewest_94 rfl ?_
          refine o_iload_n dX4_fewest_96 rfl rfl ?_
          refine o_callV (is := [0, 1, 2, 3, 4, 5, 6, 7, 8, 9, 10, 11, 12, 13, 14, 15, 16, 17, 18, 19, 20, 21, 22, 23, 24, 25, 26, 27, 28, 29, 30, 31, 32, 33, 34, 35, 36, 37, 38, 39, 40, 41, 42, 43]) (tX4_isHomeWhileStay hS hd hn) ⟨rfl, rfl⟩ dX4_fewest_97 wd514 cvX4_isHomeWhileStay rfl ⟨(Nat.le_of_ble_eq_true rfl), (Nat.le_of_ble_eq_true rfl)⟩ hcX4 rfl rfl rfl rfl (Nat.le_of_ble_eq_true rfl) (Nat.le_of_ble_eq_true rfl) (Nat.le_of_ble_eq_true rfl) (fun ra wb hq hqn => ?_)
          obtain ⟨rfl, m2, mw2, mf2, rfl⟩ := hq
          refine o_eqw (w2 := xW r (wsO r) (fsO r) m2 mw2 mf2 im (wsO im) (fsO im) lt rw rf ga hi (nI L) (nI R)) (pb_seg 0 (Nat.le_of_ble_eq_true rfl) rfl rfl rfl) ?_
          refine o_if_eq (tgt := 106) dX4_fewest_100 (by decide) (fun c_100 => ?_) (fun c_100 => ?_)
          · skip
            refine o_inc_4 dX4_fewest_106 rfl ic_1 (Nat.le_of_ble_eq_true rfl) ?_
            refine o_goto (tgt := 39) dX4_fewest_109 (by decide) ?_
            exact o_eqa (by rw [nI_1, fwS, if_neg hc, if_neg (by rw [bI_0.mp c_100]; decide)]) rfl (ih (k + 1) _ _ _ _ (by omega) (by omega))
          · skip
            refine o_iload dX4_fewest_103 rfl ?_
            refine o_istn_3 dX4_fewest_105 rfl rfl (Nat.le_of_ble_eq_true rfl) ?_
            refine o_inc_4 dX4_fewest_106 rfl ic_1 (Nat.le_of_ble_eq_true rfl) ?_
            refine o_goto (tgt := 39) dX4_fewest_109 (by decide) ?_
            exact o_eqa (by rw [nI_1, fwS, if_neg hc, if_pos (bI_ne c_100)]) rfl (ih (k + 1) _ _ _ _ (by omega) (by omega))
theorem tX4_fewest {r m mw mf im lt rw rf ga : Nat → Int32} {hi : Int32} {L R : Nat} (hS : SOk r) {x n : Int32} : PM mX4_fewest [.ref 0, .int x, .int n] (xW r (wsO r) (fsO r) m mw mf im (wsO im) (fsO im) lt rw rf ga hi (nI L) (nI R)) (CP (s_fewest x n (r, im, hi, lt, L, rw, R, rf))) := by
  refine PM.ofp 3 (by decide) (Nat.le_of_ble_eq_true rfl) ?_
  show Ok mX4_fewest none 0 [some (.ref 0), some (.int x), some (.int n), none, none, none] [] (xW r (wsO r) (fsO r) m mw mf im (wsO im) (fsO im) lt rw rf ga hi (nI L) (nI R)) 0 0 _
  refine o_aload_n dX4_fewest_0 rfl rfl ?_
  refine o_getf (j := 0) dX4_fewest_1 rfl hcX4 inX4 (Nat.le_of_ble_eq_true rfl) wd204 rfl rfl ?_
  refine o_iload_n dX4_fewest_4 rfl rfl ?_
  refine o_callVr (is := [2, 3, 4, 5, 6, 7, 8, 9, 10, 11, 12, 13]) (xhas hS) ⟨rfl, rfl⟩ dX4_fewest_5 wd384 cvX3_has rfl ⟨(Nat.le_of_ble_eq_true rfl), (Nat.le_of_ble_eq_true rfl)⟩ hcX3 rfl rfl rfl rfl (Nat.le_of_ble_eq_true rfl) (Nat.le_of_ble_eq_true rfl) (Nat.le_of_ble_eq_true rfl) ?_
  refine o_if_ne (tgt := 17) dX4_fewest_8 (by decide) (fun c_8 => ?_) (fun c_8 => ?_)
  · obtain ⟨d, hd, rfl⟩ := inR_yes (by have := hS.n6; omega) (bI_ne c_8)
    have h9 := hS.n6
    have hin := inR_nI (D := nN r) (by omega) hd
    have ec := cN_nI (d := d) (by omega)
    refine o_iload_n dX4_fewest_17 rfl rfl ?_
    refine o_if_lt (tgt := 27) dX4_fewest_18 (by decide) (fun c_18 => ?_) (fun c_18 => ?_)
    · skip
      refine o_aload_n dX4_fewest_27 rfl rfl ?_
      refine o_iload_n dX4_fewest_28 rfl rfl ?_
      refine o_callVd (w2 := xW r (wsO r) (fsO r) m mw mf im (wsO im) (fsO im) lt rw (rfu rf 4) ga hi (nI L) (nI R)) (is := [0, 1, 2, 3, 4, 5, 6, 7, 8, 9, 10, 11, 12, 13, 14, 15, 16, 17, 18, 19, 20, 21, 22, 23, 24, 25, 26, 27, 28, 29, 30, 31, 32, 33, 34, 35, 36, 37, 38, 39, 40, 41, 42, 43]) (rfn_lo c_18) ⟨rfl, rfl⟩ dX4_fewest_29 wd412 cvX4_refusedNumber rfl ⟨(Nat.le_of_ble_eq_true rfl), (Nat.le_of_ble_eq_true rfl)⟩ hcX4 rfl rfl rfl rfl (Nat.le_of_ble_eq_true rfl) (Nat.le_of_ble_eq_true rfl) (Nat.le_of_ble_eq_true rfl) (pb_seg 0 (Nat.le_of_ble_eq_true rfl) rfl rfl rfl) ?_
      refine o_iret dX4_fewest_32 rfl (vp_nar_int _) (Nat.le_of_ble_eq_true rfl) (Nat.le_of_ble_eq_true rfl) ?_
      exact CP.mk (by simp only [s_fewest, hin, if_true, wrB, if_pos c_18]; rfl)
    · skip
      refine o_iload_n dX4_fewest_21 rfl rfl ?_
      refine o_bipush dX4_fewest_22 bp_30 ?_
      refine o_icmp_le (tgt := 33) dX4_fewest_24 (by decide) (fun c_24 => ?_) (fun c_24 => ?_)
      · have q2 : ¬ nI 30 < n := Int32.not_lt.mpr c_24
        obtain ⟨q, hq, rfl⟩ := rng (b := 30) (by omega) c_18 q2
        have eq := cN_nI (d := q) (by omega)
        refine o_bipush dX4_fewest_33 bp_m9 ?_
        refine o_istn_3 dX4_fewest_35 rfl rfl (Nat.le_of_ble_eq_true rfl) ?_
        refine o_iconst dX4_fewest_36 ic_0 ?_
        refine o_istg_4 dX4_fewest_37 rfl (Nat.le_of_ble_eq_true rfl) ?_
        refine o_post (fun v w2 h => ?_) (o_eqa (by rw [nI_0]; rfl) rfl (lX4_fewest hS hd hq (2 ^ nN r + 1) 0 _ _ _ _ (Nat.lt_succ_self _) (Nat.zero_le _)))
        obtain ⟨rfl, m2, mw2, mf2, rfl⟩ := h
        exact CP.mk (by simp only [s_fewest, hin, if_true, wrB, if_neg c_18, if_neg q2, eq, ec])
      · have q2 : nI 30 < n := Int32.not_le.mp c_24
        refine o_aload_n dX4_fewest_27 rfl rfl ?_
        refine o_iload_n dX4_fewest_28 rfl rfl ?_
        refine o_callVd (w2 := xW r (wsO r) (fsO r) m mw mf im (wsO im) (fsO im) lt rw (rfu rf 6) ga hi (nI L) (nI R)) (is := [0, 1, 2, 3, 4, 5, 6, 7, 8, 9, 10, 11, 12, 13, 14, 15, 16, 17, 18, 19, 20, 21, 22, 23, 24, 25, 26, 27, 28, 29, 30, 31, 32, 33, 34, 35, 36, 37, 38, 39, 40, 41, 42, 43]) (rfn_hi c_18) ⟨rfl, rfl⟩ dX4_fewest_29 wd412 cvX4_refusedNumber rfl ⟨(Nat.le_of_ble_eq_true rfl), (Nat.le_of_ble_eq_true rfl)⟩ hcX4 rfl rfl rfl rfl (Nat.le_of_ble_eq_true rfl) (Nat.le_of_ble_eq_true rfl) (Nat.le_of_ble_eq_true rfl) (pb_seg 0 (Nat.le_of_ble_eq_true rfl) rfl rfl rfl) ?_
        refine o_iret dX4_fewest_32 rfl (vp_nar_int _) (Nat.le_of_ble_eq_true rfl) (Nat.le_of_ble_eq_true rfl) ?_
        exact CP.mk (by simp only [s_fewest, hin, if_true, wrB, if_neg c_18, if_pos q2]; rfl)
  · have hno := bI_0.mp c_8
    refine o_aload_n dX4_fewest_11 rfl rfl ?_
    refine o_iconst dX4_fewest_12 ic_m1 ?_
    refine o_callVd (w2 := xW r (wsO r) (fsO r) m mw mf im (wsO im) (fsO im) lt rw (rfu rf 1) ga hi (nI L) (nI R)) (is := [0, 1, 2, 3, 4, 5, 6, 7, 8, 9, 10, 11, 12, 13, 14, 15, 16, 17, 18, 19, 20, 21, 22, 23, 24, 25, 26, 27, 28, 29, 30, 31, 32, 33, 34, 35, 36, 37, 38, 39, 40, 41, 42, 43]) (tX4_refused (c := 1) rfl (by decide)) ⟨rfl, rfl⟩ dX4_fewest_13 wd233 cvX4_refused rfl ⟨(Nat.le_of_ble_eq_true rfl), (Nat.le_of_ble_eq_true rfl)⟩ hcX4 rfl rfl rfl rfl (Nat.le_of_ble_eq_true rfl) (Nat.le_of_ble_eq_true rfl) (Nat.le_of_ble_eq_true rfl) (pb_seg 0 (Nat.le_of_ble_eq_true rfl) rfl rfl rfl) ?_
    refine o_iret dX4_fewest_16 rfl (vp_nar_int _) (Nat.le_of_ble_eq_true rfl) (Nat.le_of_ble_eq_true rfl) ?_
    exact CP.mk (by simp only [s_fewest, hno]; rfl)
theorem goD {r m ws : Nat → Int32} {n : Nat} (hm : SOk m) (e : fsO r = fsO m) (hn : n < 2147483648) : PD mX3_goHours [.ref 0, .int (nI n), .int 0] (tW m ws (fsO r)) (some (.int (wentC (fsO r) (dN m) (nN m) false m n))) (tW (hrs m n) ws (fsO r)) := by
  rw [e]; exact goS hm hn
theorem hcV {m ws fs : Nat → Int32} {n : Nat} (hm : SOk m) : PD mX3_homeCount [.ref 0] (tW (hrs m n) ws fs) (some (.int (hmV m n))) (tW (hrs m n) ws fs) := hcS hm
theorem buS_y {f0 b0 : Int32} {v : Nat → Int32} {k : Nat} (h : (buS f0 b0 v k).2 < v k) : buS f0 b0 v (k + 1) = (nI k, v k) := by
  show (if (buS f0 b0 v k).2 < v k then (nI k, v k) else buS f0 b0 v k) = _
  rw [if_pos h]
theorem buS_n {f0 b0 : Int32} {v : Nat → Int32} {k : Nat} (h : ¬ (buS f0 b0 v k).2 < v k) : buS f0 b0 v (k + 1) = buS f0 b0 v k := by
  show (if (buS f0 b0 v k).2 < v k then (nI k, v k) else buS f0 b0 v k) = _
  rw [if_neg h]
theorem lX4_doorToChange {r im lt rw rf ga : Nat → Int32} {hi : Int32} {L R : Nat} (hS : SOk r) {n : Nat} {wg : Bool} (hn : n ≤ 30) : ∀ (q k : Nat) (m mw mf : Nat → Int32), dN r - k < q → k ≤ dN r → Ok mX4_doorToChange none 36 [some (.ref 0), some (.int (nI n)), some (.int (bI (!wg))), some (.int (buS (-9) (hmV r n) (fun d => hmV (chD r wg d) n) k).2), some (.int (buS (-9) (hmV r n) (fun d => hmV (chD r wg d) n) k).1), some (.int (nI k))] [] (xW r (wsO r) (fsO r) m mw mf im (wsO im) (fsO im) lt rw rf ga hi (nI L) (nI R)) 0 0 (fun v w => v = some (.int (bdF r n wg)) ∧ ∃ m2 mw2 mf2, w = xW r (wsO r) (fsO r) m2 mw2 mf2 im (wsO im) (fsO im) lt rw rf ga hi (nI L) (nI R)) := by
  intro q
  induction q with
  | zero => intro k m mw mf hq hk; omega
  | succ q ih =>
  intro k m mw mf hq hk
  have h9 := hS.d9
  refine o_iload dX4_doorToChange_36 rfl ?_
  refine o_aload_n dX4_doorToChange_38 rfl rfl ?_
  refine o_getf (j := 0) dX4_doorToChange_39 rfl hcX4 inX4 (Nat.le_of_ble_eq_true rfl) wd204 rfl rfl ?_
  refine o_getf (j := 0) dX4_doorToChange_42 rfl hcX3 inX3 (Nat.le_of_ble_eq_true rfl) wd138 rfl rfl ?_
  refine o_getf (j := 7) dX4_doorToChange_45 rfl hcX0 inX0 (Nat.le_of_ble_eq_true rfl) wd118 rfl rfl ?_
  refine o_eqs (by rw [hS.e0]) ?_
  refine o_icmp_ge (tgt := 137) dX4_doorToChange_48 (by decide) (fun c_48 => ?_) (fun c_48 => ?_)
  · have hkN : k = dN r := Nat.le_antisymm hk (geI (b := dN r) (by omega) (by omega) c_48)
    rw [hkN]
    refine o_iload dX4_doorToChange_137 rfl ?_
    refine o_iret dX4_doorToChange_139 rfl (vp_nar_int _) (Nat.le_of_ble_eq_true rfl) (Nat.le_of_ble_eq_true rfl) ?_
    exact ⟨rfl, _, _, _, rfl⟩
  · have hkN : k < dN r := ltI (b := dN r) (by omega) (by omega) c_48
    refine o_aload_n dX4_doorToChange_51 rfl rfl ?_
    refine o_getf (j := 1) dX4_doorToChange_52 rfl hcX4 inX4 (Nat.le_of_ble_eq_true rfl) wd205 rfl rfl ?_
    refine o_aload_n dX4_doorToChange_55 rfl rfl ?_
    refine o_getf (j := 0) dX4_doorToChange_56 rfl hcX4 inX4 (Nat.le_of_ble_eq_true rfl) wd204 rfl rfl ?_
    refine o_callVd (w2 := xW r (wsO r) (fsO r) r (wsO r) (fsO r) im (wsO im) (fsO im) lt rw rf ga hi (nI L) (nI R)) (is := [14, 15, 16, 17, 18, 19, 20, 21, 22, 23, 24, 25, 2, 3, 4, 5, 6, 7, 8, 9, 10, 11, 12, 13]) (tX3_become) ⟨rfl, rfl⟩ dX4_doorToChange_59 wd273 cvX3_become rfl ⟨(Nat.le_of_ble_eq_true rfl), (Nat.le_of_ble_eq_true rfl)⟩ hcX3 rfl rfl rfl rfl (Nat.le_of_ble_eq_true rfl) (Nat.le_of_ble_eq_true rfl) (Nat.le_of_ble_eq_true rfl) (pb_two (w1 := xW r (wsO r) (fsO r) r (wsO r) (fsO r) im (wsO im) (fsO im) lt rw rf ga hi (nI L) (nI R)) 12 14 2 12 rfl rfl (Nat.le_of_ble_eq_true rfl) rfl rfl rfl (Nat.le_of_ble_eq_true rfl) rfl rfl rfl) ?_
    refine o_iload_n dX4_doorToChange_62 rfl rfl ?_
    refine o_if_eq (tgt := 82) dX4_doorToChange_63 (by decide) (fun c_63 => ?_) (fun c_63 => ?_)
    · have ew : wg = true := bI_n0 c_63
      subst ew
      have hm : SOk (upd r (9 + 5 * k) 1) := hS.wedge hkN (Or.inr rfl)
      refine o_aload_n dX4_doorToChange_82 rfl rfl ?_
      refine o_getf (j := 1) dX4_doorToChange_83 rfl hcX4 inX4 (Nat.le_of_ble_eq_true rfl) wd205 rfl rfl ?_
      refine o_getf (j := 0) dX4_doorToChange_86 rfl hcX3 inX3 (Nat.le_of_ble_eq_true rfl) wd138 rfl rfl ?_
      refine o_getf (j := 4) dX4_doorToChange_89 rfl hcX0 inX0 (Nat.le_of_ble_eq_true rfl) wd112 rfl rfl ?_
      refine o_iload dX4_doorToChange_92 rfl ?_
      refine o_iconst dX4_doorToChange_94 ic_1 ?_
      refine o_callSd (w2 := xW r (wsO r) (fsO r) (upd r (9 + 5 * k) 1) (wsO r) (fsO r) im (wsO im) (fsO im) lt rw rf ga hi (nI L) (nI R)) (is := [14, 15, 16, 17, 18, 19, 20, 21, 22, 23, 24, 25]) (tput_wd (by omega)) ⟨rfl, rfl⟩ dX4_doorToChange_95 wd238 csX4_put rfl ⟨(Nat.le_of_ble_eq_true rfl), (Nat.le_of_ble_eq_true rfl)⟩ rfl rfl rfl (Nat.le_of_ble_eq_true rfl) (Nat.le_of_ble_eq_true rfl) (Nat.le_of_ble_eq_true rfl) (pb_seg 14 (Nat.le_of_ble_eq_true rfl) rfl rfl rfl) ?_
      refine o_aload_n dX4_doorToChange_98 rfl rfl ?_
      refine o_getf (j := 1) dX4_doorToChange_99 rfl hcX4 inX4 (Nat.le_of_ble_eq_true rfl) wd205 rfl rfl ?_
      refine o_iload_n dX4_doorToChange_102 rfl rfl ?_
      refine o_iconst dX4_doorToChange_103 ic_0 ?_
      refine o_callVd (w2 := xW r (wsO r) (fsO r) (hrs (upd r (9 + 5 * k) 1) n) (wsO r) (fsO r) im (wsO im) (fsO im) lt rw rf ga hi (nI L) (nI R)) (is := [14, 15, 16, 17, 18, 19, 20, 21, 22, 23, 24, 25]) (goD hm (SD.up hS (Or.inr (Or.inr (Or.inr ⟨k, Or.inr (Or.inr rfl)⟩)))).fs (by omega)) ⟨rfl, rfl⟩ dX4_doorToChange_104 wd424 cvX3_goHours rfl ⟨(Nat.le_of_ble_eq_true rfl), (Nat.le_of_ble_eq_true rfl)⟩ hcX3 rfl rfl rfl rfl (Nat.le_of_ble_eq_true rfl) (Nat.le_of_ble_eq_true rfl) (Nat.le_of_ble_eq_true rfl) (pb_seg 14 (Nat.le_of_ble_eq_true rfl) rfl rfl rfl) ?_
      refine o_pop dX4_doorToChange_107 rfl ?_
      refine o_aload_n dX4_doorToChange_108 rfl rfl ?_
      refine o_getf (j := 1) dX4_doorToChange_109 rfl hcX4 inX4 (Nat.le_of_ble_eq_true rfl) wd205 rfl rfl ?_
      refine o_callVr (is := [14, 15, 16, 17, 18, 19, 20, 21, 22, 23, 24, 25]) (hcV hm) ⟨rfl, rfl⟩ dX4_doorToChange_112 wd425 cvX3_homeCount rfl ⟨(Nat.le_of_ble_eq_true rfl), (Nat.le_of_ble_eq_true rfl)⟩ hcX3 rfl rfl rfl rfl (Nat.le_of_ble_eq_true rfl) (Nat.le_of_ble_eq_true rfl) (Nat.le_of_ble_eq_true rfl) ?_
      refine o_iload_n dX4_doorToChange_115 rfl rfl ?_
      refine o_icmp_le (tgt := 131) dX4_doorToChange_116 (by decide) (fun c_116 => ?_) (fun c_116 => ?_)
      · skip
        refine o_inc_5 dX4_doorToChange_131 rfl ic_1 (Nat.le_of_ble_eq_true rfl) ?_
        refine o_goto (tgt := 36) dX4_doorToChange_134 (by decide) ?_
        exact o_eqa (by rw [nI_1, buS_n (v := (fun d => hmV (chD r true d) n)) (Int32.not_lt.mpr c_116)]) rfl (ih (k + 1) _ _ _ (by omega) (by omega))
      · skip
        refine o_aload_n dX4_doorToChange_119 rfl rfl ?_
        refine o_getf (j := 1) dX4_doorToChange_120 rfl hcX4 inX4 (Nat.le_of_ble_eq_true rfl) wd205 rfl rfl ?_
        refine o_callVr (is := [14, 15, 16, 17, 18, 19, 20, 21, 22, 23, 24, 25]) (hcV hm) ⟨rfl, rfl⟩ dX4_doorToChange_123 wd425 cvX3_homeCount rfl ⟨(Nat.le_of_ble_eq_true rfl), (Nat.le_of_ble_eq_true rfl)⟩ hcX3 rfl rfl rfl rfl (Nat.le_of_ble_eq_true rfl) (Nat.le_of_ble_eq_true rfl) (Nat.le_of_ble_eq_true rfl) ?_
        refine o_istn_3 dX4_doorToChange_126 rfl rfl (Nat.le_of_ble_eq_true rfl) ?_
        refine o_iload dX4_doorToChange_127 rfl ?_
        refine o_istg_4 dX4_doorToChange_129 rfl (Nat.le_of_ble_eq_true rfl) ?_
        refine o_inc_5 dX4_doorToChange_131 rfl ic_1 (Nat.le_of_ble_eq_true rfl) ?_
        refine o_goto (tgt := 36) dX4_doorToChange_134 (by decide) ?_
        exact o_eqa (by rw [nI_1, buS_y (v := (fun d => hmV (chD r true d) n)) (Int32.not_le.mp c_116)]; rfl) rfl (ih (k + 1) _ _ _ (by omega) (by omega))
    · have ew : wg = false := bI_nt c_63
      subst ew
      have hm : SOk (tnR r k) := hS.turn hkN
      refine o_aload_n dX4_doorToChange_66 rfl rfl ?_
      refine o_getf (j := 1) dX4_doorToChange_67 rfl hcX4 inX4 (Nat.le_of_ble_eq_true rfl) wd205 rfl rfl ?_
      refine o_getf (j := 0) dX4_doorToChange_70 rfl hcX3 inX3 (Nat.le_of_ble_eq_true rfl) wd138 rfl rfl ?_
      refine o_iload dX4_doorToChange_73 rfl ?_
      refine o_callVd (w2 := xW r (wsO r) (fsO r) (tnR r k) (wsO (tnR r k)) (fsO (tnR r k)) im (wsO im) (fsO im) lt rw rf ga hi (nI L) (nI R)) (is := [14, 15, 16, 17, 18, 19, 20, 21, 22, 23, 24, 25]) (tt_turn (by omega) hm.T) ⟨rfl, rfl⟩ dX4_doorToChange_75 wd395 cvX0_changeSides rfl ⟨(Nat.le_of_ble_eq_true rfl), (Nat.le_of_ble_eq_true rfl)⟩ hcX0 rfl rfl rfl rfl (Nat.le_of_ble_eq_true rfl) (Nat.le_of_ble_eq_true rfl) (Nat.le_of_ble_eq_true rfl) (pb_seg 14 (Nat.le_of_ble_eq_true rfl) rfl rfl rfl) ?_
      refine o_pop dX4_doorToChange_78 rfl ?_
      refine o_goto (tgt := 98) dX4_doorToChange_79 (by decide) ?_
      refine o_aload_n dX4_doorToChange_98 rfl rfl ?_
      refine o_getf (j := 1) dX4_doorToChange_99 rfl hcX4 inX4 (Nat.le_of_ble_eq_true rfl) wd205 rfl rfl ?_
      refine o_iload_n dX4_doorToChange_102 rfl rfl ?_
      refine o_iconst dX4_doorToChange_103 ic_0 ?_
      refine o_callVd (w2 := xW r (wsO r) (fsO r) (hrs (tnR r k) n) (wsO (tnR r k)) (fsO (tnR r k)) im (wsO im) (fsO im) lt rw rf ga hi (nI L) (nI R)) (is := [14, 15, 16, 17, 18, 19, 20, 21, 22, 23, 24, 25]) (goS hm (by omega)) ⟨rfl, rfl⟩ dX4_doorToChange_104 wd424 cvX3_goHours rfl ⟨(Nat.le_of_ble_eq_true rfl), (Nat.le_of_ble_eq_true rfl)⟩ hcX3 rfl rfl rfl rfl (Nat.le_of_ble_eq_true rfl) (Nat.le_of_ble_eq_true rfl) (Nat.le_of_ble_eq_true rfl) (pb_seg 14 (Nat.le_of_ble_eq_true rfl) rfl rfl rfl) ?_
      refine o_pop dX4_doorToChange_107 rfl ?_
      refine o_aload_n dX4_doorToChange_108 rfl rfl ?_
      refine o_getf (j := 1) dX4_doorToChange_109 rfl hcX4 inX4 (Nat.le_of_ble_eq_true rfl) wd205 rfl rfl ?_
      refine o_callVr (is := [14, 15, 16, 17, 18, 19, 20, 21, 22, 23, 24, 25]) (hcV hm) ⟨rfl, rfl⟩ dX4_doorToChange_112 wd425 cvX3_homeCount rfl ⟨(Nat.le_of_ble_eq_true rfl), (Nat.le_of_ble_eq_true rfl)⟩ hcX3 rfl rfl rfl rfl (Nat.le_of_ble_eq_true rfl) (Nat.le_of_ble_eq_true rfl) (Nat.le_of_ble_eq_true rfl) ?_
      refine o_iload_n dX4_doorToChange_115 rfl rfl ?_
      refine o_icmp_le (tgt := 131) dX4_doorToChange_116 (by decide) (fun c_116 => ?_) (fun c_116 => ?_)
      · skip
        refine o_inc_5 dX4_doorToChange_131 rfl ic_1 (Nat.le_of_ble_eq_true rfl) ?_
        refine o_goto (tgt := 36) dX4_doorToChange_134 (by decide) ?_
        exact o_eqa (by rw [nI_1, buS_n (v := (fun d => hmV (chD r false d) n)) (Int32.not_lt.mpr c_116)]) rfl (ih (k + 1) _ _ _ (by omega) (by omega))
      · skip
        refine o_aload_n dX4_doorToChange_119 rfl rfl ?_
        refine o_getf (j := 1) dX4_doorToChange_120 rfl hcX4 inX4 (Nat.le_of_ble_eq_true rfl) wd205 rfl rfl ?_
        refine o_callVr (is := [14, 15, 16, 17, 18, 19, 20, 21, 22, 23, 24, 25]) (hcV hm) ⟨rfl, rfl⟩ dX4_doorToChange_123 wd425 cvX3_homeCount rfl ⟨(Nat.le_of_ble_eq_true rfl), (Nat.le_of_ble_eq_true rfl)⟩ hcX3 rfl rfl rfl rfl (Nat.le_of_ble_eq_true rfl) (Nat.le_of_ble_eq_true rfl) (Nat.le_of_ble_eq_true rfl) ?_
        refine o_istn_3 dX4_doorToChange_126 rfl rfl (Nat.le_of_ble_eq_true rfl) ?_
        refine o_iload dX4_doorToChange_127 rfl ?_
        refine o_istg_4 dX4_doorToChange_129 rfl (Nat.le_of_ble_eq_true rfl) ?_
        refine o_inc_5 dX4_doorToChange_131 rfl ic_1 (Nat.le_of_ble_eq_true rfl) ?_
        refine o_goto (tgt := 36) dX4_doorToChange_134 (by decide) ?_
        exact o_eqa (by rw [nI_1, buS_y (v := (fun d => hmV (chD r false d) n)) (Int32.not_le.mp c_116)]; rfl) rfl (ih (k + 1) _ _ _ (by omega) (by omega))
theorem tX4_doorToChange {r m mw mf im lt rw rf ga : Nat → Int32} {hi : Int32} {L R : Nat} (hS : SOk r) {n : Nat} {wg : Bool} (hn : n ≤ 30) : PM mX4_doorToChange [.ref 0, .int (nI n), .int (bI (!wg))] (xW r (wsO r) (fsO r) m mw mf im (wsO im) (fsO im) lt rw rf ga hi (nI L) (nI R)) (fun v w => v = some (.int (bdF r n wg)) ∧ ∃ m2 mw2 mf2, w = xW r (wsO r) (fsO r) m2 mw2 mf2 im (wsO im) (fsO im) lt rw rf ga hi (nI L) (nI R)) := by
  refine PM.ofp 3 (by decide) (Nat.le_of_ble_eq_true rfl) ?_
  show Ok mX4_doorToChange none 0 [some (.ref 0), some (.int (nI n)), some (.int (bI (!wg))), none, none, none] [] (xW r (wsO r) (fsO r) m mw mf im (wsO im) (fsO im) lt rw rf ga hi (nI L) (nI R)) 0 0 _
  refine o_aload_n dX4_doorToChange_0 rfl rfl ?_
  refine o_getf (j := 1) dX4_doorToChange_1 rfl hcX4 inX4 (Nat.le_of_ble_eq_true rfl) wd205 rfl rfl ?_
  refine o_aload_n dX4_doorToChange_4 rfl rfl ?_
  refine o_getf (j := 0) dX4_doorToChange_5 rfl hcX4 inX4 (Nat.le_of_ble_eq_true rfl) wd204 rfl rfl ?_
  refine o_callVd (w2 := xW r (wsO r) (fsO r) r (wsO r) (fsO r) im (wsO im) (fsO im) lt rw rf ga hi (nI L) (nI R)) (is := [14, 15, 16, 17, 18, 19, 20, 21, 22, 23, 24, 25, 2, 3, 4, 5, 6, 7, 8, 9, 10, 11, 12, 13]) (tX3_become) ⟨rfl, rfl⟩ dX4_doorToChange_8 wd273 cvX3_become rfl ⟨(Nat.le_of_ble_eq_true rfl), (Nat.le_of_ble_eq_true rfl)⟩ hcX3 rfl rfl rfl rfl (Nat.le_of_ble_eq_true rfl) (Nat.le_of_ble_eq_true rfl) (Nat.le_of_ble_eq_true rfl) (pb_two (w1 := xW r (wsO r) (fsO r) r (wsO r) (fsO r) im (wsO im) (fsO im) lt rw rf ga hi (nI L) (nI R)) 12 14 2 12 rfl rfl (Nat.le_of_ble_eq_true rfl) rfl rfl rfl (Nat.le_of_ble_eq_true rfl) rfl rfl rfl) ?_
  refine o_aload_n dX4_doorToChange_11 rfl rfl ?_
  refine o_getf (j := 1) dX4_doorToChange_12 rfl hcX4 inX4 (Nat.le_of_ble_eq_true rfl) wd205 rfl rfl ?_
  refine o_iload_n dX4_doorToChange_15 rfl rfl ?_
  refine o_iconst dX4_doorToChange_16 ic_0 ?_
  refine o_callVd (w2 := xW r (wsO r) (fsO r) (hrs r n) (wsO r) (fsO r) im (wsO im) (fsO im) lt rw rf ga hi (nI L) (nI R)) (is := [14, 15, 16, 17, 18, 19, 20, 21, 22, 23, 24, 25]) (goS hS (by omega)) ⟨rfl, rfl⟩ dX4_doorToChange_17 wd424 cvX3_goHours rfl ⟨(Nat.le_of_ble_eq_true rfl), (Nat.le_of_ble_eq_true rfl)⟩ hcX3 rfl rfl rfl rfl (Nat.le_of_ble_eq_true rfl) (Nat.le_of_ble_eq_true rfl) (Nat.le_of_ble_eq_true rfl) (pb_seg 14 (Nat.le_of_ble_eq_true rfl) rfl rfl rfl) ?_
  refine o_pop dX4_doorToChange_20 rfl ?_
  refine o_aload_n dX4_doorToChange_21 rfl rfl ?_
  refine o_getf (j := 1) dX4_doorToChange_22 rfl hcX4 inX4 (Nat.le_of_ble_eq_true rfl) wd205 rfl rfl ?_
  refine o_callVr (is := [14, 15, 16, 17, 18, 19, 20, 21, 22, 23, 24, 25]) (hcV hS) ⟨rfl, rfl⟩ dX4_doorToChange_25 wd425 cvX3_homeCount rfl ⟨(Nat.le_of_ble_eq_true rfl), (Nat.le_of_ble_eq_true rfl)⟩ hcX3 rfl rfl rfl rfl (Nat.le_of_ble_eq_true rfl) (Nat.le_of_ble_eq_true rfl) (Nat.le_of_ble_eq_true rfl) ?_
  refine o_istn_3 dX4_doorToChange_28 rfl rfl (Nat.le_of_ble_eq_true rfl) ?_
  refine o_bipush dX4_doorToChange_29 bp_m9 ?_
  refine o_istg_4 dX4_doorToChange_31 rfl (Nat.le_of_ble_eq_true rfl) ?_
  refine o_iconst dX4_doorToChange_33 ic_0 ?_
  refine o_istg_5 dX4_doorToChange_34 rfl (Nat.le_of_ble_eq_true rfl) ?_
  exact o_eqa (by rw [nI_0]; rfl) rfl (lX4_doorToChange hS hn (dN r + 1) 0 _ _ _ (by omega) (by omega))
theorem tX4_turn {r m mw mf im lt rw rf ga : Nat → Int32} {hi : Int32} {L R : Nat} (hS : SOk r) {x : Int32} : PM mX4_turn [.ref 0, .int x] (xW r (wsO r) (fsO r) m mw mf im (wsO im) (fsO im) lt rw rf ga hi (nI L) (nI R)) (CP (s_bestDoor false x (r, im, hi, lt, L, rw, R, rf))) := by
  refine PM.ofp 0 (by decide) (Nat.le_of_ble_eq_true rfl) ?_
  show Ok mX4_turn none 0 [some (.ref 0), some (.int x)] [] (xW r (wsO r) (fsO r) m mw mf im (wsO im) (fsO im) lt rw rf ga hi (nI L) (nI R)) 0 0 _
  refine o_iload_n dX4_turn_0 rfl rfl ?_
  refine o_if_lt (tgt := 10) dX4_turn_1 (by decide) (fun c_1 => ?_) (fun c_1 => ?_)
  · skip
    refine o_aload_n dX4_turn_10 rfl rfl ?_
    refine o_iload_n dX4_turn_11 rfl rfl ?_
    refine o_callVd (w2 := xW r (wsO r) (fsO r) m mw mf im (wsO im) (fsO im) lt rw (rfu rf 4) ga hi (nI L) (nI R)) (is := [0, 1, 2, 3, 4, 5, 6, 7, 8, 9, 10, 11, 12, 13, 14, 15, 16, 17, 18, 19, 20, 21, 22, 23, 24, 25, 26, 27, 28, 29, 30, 31, 32, 33, 34, 35, 36, 37, 38, 39, 40, 41, 42, 43]) (rfn_lo c_1) ⟨rfl, rfl⟩ dX4_turn_12 wd412 cvX4_refusedNumber rfl ⟨(Nat.le_of_ble_eq_true rfl), (Nat.le_of_ble_eq_true rfl)⟩ hcX4 rfl rfl rfl rfl (Nat.le_of_ble_eq_true rfl) (Nat.le_of_ble_eq_true rfl) (Nat.le_of_ble_eq_true rfl) (pb_seg 0 (Nat.le_of_ble_eq_true rfl) rfl rfl rfl) ?_
    refine o_iret dX4_turn_15 rfl (vp_nar_int _) (Nat.le_of_ble_eq_true rfl) (Nat.le_of_ble_eq_true rfl) ?_
    exact CP.mk (by simp only [s_bestDoor, wrB, if_pos c_1]; rfl)
  · skip
    refine o_iload_n dX4_turn_4 rfl rfl ?_
    refine o_bipush dX4_turn_5 bp_30 ?_
    refine o_icmp_le (tgt := 16) dX4_turn_7 (by decide) (fun c_7 => ?_) (fun c_7 => ?_)
    · have q2 : ¬ nI 30 < x := Int32.not_lt.mpr c_7
      obtain ⟨q, hq, rfl⟩ := rng (b := 30) (by omega) c_1 q2
      have eq := cN_nI (d := q) (by omega)
      refine o_aload_n dX4_turn_16 rfl rfl ?_
      refine o_iload_n dX4_turn_17 rfl rfl ?_
      refine o_iconst dX4_turn_18 ic_1 ?_
      refine o_callV (is := [0, 1, 2, 3, 4, 5, 6, 7, 8, 9, 10, 11, 12, 13, 14, 15, 16, 17, 18, 19, 20, 21, 22, 23, 24, 25, 26, 27, 28, 29, 30, 31, 32, 33, 34, 35, 36, 37, 38, 39, 40, 41, 42, 43]) (tX4_doorToChange (wg := false) hS hq) ⟨rfl, rfl⟩ dX4_turn_19 wd527 cvX4_doorToChange rfl ⟨(Nat.le_of_ble_eq_true rfl), (Nat.le_of_ble_eq_true rfl)⟩ hcX4 rfl rfl rfl rfl (Nat.le_of_ble_eq_true rfl) (Nat.le_of_ble_eq_true rfl) (Nat.le_of_ble_eq_true rfl) (fun ra wb hq_ hqn => ?_)
      obtain ⟨rfl, m2, mw2, mf2, rfl⟩ := hq_
      refine o_eqw (w2 := xW r (wsO r) (fsO r) m2 mw2 mf2 im (wsO im) (fsO im) lt rw rf ga hi (nI L) (nI R)) (pb_seg 0 (Nat.le_of_ble_eq_true rfl) rfl rfl rfl) ?_
      refine o_iret dX4_turn_22 rfl (vp_nar_int _) (Nat.le_of_ble_eq_true rfl) (Nat.le_of_ble_eq_true rfl) ?_
      exact CP.mk (by simp only [s_bestDoor, wrB, if_neg c_1, if_neg q2, eq])
    · have q2 : nI 30 < x := Int32.not_le.mp c_7
      refine o_aload_n dX4_turn_10 rfl rfl ?_
      refine o_iload_n dX4_turn_11 rfl rfl ?_
      refine o_callVd (w2 := xW r (wsO r) (fsO r) m mw mf im (wsO im) (fsO im) lt rw (rfu rf 6) ga hi (nI L) (nI R)) (is := [0, 1, 2, 3, 4, 5, 6, 7, 8, 9, 10, 11, 12, 13, 14, 15, 16, 17, 18, 19, 20, 21, 22, 23, 24, 25, 26, 27, 28, 29, 30, 31, 32, 33, 34, 35, 36, 37, 38, 39, 40, 41, 42, 43]) (rfn_hi c_1) ⟨rfl, rfl⟩ dX4_turn_12 wd412 cvX4_refusedNumber rfl ⟨(Nat.le_of_ble_eq_true rfl), (Nat.le_of_ble_eq_true rfl)⟩ hcX4 rfl rfl rfl rfl (Nat.le_of_ble_eq_true rfl) (Nat.le_of_ble_eq_true rfl) (Nat.le_of_ble_eq_true rfl) (pb_seg 0 (Nat.le_of_ble_eq_true rfl) rfl rfl rfl) ?_
      refine o_iret dX4_turn_15 rfl (vp_nar_int _) (Nat.le_of_ble_eq_true rfl) (Nat.le_of_ble_eq_true rfl) ?_
      exact CP.mk (by simp only [s_bestDoor, wrB, if_neg c_1, if_pos q2]; rfl)
theorem tX4_wedge {r m mw mf im lt rw rf ga : Nat → Int32} {hi : Int32} {L R : Nat} (hS : SOk r) {x : Int32} : PM mX4_wedge [.ref 0, .int x] (xW r (wsO r) (fsO r) m mw mf im (wsO im) (fsO im) lt rw rf ga hi (nI L) (nI R)) (CP (s_bestDoor true x (r, im, hi, lt, L, rw, R, rf))) := by
  refine PM.ofp 0 (by decide) (Nat.le_of_ble_eq_true rfl) ?_
  show Ok mX4_wedge none 0 [some (.ref 0), some (.int x)] [] (xW r (wsO r) (fsO r) m mw mf im (wsO im) (fsO im) lt rw rf ga hi (nI L) (nI R)) 0 0 _
  refine o_iload_n dX4_wedge_0 rfl rfl ?_
  refine o_if_lt (tgt := 10) dX4_wedge_1 (by decide) (fun c_1 => ?_) (fun c_1 => ?_)
  · skip
    refine o_aload_n dX4_wedge_10 rfl rfl ?_
    refine o_iload_n dX4_wedge_11 rfl rfl ?_
    refine o_callVd (w2 := xW r (wsO r) (fsO r) m mw mf im (wsO im) (fsO im) lt rw (rfu rf 4) ga hi (nI L) (nI R)) (is := [0, 1, 2, 3, 4, 5, 6, 7, 8, 9, 10, 11, 12, 13, 14, 15, 16, 17, 18, 19, 20, 21, 22, 23, 24, 25, 26, 27, 28, 29, 30, 31, 32, 33, 34, 35, 36, 37, 38, 39, 40, 41, 42, 43]) (rfn_lo c_1) ⟨rfl, rfl⟩ dX4_wedge_12 wd412 cvX4_refusedNumber rfl ⟨(Nat.le_of_ble_eq_true rfl), (Nat.le_of_ble_eq_true rfl)⟩ hcX4 rfl rfl rfl rfl (Nat.le_of_ble_eq_true rfl) (Nat.le_of_ble_eq_true rfl) (Nat.le_of_ble_eq_true rfl) (pb_seg 0 (Nat.le_of_ble_eq_true rfl) rfl rfl rfl) ?_
    refine o_iret dX4_wedge_15 rfl (vp_nar_int _) (Nat.le_of_ble_eq_true rfl) (Nat.le_of_ble_eq_true rfl) ?_
    exact CP.mk (by simp only [s_bestDoor, wrB, if_pos c_1]; rfl)
  · skip
    refine o_iload_n dX4_wedge_4 rfl rfl ?_
    refine o_bipush dX4_wedge_5 bp_30 ?_
    refine o_icmp_le (tgt := 16) dX4_wedge_7 (by decide) (fun c_7 => ?_) (fun c_7 => ?_)
    · have q2 : ¬ nI 30 < x := Int32.not_lt.mpr c_7
      obtain ⟨q, hq, rfl⟩ := rng (b := 30) (by omega) c_1 q2
      have eq := cN_nI (d := q) (by omega)
      refine o_aload_n dX4_wedge_16 rfl rfl ?_
      refine o_iload_n dX4_wedge_17 rfl rfl ?_
      refine o_iconst dX4_wedge_18 ic_0 ?_
      refine o_callV (is := [0, 1, 2, 3, 4, 5, 6, 7, 8, 9, 10, 11, 12, 13, 14, 15, 16, 17, 18, 19, 20, 21, 22, 23, 24, 25, 26, 27, 28, 29, 30, 31, 32, 33, 34, 35, 36, 37, 38, 39, 40, 41, 42, 43]) (tX4_doorToChange (wg := true) hS hq) ⟨rfl, rfl⟩ dX4_wedge_19 wd527 cvX4_doorToChange rfl ⟨(Nat.le_of_ble_eq_true rfl), (Nat.le_of_ble_eq_true rfl)⟩ hcX4 rfl rfl rfl rfl (Nat.le_of_ble_eq_true rfl) (Nat.le_of_ble_eq_true rfl) (Nat.le_of_ble_eq_true rfl) (fun ra wb hq_ hqn => ?_)
      obtain ⟨rfl, m2, mw2, mf2, rfl⟩ := hq_
      refine o_eqw (w2 := xW r (wsO r) (fsO r) m2 mw2 mf2 im (wsO im) (fsO im) lt rw rf ga hi (nI L) (nI R)) (pb_seg 0 (Nat.le_of_ble_eq_true rfl) rfl rfl rfl) ?_
      refine o_iret dX4_wedge_22 rfl (vp_nar_int _) (Nat.le_of_ble_eq_true rfl) (Nat.le_of_ble_eq_true rfl) ?_
      exact CP.mk (by simp only [s_bestDoor, wrB, if_neg c_1, if_neg q2, eq])
    · have q2 : nI 30 < x := Int32.not_le.mp c_7
      refine o_aload_n dX4_wedge_10 rfl rfl ?_
      refine o_iload_n dX4_wedge_11 rfl rfl ?_
      refine o_callVd (w2 := xW r (wsO r) (fsO r) m mw mf im (wsO im) (fsO im) lt rw (rfu rf 6) ga hi (nI L) (nI R)) (is := [0, 1, 2, 3, 4, 5, 6, 7, 8, 9, 10, 11, 12, 13, 14, 15, 16, 17, 18, 19, 20, 21, 22, 23, 24, 25, 26, 27, 28, 29, 30, 31, 32, 33, 34, 35, 36, 37, 38, 39, 40, 41, 42, 43]) (rfn_hi c_1) ⟨rfl, rfl⟩ dX4_wedge_12 wd412 cvX4_refusedNumber rfl ⟨(Nat.le_of_ble_eq_true rfl), (Nat.le_of_ble_eq_true rfl)⟩ hcX4 rfl rfl rfl rfl (Nat.le_of_ble_eq_true rfl) (Nat.le_of_ble_eq_true rfl) (Nat.le_of_ble_eq_true rfl) (pb_seg 0 (Nat.le_of_ble_eq_true rfl) rfl rfl rfl) ?_
      refine o_iret dX4_wedge_15 rfl (vp_nar_int _) (Nat.le_of_ble_eq_true rfl) (Nat.le_of_ble_eq_true rfl) ?_
      exact CP.mk (by simp only [s_bestDoor, wrB, if_neg c_1, if_pos q2]; rfl)
