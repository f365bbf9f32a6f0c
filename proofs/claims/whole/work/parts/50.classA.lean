theorem wi_h {r : Nat → Int32} {i k : Nat} : ∀ j, wiR r i k j = hoursM (farOf r) (dN r) (nN r) (upd r i (nI k)) j
  | 0 => rfl
  | j + 1 => by rw [wiR, hoursM, wi_h j]
theorem goI {r ws : Nat → Int32} {i k j h : Nat} (hS : SOk r) (hR : ROk (upd r i (nI k)) (dN r) (nN r) h) (hsd : SD r (upd r i (nI k))) : PD mX3_goHours [.ref 0, .int 1, .int 0] (tW (wiR r i k j) ws (fsO r)) (some (.int (wentC (fsO r) (dN r) (nN r) false (wiR r i k j) 1))) (tW (wiR r i k (j + 1)) ws (fsO r)) := by
  obtain ⟨g1, g2, g3⟩ := hoursPM hR (hS.on.same hsd.2) j
  rw [← wi_h] at g2 g3
  exact goW (n := 1) g2 g3 (by omega)
theorem wiB_no {r rw : Nat → Int32} {p i k j : Nat} (h : ¬ wiR r i k j (50 + 3 * p) = rw j) : ∀ n, j < n → wiB r rw p i k n = false
  | 0, hn => by omega
  | n + 1, hn => by
    rw [wiB]
    by_cases e : j = n
    · subst e; rw [decide_eq_false h, Bool.and_false]
    · rw [wiB_no h n (by omega), Bool.false_and]
theorem lX4_isMindAsRow {r im lt rw rf ga : Nat → Int32} {hi : Int32} {L R : Nat} (hS : SOk r) {p i k h : Nat} (hp : p < nN r) (hR : R ≤ 16) (hRk : ROk (upd r i (nI k)) (dN r) (nN r) h) (hsd : SD r (upd r i (nI k))) : ∀ (q j : Nat), R - j < q → j ≤ R → wiB r rw p i k j = true → Ok mX4_isMindAsRow none 2 [some (.ref 0), some (.int (nI p)), some (.int (nI j))] [] (xW r (wsO r) (fsO r) (wiR r i k j) (wsO r) (fsO r) im (wsO im) (fsO im) lt rw rf ga hi (nI L) (nI R)) 0 0 (fun v w => v = some (.int (bI (wiB r rw p i k R))) ∧ ∃ m2 mw2 mf2, w = xW r (wsO r) (fsO r) m2 mw2 mf2 im (wsO im) (fsO im) lt rw rf ga hi (nI L) (nI R)) := by
  have h6 := hS.n6
  intro q
  induction q with
  | zero => intro j hq hj; omega
  | succ q ih =>
  intro j hq hj hB
  refine o_iload_n dX4_isMindAsRow_2 rfl rfl ?_
  refine o_aload_n dX4_isMindAsRow_3 rfl rfl ?_
  refine o_getf (j := 5) dX4_isMindAsRow_4 rfl hcX4 inX4 (Nat.le_of_ble_eq_true rfl) wd209 rfl rfl ?_
  refine o_getf (j := 1) dX4_isMindAsRow_7 rfl hcX2 inX2 (Nat.le_of_ble_eq_true rfl) wd191 rfl rfl ?_
  refine o_icmp_ge (tgt := 56) dX4_isMindAsRow_10 (by decide) (fun c_10 => ?_) (fun c_10 => ?_)
  · have hjR : j = R := Nat.le_antisymm hj (geI (by omega) (by omega) c_10)
    subst hjR
    refine o_iconst dX4_isMindAsRow_56 ic_1 ?_
    refine o_iret dX4_isMindAsRow_57 rfl (by first | exact nz_b _ | decide) (Nat.le_of_ble_eq_true rfl) (Nat.le_of_ble_eq_true rfl) ?_
    exact ⟨by rw [hB]; rfl, _, _, _, rfl⟩
  · have hjR : j < R := ltI (by omega) (by omega) c_10
    refine o_aload_n dX4_isMindAsRow_13 rfl rfl ?_
    refine o_getf (j := 1) dX4_isMindAsRow_14 rfl hcX4 inX4 (Nat.le_of_ble_eq_true rfl) wd205 rfl rfl ?_
    refine o_getf (j := 1) dX4_isMindAsRow_17 rfl hcX3 inX3 (Nat.le_of_ble_eq_true rfl) wd141 rfl rfl ?_
    refine o_iload_n dX4_isMindAsRow_20 rfl rfl ?_
    refine o_callSr (is := [23]) (at_p (b := 50) (s := 3) (n := 7) (by decide) (by omega)) ⟨rfl, rfl⟩ dX4_isMindAsRow_21 wd237 csX4_at rfl ⟨(Nat.le_of_ble_eq_true rfl), (Nat.le_of_ble_eq_true rfl)⟩ rfl rfl rfl (Nat.le_of_ble_eq_true rfl) (Nat.le_of_ble_eq_true rfl) (Nat.le_of_ble_eq_true rfl) ?_
    refine o_aload_n dX4_isMindAsRow_24 rfl rfl ?_
    refine o_getf (j := 5) dX4_isMindAsRow_25 rfl hcX4 inX4 (Nat.le_of_ble_eq_true rfl) wd209 rfl rfl ?_
    refine o_getf (j := 0) dX4_isMindAsRow_28 rfl hcX2 inX2 (Nat.le_of_ble_eq_true rfl) wd188 rfl rfl ?_
    refine o_iload_n dX4_isMindAsRow_31 rfl rfl ?_
    refine o_callSr (is := [28]) (at_f (by decide) rfl (by omega)) ⟨rfl, rfl⟩ dX4_isMindAsRow_32 wd237 csX4_at rfl ⟨(Nat.le_of_ble_eq_true rfl), (Nat.le_of_ble_eq_true rfl)⟩ rfl rfl rfl (Nat.le_of_ble_eq_true rfl) (Nat.le_of_ble_eq_true rfl) (Nat.le_of_ble_eq_true rfl) ?_
    refine o_icmp_eq (tgt := 40) dX4_isMindAsRow_35 (by decide) (fun c_35 => ?_) (fun c_35 => ?_)
    · skip
      refine o_aload_n dX4_isMindAsRow_40 rfl rfl ?_
      refine o_getf (j := 1) dX4_isMindAsRow_41 rfl hcX4 inX4 (Nat.le_of_ble_eq_true rfl) wd205 rfl rfl ?_
      refine o_iconst dX4_isMindAsRow_44 ic_1 ?_
      refine o_iconst dX4_isMindAsRow_45 ic_0 ?_
      refine o_callVd (w2 := xW r (wsO r) (fsO r) (wiR r i k (j + 1)) (wsO r) (fsO r) im (wsO im) (fsO im) lt rw rf ga hi (nI L) (nI R)) (is := [14, 15, 16, 17, 18, 19, 20, 21, 22, 23, 24, 25]) (goI hS hRk hsd) ⟨rfl, rfl⟩ dX4_isMindAsRow_46 wd424 cvX3_goHours rfl ⟨(Nat.le_of_ble_eq_true rfl), (Nat.le_of_ble_eq_true rfl)⟩ hcX3 rfl rfl rfl rfl (Nat.le_of_ble_eq_true rfl) (Nat.le_of_ble_eq_true rfl) (Nat.le_of_ble_eq_true rfl) (pb_seg 14 (Nat.le_of_ble_eq_true rfl) rfl rfl rfl) ?_
      refine o_pop dX4_isMindAsRow_49 rfl ?_
      refine o_inc_2 dX4_isMindAsRow_50 rfl ic_1 (Nat.le_of_ble_eq_true rfl) ?_
      refine o_goto (tgt := 2) dX4_isMindAsRow_53 (by decide) ?_
      exact o_eqa (by rw [nI_1]) rfl (ih (j + 1) (by omega) (by omega) (by rw [wiB, hB, decide_eq_true c_35]; rfl))
    · skip
      refine o_iconst dX4_isMindAsRow_38 ic_0 ?_
      refine o_iret dX4_isMindAsRow_39 rfl (by first | exact nz_b _ | decide) (Nat.le_of_ble_eq_true rfl) (Nat.le_of_ble_eq_true rfl) ?_
      exact ⟨by rw [wiB_no c_35 R hjR]; rfl, _, _, _, rfl⟩
theorem tX4_isMindAsRow {r im lt rw rf ga : Nat → Int32} {hi : Int32} {L R : Nat} (hS : SOk r) {p i k h : Nat} (hp : p < nN r) (hR : R ≤ 16) (hRk : ROk (upd r i (nI k)) (dN r) (nN r) h) (hsd : SD r (upd r i (nI k))) : PM mX4_isMindAsRow [.ref 0, .int (nI p)] (xW r (wsO r) (fsO r) (upd r i (nI k)) (wsO r) (fsO r) im (wsO im) (fsO im) lt rw rf ga hi (nI L) (nI R)) (fun v w => v = some (.int (bI (wiB r rw p i k R))) ∧ ∃ m2 mw2 mf2, w = xW r (wsO r) (fsO r) m2 mw2 mf2 im (wsO im) (fsO im) lt rw rf ga hi (nI L) (nI R)) := by
  refine PM.ofp 1 (by decide) (Nat.le_of_ble_eq_true rfl) ?_
  show Ok mX4_isMindAsRow none 0 [some (.ref 0), some (.int (nI p)), none] [] (xW r (wsO r) (fsO r) (upd r i (nI k)) (wsO r) (fsO r) im (wsO im) (fsO im) lt rw rf ga hi (nI L) (nI R)) 0 0 _
  refine o_iconst dX4_isMindAsRow_0 ic_0 ?_
  refine o_istn_2 dX4_isMindAsRow_1 rfl rfl (Nat.le_of_ble_eq_true rfl) ?_
  exact o_eqa (by rw [nI_0]) rfl (lX4_isMindAsRow hS hp hR hRk hsd (R + 1) 0 (by omega) (by omega) rfl)
theorem lX4_kindsByRow {r im lt rw rf ga : Nat → Int32} {hi : Int32} {L R : Nat} (hS : SOk r) {p d : Nat} (hp : p < nN r) (hd : d < dN r) (hR : R ≤ 16) : ∀ (q k : Nat) (m mw mf : Nat → Int32), 6 - k < q → k ≤ 6 → Ok mX4_kindsByRow none 5 [some (.ref 0), some (.int (nI p)), some (.int (nI d)), some (.int (wiS r rw p (5 + 5 * d) R k)), some (.int (nI k))] [] (xW r (wsO r) (fsO r) m mw mf im (wsO im) (fsO im) lt rw rf ga hi (nI L) (nI R)) 0 0 (fun v w => v = some (.int (wiS r rw p (5 + 5 * d) R 6)) ∧ ∃ m2 mw2 mf2, w = xW r (wsO r) (fsO r) m2 mw2 mf2 im (wsO im) (fsO im) lt rw rf ga hi (nI L) (nI R)) := by
  intro q
  induction q with
  | zero => intro k m mw mf hq hk; omega
  | succ q ih =>
  intro k m mw mf hq hk
  have h6 := hS.n6
  have h9 := hS.d9
  refine o_iload dX4_kindsByRow_5 rfl ?_
  refine o_bipush dX4_kindsByRow_7 bp_6 ?_
  refine o_icmp_ge (tgt := 60) dX4_kindsByRow_9 (by decide) (fun c_9 => ?_) (fun c_9 => ?_)
  · have hkN : k = 6 := Nat.le_antisymm hk (geI (b := 6) (by omega) (by omega) c_9)
    subst hkN
    refine o_iload_n dX4_kindsByRow_60 rfl rfl ?_
    refine o_iret dX4_kindsByRow_61 rfl (vp_nar_int _) (Nat.le_of_ble_eq_true rfl) (Nat.le_of_ble_eq_true rfl) ?_
    exact ⟨rfl, _, _, _, rfl⟩
  · have hkN : k < 6 := ltI (b := 6) (by omega) (by omega) c_9
    have hRk : ROk (upd r (5 + 5 * d) (nI k)) (dN r) (nN r) (cN (r 2)) := ⟨hS.1.kind (by omega) ⟨k, by omega, rfl⟩, fun e he => by rw [upd_ne (by omega), upd_ne (by omega)]; exact (hS.dd he).1, fun e he => by rw [upd_ne (by omega)]; exact hS.pm he, by rw [upd_ne (by omega)]; exact hS.e4⟩
    have hsd : SD r (upd r (5 + 5 * d) (nI k)) := SD.up hS (Or.inr (Or.inr (Or.inr ⟨d, Or.inl rfl⟩)))
    refine o_aload_n dX4_kindsByRow_12 rfl rfl ?_
    refine o_getf (j := 1) dX4_kindsByRow_13 rfl hcX4 inX4 (Nat.le_of_ble_eq_true rfl) wd205 rfl rfl ?_
    refine o_aload_n dX4_kindsByRow_16 rfl rfl ?_
    refine o_getf (j := 0) dX4_kindsByRow_17 rfl hcX4 inX4 (Nat.le_of_ble_eq_true rfl) wd204 rfl rfl ?_
    refine o_callVd (w2 := xW r (wsO r) (fsO r) r (wsO r) (fsO r) im (wsO im) (fsO im) lt rw rf ga hi (nI L) (nI R)) (is := [14, 15, 16, 17, 18, 19, 20, 21, 22, 23, 24, 25, 2, 3, 4, 5, 6, 7, 8, 9, 10, 11, 12, 13]) (tX3_become) ⟨rfl, rfl⟩ dX4_kindsByRow_20 wd273 cvX3_become rfl ⟨(Nat.le_of_ble_eq_true rfl), (Nat.le_of_ble_eq_true rfl)⟩ hcX3 rfl rfl rfl rfl (Nat.le_of_ble_eq_true rfl) (Nat.le_of_ble_eq_true rfl) (Nat.le_of_ble_eq_true rfl) (pb_two (w1 := xW r (wsO r) (fsO r) r (wsO r) (fsO r) im (wsO im) (fsO im) lt rw rf ga hi (nI L) (nI R)) 12 14 2 12 rfl rfl (Nat.le_of_ble_eq_true rfl) rfl rfl rfl (Nat.le_of_ble_eq_true rfl) rfl rfl rfl) ?_
    refine o_aload_n dX4_kindsByRow_23 rfl rfl ?_
    refine o_getf (j := 1) dX4_kindsByRow_24 rfl hcX4 inX4 (Nat.le_of_ble_eq_true rfl) wd205 rfl rfl ?_
    refine o_getf (j := 0) dX4_kindsByRow_27 rfl hcX3 inX3 (Nat.le_of_ble_eq_true rfl) wd138 rfl rfl ?_
    refine o_getf (j := 0) dX4_kindsByRow_30 rfl hcX0 inX0 (Nat.le_of_ble_eq_true rfl) wd103 rfl rfl ?_
    refine o_iload_n dX4_kindsByRow_33 rfl rfl ?_
    refine o_iload dX4_kindsByRow_34 rfl ?_
    refine o_callSd (w2 := xW r (wsO r) (fsO r) (upd r (5 + 5 * d) (nI k)) (wsO r) (fsO r) im (wsO im) (fsO im) lt rw rf ga hi (nI L) (nI R)) (is := [14, 15, 16, 17, 18, 19, 20, 21, 22, 23, 24, 25]) (tput_kd (by omega)) ⟨rfl, rfl⟩ dX4_kindsByRow_36 wd238 csX4_put rfl ⟨(Nat.le_of_ble_eq_true rfl), (Nat.le_of_ble_eq_true rfl)⟩ rfl rfl rfl (Nat.le_of_ble_eq_true rfl) (Nat.le_of_ble_eq_true rfl) (Nat.le_of_ble_eq_true rfl) (pb_seg 14 (Nat.le_of_ble_eq_true rfl) rfl rfl rfl) ?_
    refine o_aload_n dX4_kindsByRow_39 rfl rfl ?_
    refine o_iload_n dX4_kindsByRow_40 rfl rfl ?_
    refine o_callV (is := [0, 1, 2, 3, 4, 5, 6, 7, 8, 9, 10, 11, 12, 13, 14, 15, 16, 17, 18, 19, 20, 21, 22, 23, 24, 25, 26, 27, 28, 29, 30, 31, 32, 33, 34, 35, 36, 37, 38, 39, 40, 41, 42, 43]) (tX4_isMindAsRow hS hp hR hRk hsd) ⟨rfl, rfl⟩ dX4_kindsByRow_41 wd630 cvX4_isMindAsRow rfl ⟨(Nat.le_of_ble_eq_true rfl), (Nat.le_of_ble_eq_true rfl)⟩ hcX4 rfl rfl rfl rfl (Nat.le_of_ble_eq_true rfl) (Nat.le_of_ble_eq_true rfl) (Nat.le_of_ble_eq_true rfl) (fun ra wb hq hqn => ?_)
    obtain ⟨rfl, m2, mw2, mf2, rfl⟩ := hq
    refine o_eqw (w2 := xW r (wsO r) (fsO r) m2 mw2 mf2 im (wsO im) (fsO im) lt rw rf ga hi (nI L) (nI R)) (pb_seg 0 (Nat.le_of_ble_eq_true rfl) rfl rfl rfl) ?_
    refine o_if_eq (tgt := 54) dX4_kindsByRow_44 (by decide) (fun c_44 => ?_) (fun c_44 => ?_)
    · skip
      refine o_inc_4 dX4_kindsByRow_54 rfl ic_1 (Nat.le_of_ble_eq_true rfl) ?_
      refine o_goto (tgt := 5) dX4_kindsByRow_57 (by decide) ?_
      exact o_eqa (by rw [nI_1, wiS, bI_0.mp c_44, if_neg (by decide), Int32.or_zero]) rfl (ih (k + 1) _ _ _ (by omega) (by omega))
    · skip
      refine o_iload_n dX4_kindsByRow_47 rfl rfl ?_
      refine o_iconst dX4_kindsByRow_48 ic_1 ?_
      refine o_iload dX4_kindsByRow_49 rfl ?_
      refine o_ishl dX4_kindsByRow_51 ?_
      refine o_ior dX4_kindsByRow_52 ?_
      refine o_istn_3 dX4_kindsByRow_53 rfl rfl (Nat.le_of_ble_eq_true rfl) ?_
      refine o_inc_4 dX4_kindsByRow_54 rfl ic_1 (Nat.le_of_ble_eq_true rfl) ?_
      refine o_goto (tgt := 5) dX4_kindsByRow_57 (by decide) ?_
      exact o_eqa (by rw [nI_1, wiS, if_pos (bI_ne c_44)]) rfl (ih (k + 1) _ _ _ (by omega) (by omega))
theorem tX4_kindsByRow {r m mw mf im lt rw rf ga : Nat → Int32} {hi : Int32} {L R : Nat} (hS : SOk r) {p d : Nat} (hp : p < nN r) (hd : d < dN r) (hR : R ≤ 16) : PM mX4_kindsByRow [.ref 0, .int (nI p), .int (nI d)] (xW r (wsO r) (fsO r) m mw mf im (wsO im) (fsO im) lt rw rf ga hi (nI L) (nI R)) (fun v w => v = some (.int (wiS r rw p (5 + 5 * d) R 6)) ∧ ∃ m2 mw2 mf2, w = xW r (wsO r) (fsO r) m2 mw2 mf2 im (wsO im) (fsO im) lt rw rf ga hi (nI L) (nI R)) := by
  refine PM.ofp 2 (by decide) (Nat.le_of_ble_eq_true rfl) ?_
  show Ok mX4_kindsByRow none 0 [some (.ref 0), some (.int (nI p)), some (.int (nI d)), none, none] [] (xW r (wsO r) (fsO r) m mw mf im (wsO im) (fsO im) lt rw rf ga hi (nI L) (nI R)) 0 0 _
  refine o_iconst dX4_kindsByRow_0 ic_0 ?_
  refine o_istn_3 dX4_kindsByRow_1 rfl rfl (Nat.le_of_ble_eq_true rfl) ?_
  refine o_iconst dX4_kindsByRow_2 ic_0 ?_
  refine o_istg_4 dX4_kindsByRow_3 rfl (Nat.le_of_ble_eq_true rfl) ?_
  exact o_eqa (by rw [nI_0]; rfl) rfl (lX4_kindsByRow hS hp hd hR 7 0 _ _ _ (by omega) (by omega))
theorem lX4_goalsByRow {r im lt rw rf ga : Nat → Int32} {hi : Int32} {L R : Nat} (hS : SOk r) {p : Nat} (hp : p < nN r) (hR : R ≤ 16) : ∀ (q k : Nat) (m mw mf : Nat → Int32), 8 - k < q → k ≤ 8 → Ok mX4_goalsByRow none 4 [some (.ref 0), some (.int (nI p)), some (.int (wiS r rw p (51 + 3 * p) R k)), some (.int (nI k))] [] (xW r (wsO r) (fsO r) m mw mf im (wsO im) (fsO im) lt rw rf ga hi (nI L) (nI R)) 0 0 (fun v w => v = some (.int (wiS r rw p (51 + 3 * p) R 8)) ∧ ∃ m2 mw2 mf2, w = xW r (wsO r) (fsO r) m2 mw2 mf2 im (wsO im) (fsO im) lt rw rf ga hi (nI L) (nI R)) := by
  intro q
  induction q with
  | zero => intro k m mw mf hq hk; omega
  | succ q ih =>
  intro k m mw mf hq hk
  have h6 := hS.n6
  have h9 := hS.d9
  refine o_iload_n dX4_goalsByRow_4 rfl rfl ?_
  refine o_bipush dX4_goalsByRow_5 bp_8 ?_
  refine o_icmp_ge (tgt := 53) dX4_goalsByRow_7 (by decide) (fun c_7 => ?_) (fun c_7 => ?_)
  · have hkN : k = 8 := Nat.le_antisymm hk (geI (b := 8) (by omega) (by omega) c_7)
    subst hkN
    refine o_iload_n dX4_goalsByRow_53 rfl rfl ?_
    refine o_iret dX4_goalsByRow_54 rfl (vp_nar_int _) (Nat.le_of_ble_eq_true rfl) (Nat.le_of_ble_eq_true rfl) ?_
    exact ⟨rfl, _, _, _, rfl⟩
  · have hkN : k < 8 := ltI (b := 8) (by omega) (by omega) c_7
    have hRk : ROk (upd r (51 + 3 * p) (nI k)) (dN r) (nN r) (cN (r 2)) := ⟨hS.1.goal hp (RmI.nI hkN), fun e he => by rw [upd_ne (by omega), upd_ne (by omega)]; exact (hS.dd he).1, fun e he => by rw [upd_ne (by omega)]; exact hS.pm he, by rw [upd_ne (by omega)]; exact hS.e4⟩
    have hsd : SD r (upd r (51 + 3 * p) (nI k)) := SD.up hS (Or.inl (by omega))
    refine o_aload_n dX4_goalsByRow_10 rfl rfl ?_
    refine o_getf (j := 1) dX4_goalsByRow_11 rfl hcX4 inX4 (Nat.le_of_ble_eq_true rfl) wd205 rfl rfl ?_
    refine o_aload_n dX4_goalsByRow_14 rfl rfl ?_
    refine o_getf (j := 0) dX4_goalsByRow_15 rfl hcX4 inX4 (Nat.le_of_ble_eq_true rfl) wd204 rfl rfl ?_
    refine o_callVd (w2 := xW r (wsO r) (fsO r) r (wsO r) (fsO r) im (wsO im) (fsO im) lt rw rf ga hi (nI L) (nI R)) (is := [14, 15, 16, 17, 18, 19, 20, 21, 22, 23, 24, 25, 2, 3, 4, 5, 6, 7, 8, 9, 10, 11, 12, 13]) (tX3_become) ⟨rfl, rfl⟩ dX4_goalsByRow_18 wd273 cvX3_become rfl ⟨(Nat.le_of_ble_eq_true rfl), (Nat.le_of_ble_eq_true rfl)⟩ hcX3 rfl rfl rfl rfl (Nat.le_of_ble_eq_true rfl) (Nat.le_of_ble_eq_true rfl) (Nat.le_of_ble_eq_true rfl) (pb_two (w1 := xW r (wsO r) (fsO r) r (wsO r) (fsO r) im (wsO im) (fsO im) lt rw rf ga hi (nI L) (nI R)) 12 14 2 12 rfl rfl (Nat.le_of_ble_eq_true rfl) rfl rfl rfl (Nat.le_of_ble_eq_true rfl) rfl rfl rfl) ?_
    refine o_aload_n dX4_goalsByRow_21 rfl rfl ?_
    refine o_getf (j := 1) dX4_goalsByRow_22 rfl hcX4 inX4 (Nat.le_of_ble_eq_true rfl) wd205 rfl rfl ?_
    refine o_getf (j := 2) dX4_goalsByRow_25 rfl hcX3 inX3 (Nat.le_of_ble_eq_true rfl) wd144 rfl rfl ?_
    refine o_iload_n dX4_goalsByRow_28 rfl rfl ?_
    refine o_iload_n dX4_goalsByRow_29 rfl rfl ?_
    refine o_callSd (w2 := xW r (wsO r) (fsO r) (upd r (51 + 3 * p) (nI k)) (wsO r) (fsO r) im (wsO im) (fsO im) lt rw rf ga hi (nI L) (nI R)) (is := [14, 15, 16, 17, 18, 19, 20, 21, 22, 23, 24, 25]) (tput_gl (by omega)) ⟨rfl, rfl⟩ dX4_goalsByRow_30 wd238 csX4_put rfl ⟨(Nat.le_of_ble_eq_true rfl), (Nat.le_of_ble_eq_true rfl)⟩ rfl rfl rfl (Nat.le_of_ble_eq_true rfl) (Nat.le_of_ble_eq_true rfl) (Nat.le_of_ble_eq_true rfl) (pb_seg 14 (Nat.le_of_ble_eq_true rfl) rfl rfl rfl) ?_
    refine o_aload_n dX4_goalsByRow_33 rfl rfl ?_
    refine o_iload_n dX4_goalsByRow_34 rfl rfl ?_
    refine o_callV (is := [0, 1, 2, 3, 4, 5, 6, 7, 8, 9, 10, 11, 12, 13, 14, 15, 16, 17, 18, 19, 20, 21, 22, 23, 24, 25, 26, 27, 28, 29, 30, 31, 32, 33, 34, 35, 36, 37, 38, 39, 40, 41, 42, 43]) (tX4_isMindAsRow hS hp hR hRk hsd) ⟨rfl, rfl⟩ dX4_goalsByRow_35 wd630 cvX4_isMindAsRow rfl ⟨(Nat.le_of_ble_eq_true rfl), (Nat.le_of_ble_eq_true rfl)⟩ hcX4 rfl rfl rfl rfl (Nat.le_of_ble_eq_true rfl) (Nat.le_of_ble_eq_true rfl) (Nat.le_of_ble_eq_true rfl) (fun ra wb hq hqn => ?_)
    obtain ⟨rfl, m2, mw2, mf2, rfl⟩ := hq
    refine o_eqw (w2 := xW r (wsO r) (fsO r) m2 mw2 mf2 im (wsO im) (fsO im) lt rw rf ga hi (nI L) (nI R)) (pb_seg 0 (Nat.le_of_ble_eq_true rfl) rfl rfl rfl) ?_
    refine o_if_eq (tgt := 47) dX4_goalsByRow_38 (by decide) (fun c_38 => ?_) (fun c_38 => ?_)
    · skip
      refine o_inc_3 dX4_goalsByRow_47 rfl ic_1 (Nat.le_of_ble_eq_true rfl) ?_
      refine o_goto (tgt := 4) dX4_goalsByRow_50 (by decide) ?_
      exact o_eqa (by rw [nI_1, wiS, bI_0.mp c_38, if_neg (by decide), Int32.or_zero]) rfl (ih (k + 1) _ _ _ (by omega) (by omega))
    · skip
      refine o_iload_n dX4_goalsByRow_41 rfl rfl ?_
      refine o_iconst dX4_goalsByRow_42 ic_1 ?_
      refine o_iload_n dX4_goalsByRow_43 rfl rfl ?_
      refine o_ishl dX4_goalsByRow_44 ?_
      refine o_ior dX4_goalsByRow_45 ?_
      refine o_istn_2 dX4_goalsByRow_46 rfl rfl (Nat.le_of_ble_eq_true rfl) ?_
      refine o_inc_3 dX4_goalsByRow_47 rfl ic_1 (Nat.le_of_ble_eq_true rfl) ?_
      refine o_goto (tgt := 4) dX4_goalsByRow_50 (by decide) ?_
      exact o_eqa (by rw [nI_1, wiS, if_pos (bI_ne c_38)]) rfl (ih (k + 1) _ _ _ (by omega) (by omega))
theorem tX4_goalsByRow {r m mw mf im lt rw rf ga : Nat → Int32} {hi : Int32} {L R : Nat} (hS : SOk r) {p : Nat} (hp : p < nN r) (hR : R ≤ 16) : PM mX4_goalsByRow [.ref 0, .int (nI p)] (xW r (wsO r) (fsO r) m mw mf im (wsO im) (fsO im) lt rw rf ga hi (nI L) (nI R)) (fun v w => v = some (.int (wiS r rw p (51 + 3 * p) R 8)) ∧ ∃ m2 mw2 mf2, w = xW r (wsO r) (fsO r) m2 mw2 mf2 im (wsO im) (fsO im) lt rw rf ga hi (nI L) (nI R)) := by
  refine PM.ofp 2 (by decide) (Nat.le_of_ble_eq_true rfl) ?_
  show Ok mX4_goalsByRow none 0 [some (.ref 0), some (.int (nI p)), none, none] [] (xW r (wsO r) (fsO r) m mw mf im (wsO im) (fsO im) lt rw rf ga hi (nI L) (nI R)) 0 0 _
  refine o_iconst dX4_goalsByRow_0 ic_0 ?_
  refine o_istn_2 dX4_goalsByRow_1 rfl rfl (Nat.le_of_ble_eq_true rfl) ?_
  refine o_iconst dX4_goalsByRow_2 ic_0 ?_
  refine o_istn_3 dX4_goalsByRow_3 rfl rfl (Nat.le_of_ble_eq_true rfl) ?_
  exact o_eqa (by rw [nI_0]; rfl) rfl (lX4_goalsByRow hS hp hR 9 0 _ _ _ (by omega) (by omega))
theorem tX4_whatIs {r m mw mf im lt rw rf ga : Nat → Int32} {hi : Int32} {L R : Nat} (hS : SOk r) (hR : R ≤ 16) {x y w : Int32} : PM mX4_whatIs [.ref 0, .int x, .int y, .int w] (xW r (wsO r) (fsO r) m mw mf im (wsO im) (fsO im) lt rw rf ga hi (nI L) (nI R)) (CP (s_whatIs x y w (r, im, hi, lt, L, rw, R, rf))) := by
  refine PM.ofp 0 (by decide) (Nat.le_of_ble_eq_true rfl) ?_
  show Ok mX4_whatIs none 0 [some (.ref 0), some (.int x), some (.int y), some (.int w)] [] (xW r (wsO r) (fsO r) m mw mf im (wsO im) (fsO im) lt rw rf ga hi (nI L) (nI R)) 0 0 _
  refine o_aload_n dX4_whatIs_0 rfl rfl ?_
  refine o_getf (j := 0) dX4_whatIs_1 rfl hcX4 inX4 (Nat.le_of_ble_eq_true rfl) wd204 rfl rfl ?_
  refine o_iload_n dX4_whatIs_4 rfl rfl ?_
  refine o_callVr (is := [2, 3, 4, 5, 6, 7, 8, 9, 10, 11, 12, 13]) (xhas hS) ⟨rfl, rfl⟩ dX4_whatIs_5 wd384 cvX3_has rfl ⟨(Nat.le_of_ble_eq_true rfl), (Nat.le_of_ble_eq_true rfl)⟩ hcX3 rfl rfl rfl rfl (Nat.le_of_ble_eq_true rfl) (Nat.le_of_ble_eq_true rfl) (Nat.le_of_ble_eq_true rfl) ?_
  refine o_if_eq (tgt := 25) dX4_whatIs_8 (by decide) (fun c_8 => ?_) (fun c_8 => ?_)
  · have hno := bI_0.mp c_8
    refine o_aload_n dX4_whatIs_25 rfl rfl ?_
    refine o_iconst dX4_whatIs_26 ic_m1 ?_
    refine o_callVd (w2 := xW r (wsO r) (fsO r) m mw mf im (wsO im) (fsO im) lt rw (rfu rf 1) ga hi (nI L) (nI R)) (is := [0, 1, 2, 3, 4, 5, 6, 7, 8, 9, 10, 11, 12, 13, 14, 15, 16, 17, 18, 19, 20, 21, 22, 23, 24, 25, 26, 27, 28, 29, 30, 31, 32, 33, 34, 35, 36, 37, 38, 39, 40, 41, 42, 43]) (tX4_refused (c := 1) rfl (by decide)) ⟨rfl, rfl⟩ dX4_whatIs_27 wd233 cvX4_refused rfl ⟨(Nat.le_of_ble_eq_true rfl), (Nat.le_of_ble_eq_true rfl)⟩ hcX4 rfl rfl rfl rfl (Nat.le_of_ble_eq_true rfl) (Nat.le_of_ble_eq_true rfl) (Nat.le_of_ble_eq_true rfl) (pb_seg 0 (Nat.le_of_ble_eq_true rfl) rfl rfl rfl) ?_
    refine o_iret dX4_whatIs_30 rfl (vp_nar_int _) (Nat.le_of_ble_eq_true rfl) (Nat.le_of_ble_eq_true rfl) ?_
    exact CP.mk (by simp only [s_whatIs, hno, Bool.false_and]; rfl)
  · obtain ⟨d, hd, rfl⟩ := inR_yes (by have := hS.n6; omega) (bI_ne c_8)
    have h9 := hS.n6
    have hin := inR_nI (D := nN r) (by omega) hd
    have ec := cN_nI (d := d) (by omega)
    refine o_aload_n dX4_whatIs_11 rfl rfl ?_
    refine o_getf (j := 0) dX4_whatIs_12 rfl hcX4 inX4 (Nat.le_of_ble_eq_true rfl) wd204 rfl rfl ?_
    refine o_getf (j := 0) dX4_whatIs_15 rfl hcX3 inX3 (Nat.le_of_ble_eq_true rfl) wd138 rfl rfl ?_
    refine o_iload_n dX4_whatIs_18 rfl rfl ?_
    refine o_callVr (is := [3, 4, 5, 6, 7, 8, 9, 10]) (dhas hS) ⟨rfl, rfl⟩ dX4_whatIs_19 wd379 cvX0_has rfl ⟨(Nat.le_of_ble_eq_true rfl), (Nat.le_of_ble_eq_true rfl)⟩ hcX0 rfl rfl rfl rfl (Nat.le_of_ble_eq_true rfl) (Nat.le_of_ble_eq_true rfl) (Nat.le_of_ble_eq_true rfl) ?_
    refine o_if_ne (tgt := 31) dX4_whatIs_22 (by decide) (fun c_22 => ?_) (fun c_22 => ?_)
    · obtain ⟨e, he, rfl⟩ := inR_yes (by have := hS.d9; omega) (bI_ne c_22)
      have hie := inR_nI (D := dN r) (by have := hS.d9; omega) he
      have ee := cN_nI (d := e) (by have := hS.d9; omega)
      refine o_iload_n dX4_whatIs_31 rfl rfl ?_
      refine o_callSr (is := []) (tX4_isHalf) ⟨rfl, rfl⟩ dX4_whatIs_32 wd443 csX4_isHalf rfl ⟨(Nat.le_of_ble_eq_true rfl), (Nat.le_of_ble_eq_true rfl)⟩ rfl rfl rfl (Nat.le_of_ble_eq_true rfl) (Nat.le_of_ble_eq_true rfl) (Nat.le_of_ble_eq_true rfl) ?_
      refine o_if_ne (tgt := 45) dX4_whatIs_35 (by decide) (fun c_35 => ?_) (fun c_35 => ?_)
      · have hww : inR 2 w = true := by rw [← isHalf_eq]; exact bI_ne c_35
        refine o_iload_n dX4_whatIs_45 rfl rfl ?_
        refine o_if_ne (tgt := 58) dX4_whatIs_46 (by decide) (fun c_46 => ?_) (fun c_46 => ?_)
        · skip
          refine o_aload_n dX4_whatIs_58 rfl rfl ?_
          refine o_iload_n dX4_whatIs_59 rfl rfl ?_
          refine o_callV (is := [0, 1, 2, 3, 4, 5, 6, 7, 8, 9, 10, 11, 12, 13, 14, 15, 16, 17, 18, 19, 20, 21, 22, 23, 24, 25, 26, 27, 28, 29, 30, 31, 32, 33, 34, 35, 36, 37, 38, 39, 40, 41, 42, 43]) (tX4_goalsByRow hS hd hR) ⟨rfl, rfl⟩ dX4_whatIs_60 wd634 cvX4_goalsByRow rfl ⟨(Nat.le_of_ble_eq_true rfl), (Nat.le_of_ble_eq_true rfl)⟩ hcX4 rfl rfl rfl rfl (Nat.le_of_ble_eq_true rfl) (Nat.le_of_ble_eq_true rfl) (Nat.le_of_ble_eq_true rfl) (fun ra wb hq hqn => ?_)
          obtain ⟨rfl, m2, mw2, mf2, rfl⟩ := hq
          refine o_eqw (w2 := xW r (wsO r) (fsO r) m2 mw2 mf2 im (wsO im) (fsO im) lt rw rf ga hi (nI L) (nI R)) (pb_seg 0 (Nat.le_of_ble_eq_true rfl) rfl rfl rfl) ?_
          refine o_iret dX4_whatIs_63 rfl (vp_nar_int _) (Nat.le_of_ble_eq_true rfl) (Nat.le_of_ble_eq_true rfl) ?_
          exact CP.mk (by simp only [s_whatIs, hin, hie, Bool.and_self, if_true, hww, if_neg c_46, ec])
        · skip
          refine o_aload_n dX4_whatIs_49 rfl rfl ?_
          refine o_iload_n dX4_whatIs_50 rfl rfl ?_
          refine o_iload_n dX4_whatIs_51 rfl rfl ?_
          refine o_callV (is := [0, 1, 2, 3, 4, 5, 6, 7, 8, 9, 10, 11, 12, 13, 14, 15, 16, 17, 18, 19, 20, 21, 22, 23, 24, 25, 26, 27, 28, 29, 30, 31, 32, 33, 34, 35, 36, 37, 38, 39, 40, 41, 42, 43]) (tX4_kindsByRow hS hd he hR) ⟨rfl, rfl⟩ dX4_whatIs_52 wd626 cvX4_kindsByRow rfl ⟨(Nat.le_of_ble_eq_true rfl), (Nat.le_of_ble_eq_true rfl)⟩ hcX4 rfl rfl rfl rfl (Nat.le_of_ble_eq_true rfl) (Nat.le_of_ble_eq_true rfl) (Nat.le_of_ble_eq_true rfl) (fun ra wb hq hqn => ?_)
          obtain ⟨rfl, m2, mw2, mf2, rfl⟩ := hq
          refine o_eqw (w2 := xW r (wsO r) (fsO r) m2 mw2 mf2 im (wsO im) (fsO im) lt rw rf ga hi (nI L) (nI R)) (pb_seg 0 (Nat.le_of_ble_eq_true rfl) rfl rfl rfl) ?_
          refine o_goto (tgt := 63) dX4_whatIs_55 (by decide) ?_
          refine o_iret dX4_whatIs_63 rfl (vp_nar_int _) (Nat.le_of_ble_eq_true rfl) (Nat.le_of_ble_eq_true rfl) ?_
          exact CP.mk (by simp only [s_whatIs, hin, hie, Bool.and_self, if_true, hww, if_pos c_46, ec, ee])
      · have hww : inR 2 w = false := by rw [← isHalf_eq]; exact bI_0.mp c_35
        refine o_aload_n dX4_whatIs_38 rfl rfl ?_
        refine o_bipush dX4_whatIs_39 bp_m2 ?_
        refine o_callVd (w2 := xW r (wsO r) (fsO r) m mw mf im (wsO im) (fsO im) lt rw (rfu rf 2) ga hi (nI L) (nI R)) (is := [0, 1, 2, 3, 4, 5, 6, 7, 8, 9, 10, 11, 12, 13, 14, 15, 16, 17, 18, 19, 20, 21, 22, 23, 24, 25, 26, 27, 28, 29, 30, 31, 32, 33, 34, 35, 36, 37, 38, 39, 40, 41, 42, 43]) (tX4_refused (c := 2) rfl (by decide)) ⟨rfl, rfl⟩ dX4_whatIs_41 wd233 cvX4_refused rfl ⟨(Nat.le_of_ble_eq_true rfl), (Nat.le_of_ble_eq_true rfl)⟩ hcX4 rfl rfl rfl rfl (Nat.le_of_ble_eq_true rfl) (Nat.le_of_ble_eq_true rfl) (Nat.le_of_ble_eq_true rfl) (pb_seg 0 (Nat.le_of_ble_eq_true rfl) rfl rfl rfl) ?_
        refine o_iret dX4_whatIs_44 rfl (vp_nar_int _) (Nat.le_of_ble_eq_true rfl) (Nat.le_of_ble_eq_true rfl) ?_
        exact CP.mk (by simp only [s_whatIs, hin, hie, Bool.and_self, if_true, hww]; rfl)
    · have hny : inR (dN r) y = false := bI_0.mp c_22
      refine o_aload_n dX4_whatIs_25 rfl rfl ?_
      refine o_iconst dX4_whatIs_26 ic_m1 ?_
      refine o_callVd (w2 := xW r (wsO r) (fsO r) m mw mf im (wsO im) (fsO im) lt rw (rfu rf 1) ga hi (nI L) (nI R)) (is := [0, 1, 2, 3, 4, 5, 6, 7, 8, 9, 10, 11, 12, 13, 14, 15, 16, 17, 18, 19, 20, 21, 22, 23, 24, 25, 26, 27, 28, 29, 30, 31, 32, 33, 34, 35, 36, 37, 38, 39, 40, 41, 42, 43]) (tX4_refused (c := 1) rfl (by decide)) ⟨rfl, rfl⟩ dX4_whatIs_27 wd233 cvX4_refused rfl ⟨(Nat.le_of_ble_eq_true rfl), (Nat.le_of_ble_eq_true rfl)⟩ hcX4 rfl rfl rfl rfl (Nat.le_of_ble_eq_true rfl) (Nat.le_of_ble_eq_true rfl) (Nat.le_of_ble_eq_true rfl) (pb_seg 0 (Nat.le_of_ble_eq_true rfl) rfl rfl rfl) ?_
      refine o_iret dX4_whatIs_30 rfl (vp_nar_int _) (Nat.le_of_ble_eq_true rfl) (Nat.le_of_ble_eq_true rfl) ?_
      exact CP.mk (by simp only [s_whatIs, hny, Bool.and_false]; rfl)
theorem lp_ne {r : Nat → Int32} {z : Int32} {i : Nat} : ∀ k, (∀ j, j < k → i ≠ 50 + 3 * j ∧ i ≠ 51 + 3 * j) → (lpR r z k).1 i = r i
  | 0, _ => rfl
  | k + 1, h => by
    show upd (upd (lpR r z k).1 (50 + 3 * k) _) (51 + 3 * k) _ i = r i
    rw [upd_ne (h k (by omega)).2, upd_ne (h k (by omega)).1]; exact lp_ne k (fun j hj => h j (by omega))
theorem lp_R {r : Nat → Int32} (hS : SOk r) {z : Int32} : ROk (lpR r z (nN r)).1 (dN r) (nN r) (cN (r 2)) ∧ SD r (lpR r z (nN r)).1 := by
  have h9 := hS.d9
  have h6 := hS.n6
  have e : ∀ i, i < 50 ∨ (∃ p, i = 52 + 3 * p) → (lpR r z (nN r)).1 i = r i := fun i hi => lp_ne _ (fun j hj => by rcases hi with hi | ⟨p, hi⟩ <;> omega)
  exact ⟨⟨hS.1.lp (nN r) (Nat.le_refl _), fun d hd => by rw [e _ (Or.inl (by omega)), e _ (Or.inl (by omega))]; exact (hS.dd hd).1, fun p hp => by rw [e _ (Or.inr ⟨p, rfl⟩)]; exact hS.pm hp, by rw [e 4 (Or.inl (by omega))]; exact hS.e4⟩, ⟨e 0 (Or.inl (by omega)), fun d hd => ⟨e _ (Or.inl (by omega)), e _ (Or.inl (by omega))⟩⟩⟩
theorem go8 {r m ws : Nat → Int32} {N h : Nat} (hS : SOk r) (hR : ROk m (dN r) N h) (hsd : SD r m) : PD mX3_goHours [.ref 0, .int 8, .int 0] (tW m ws (fsO r)) (some (.int (wentC (fsO r) (dN r) N false m 8))) (tW (hrs m 8) ws (fsO r)) := goM (n := 8) hS hR hsd (by omega)
theorem lt_seed {r : Nat → Int32} {w w2 z : Int32} : ∀ k, (ltV r w z k).2 = (ltV r w2 z k).2
  | 0 => rfl
  | k + 1 => by
    show (lpR r (ltV r w z k).2 (nN r)).2 = (lpR r (ltV r w2 z k).2 (nN r)).2
    rw [lt_seed (w2 := w2) k]
theorem lt_w {r : Nat → Int32} {w z : Int32} (hw : ¬ w = 0) : ∀ k, ltV r w z k = ltV r 1 z k
  | 0 => rfl
  | k + 1 => by rw [ltV, ltV, lt_w hw k, if_neg hw, if_neg (show ¬ (1 : Int32) = 0 by decide)]
theorem ltv_0 {r : Nat → Int32} {z : Int32} {k : Nat} : (ltV r 0 z (k + 1)).1 = (ltV r 0 z k).1 + bitsM (homeM (hrs (lpR r (ltV r 0 z k).2 (nN r)).1 8) (nN r)) 9 := by rw [ltV, if_pos rfl]
theorem ltv_1 {r : Nat → Int32} {z : Int32} {k : Nat} : (ltV r 1 z (k + 1)).1 = (ltV r 1 z k).1 + (hrs (lpR r (ltV r 0 z k).2 (nN r)).1 8 3 - r 3) := by rw [ltV, if_neg (show ¬ (1 : Int32) = 0 by decide), lt_seed (w := 1) (w2 := 0)]
theorem lX4_placeByLot {r im lt rw rf ga : Nat → Int32} {hi : Int32} {L R : Nat} (hS : SOk r) {z : Int32} : ∀ (q k : Nat), nN r - k < q → k ≤ nN r → Ok mX4_placeByLot none 4 [some (.ref 0), some (.int z), some (.int (lpR r z k).2), some (.int (nI k))] [] (xW r (wsO r) (fsO r) (lpR r z k).1 (wsO r) (fsO r) im (wsO im) (fsO im) lt rw rf ga hi (nI L) (nI R)) 0 0 (fun v w => v = some (.int (lpR r z (nN r)).2) ∧ w = xW r (wsO r) (fsO r) (lpR r z (nN r)).1 (wsO r) (fsO r) im (wsO im) (fsO im) lt rw rf ga hi (nI L) (nI R)) := by
  intro q
  induction q with
  | zero => intro k hq hk; omega
  | succ q ih =>
  intro k hq hk
  have h6 := hS.n6
  refine o_iload_n dX4_placeByLot_4 rfl rfl ?_
  refine o_aload_n dX4_placeByLot_5 rfl rfl ?_
  refine o_getf (j := 1) dX4_placeByLot_6 rfl hcX4 inX4 (Nat.le_of_ble_eq_true rfl) wd205 rfl rfl ?_
  refine o_getf (j := 4) dX4_placeByLot_9 rfl hcX3 inX3 (Nat.le_of_ble_eq_true rfl) wd150 rfl rfl ?_
  refine o_eqs (by rw [lp_ne k (fun j hj => by omega), hS.e1]) ?_
  refine o_icmp_ge (tgt := 61) dX4_placeByLot_12 (by decide) (fun c_12 => ?_) (fun c_12 => ?_)
  · have hkN : k = nN r := Nat.le_antisymm hk (geI (by omega) (by omega) c_12)
    rw [hkN]
    refine o_iload_n dX4_placeByLot_61 rfl rfl ?_
    refine o_iret dX4_placeByLot_62 rfl (vp_nar_int _) (Nat.le_of_ble_eq_true rfl) (Nat.le_of_ble_eq_true rfl) ?_
    exact ⟨rfl, rfl⟩
  · have hkN : k < nN r := ltI (by omega) (by omega) c_12
    refine o_iload_n dX4_placeByLot_15 rfl rfl ?_
    refine o_callSr (is := []) (tX4_nextSeed) ⟨rfl, rfl⟩ dX4_placeByLot_16 wd658 csX4_nextSeed rfl ⟨(Nat.le_of_ble_eq_true rfl), (Nat.le_of_ble_eq_true rfl)⟩ rfl rfl rfl (Nat.le_of_ble_eq_true rfl) (Nat.le_of_ble_eq_true rfl) (Nat.le_of_ble_eq_true rfl) ?_
    refine o_istn_2 dX4_placeByLot_19 rfl rfl (Nat.le_of_ble_eq_true rfl) ?_
    refine o_aload_n dX4_placeByLot_20 rfl rfl ?_
    refine o_getf (j := 1) dX4_placeByLot_21 rfl hcX4 inX4 (Nat.le_of_ble_eq_true rfl) wd205 rfl rfl ?_
    refine o_getf (j := 1) dX4_placeByLot_24 rfl hcX3 inX3 (Nat.le_of_ble_eq_true rfl) wd141 rfl rfl ?_
    refine o_iload_n dX4_placeByLot_27 rfl rfl ?_
    refine o_iload_n dX4_placeByLot_28 rfl rfl ?_
    refine o_callSr (is := []) (tX4_draw) ⟨rfl, rfl⟩ dX4_placeByLot_29 wd663 csX4_draw rfl ⟨(Nat.le_of_ble_eq_true rfl), (Nat.le_of_ble_eq_true rfl)⟩ rfl rfl rfl (Nat.le_of_ble_eq_true rfl) (Nat.le_of_ble_eq_true rfl) (Nat.le_of_ble_eq_true rfl) ?_
    refine o_callSd (w2 := xW r (wsO r) (fsO r) (upd (lpR r z k).1 (50 + 3 * k) (drawF (seedF (lpR r z k).2))) (wsO r) (fsO r) im (wsO im) (fsO im) lt rw rf ga hi (nI L) (nI R)) (is := [14, 15, 16, 17, 18, 19, 20, 21, 22, 23, 24, 25]) (tput_rm (by omega)) ⟨rfl, rfl⟩ dX4_placeByLot_32 wd238 csX4_put rfl ⟨(Nat.le_of_ble_eq_true rfl), (Nat.le_of_ble_eq_true rfl)⟩ rfl rfl rfl (Nat.le_of_ble_eq_true rfl) (Nat.le_of_ble_eq_true rfl) (Nat.le_of_ble_eq_true rfl) (pb_seg 14 (Nat.le_of_ble_eq_true rfl) rfl rfl rfl) ?_
    refine o_iload_n dX4_placeByLot_35 rfl rfl ?_
    refine o_callSr (is := []) (tX4_nextSeed) ⟨rfl, rfl⟩ dX4_placeByLot_36 wd658 csX4_nextSeed rfl ⟨(Nat.le_of_ble_eq_true rfl), (Nat.le_of_ble_eq_true rfl)⟩ rfl rfl rfl (Nat.le_of_ble_eq_true rfl) (Nat.le_of_ble_eq_true rfl) (Nat.le_of_ble_eq_true rfl) ?_
    refine o_istn_2 dX4_placeByLot_39 rfl rfl (Nat.le_of_ble_eq_true rfl) ?_
    refine o_aload_n dX4_placeByLot_40 rfl rfl ?_
    refine o_getf (j := 1) dX4_placeByLot_41 rfl hcX4 inX4 (Nat.le_of_ble_eq_true rfl) wd205 rfl rfl ?_
    refine o_getf (j := 2) dX4_placeByLot_44 rfl hcX3 inX3 (Nat.le_of_ble_eq_true rfl) wd144 rfl rfl ?_
    refine o_iload_n dX4_placeByLot_47 rfl rfl ?_
    refine o_iload_n dX4_placeByLot_48 rfl rfl ?_
    refine o_callSr (is := []) (tX4_draw) ⟨rfl, rfl⟩ dX4_placeByLot_49 wd663 csX4_draw rfl ⟨(Nat.le_of_ble_eq_true rfl), (Nat.le_of_ble_eq_true rfl)⟩ rfl rfl rfl (Nat.le_of_ble_eq_true rfl) (Nat.le_of_ble_eq_true rfl) (Nat.le_of_ble_eq_true rfl) ?_
    refine o_callSd (w2 := xW r (wsO r) (fsO r) (upd (upd (lpR r z k).1 (50 + 3 * k) (drawF (seedF (lpR r z k).2))) (51 + 3 * k) (drawF (seedF (seedF (lpR r z k).2)))) (wsO r) (fsO r) im (wsO im) (fsO im) lt rw rf ga hi (nI L) (nI R)) (is := [14, 15, 16, 17, 18, 19, 20, 21, 22, 23, 24, 25]) (tput_gl (by omega)) ⟨rfl, rfl⟩ dX4_placeByLot_52 wd238 csX4_put rfl ⟨(Nat.le_of_ble_eq_true rfl), (Nat.le_of_ble_eq_true rfl)⟩ rfl rfl rfl (Nat.le_of_ble_eq_true rfl) (Nat.le_of_ble_eq_true rfl) (Nat.le_of_ble_eq_true rfl) (pb_seg 14 (Nat.le_of_ble_eq_true rfl) rfl rfl rfl) ?_
    refine o_inc_3 dX4_placeByLot_55 rfl ic_1 (Nat.le_of_ble_eq_true rfl) ?_
    refine o_goto (tgt := 4) dX4_placeByLot_58 (by decide) ?_
    exact o_eqa (by rw [nI_1]; rfl) rfl (ih (k + 1) (by omega) (by omega))
theorem tX4_placeByLot {r im lt rw rf ga : Nat → Int32} {hi : Int32} {L R : Nat} (hS : SOk r) {z : Int32} : PD mX4_placeByLot [.ref 0, .int z] (xW r (wsO r) (fsO r) r (wsO r) (fsO r) im (wsO im) (fsO im) lt rw rf ga hi (nI L) (nI R)) (some (.int (lpR r z (nN r)).2)) (xW r (wsO r) (fsO r) (lpR r z (nN r)).1 (wsO r) (fsO r) im (wsO im) (fsO im) lt rw rf ga hi (nI L) (nI R)) := by
  refine PM.ofp 2 (by decide) (Nat.le_of_ble_eq_true rfl) ?_
  show Ok mX4_placeByLot none 0 [some (.ref 0), some (.int z), none, none] [] (xW r (wsO r) (fsO r) r (wsO r) (fsO r) im (wsO im) (fsO im) lt rw rf ga hi (nI L) (nI R)) 0 0 _
  refine o_iload_n dX4_placeByLot_0 rfl rfl ?_
  refine o_istn_2 dX4_placeByLot_1 rfl rfl (Nat.le_of_ble_eq_true rfl) ?_
  refine o_iconst dX4_placeByLot_2 ic_0 ?_
  refine o_istn_3 dX4_placeByLot_3 rfl rfl (Nat.le_of_ble_eq_true rfl) ?_
  exact o_eqa (by rw [nI_0]; rfl) rfl (lX4_placeByLot hS (nN r + 1) 0 (by omega) (by omega))
theorem lX4_lots {r im lt rw rf ga : Nat → Int32} {hi : Int32} {L R : Nat} (hS : SOk r) {n : Nat} {z w : Int32} (hn : n ≤ 20) : ∀ (q k : Nat) (m mw mf : Nat → Int32), n - k < q → k ≤ n → Ok mX4_lots none 51 [some (.ref 0), some (.int (nI n)), some (.int z), some (.int w), some (.int (ltV r 0 z k).2), some (.int (ltV r 0 z k).1), some (.int (ltV r 1 z k).1), some (.int (nI k))] [] (xW r (wsO r) (fsO r) m mw mf im (wsO im) (fsO im) lt rw rf ga hi (nI L) (nI R)) 0 0 (fun v w2 => v = some (.int (ltV r w z n).1) ∧ ∃ m2 mw2 mf2, w2 = xW r (wsO r) (fsO r) m2 mw2 mf2 im (wsO im) (fsO im) lt rw rf ga hi (nI L) (nI R)) := by
  intro q
  induction q with
  | zero => intro k m mw mf hq hk; omega
  | succ q ih =>
  intro k m mw mf hq hk
  obtain ⟨hR, hsd⟩ := lp_R hS (z := (ltV r 0 z k).2)
  refine o_iload dX4_lots_51 rfl ?_
  refine o_iload_n dX4_lots_53 rfl rfl ?_
  refine o_icmp_ge (tgt := 125) dX4_lots_54 (by decide) (fun c_54 => ?_) (fun c_54 => ?_)
  · have hkN : k = n := Nat.le_antisymm hk (geI (by omega) (by omega) c_54)
    subst hkN
    refine o_iload_n dX4_lots_125 rfl rfl ?_
    refine o_if_ne (tgt := 134) dX4_lots_126 (by decide) (fun c_126 => ?_) (fun c_126 => ?_)
    · skip
      refine o_iload dX4_lots_134 rfl ?_
      refine o_iret dX4_lots_136 rfl (vp_nar_int _) (Nat.le_of_ble_eq_true rfl) (Nat.le_of_ble_eq_true rfl) ?_
      exact ⟨by rw [lt_w c_126], _, _, _, rfl⟩
    · skip
      refine o_iload dX4_lots_129 rfl ?_
      refine o_goto (tgt := 136) dX4_lots_131 (by decide) ?_
      refine o_iret dX4_lots_136 rfl (vp_nar_int _) (Nat.le_of_ble_eq_true rfl) (Nat.le_of_ble_eq_true rfl) ?_
      exact ⟨by rw [c_126], _, _, _, rfl⟩
  · have hkN : k < n := ltI (by omega) (by omega) c_54
    refine o_aload_n dX4_lots_57 rfl rfl ?_
    refine o_getf (j := 1) dX4_lots_58 rfl hcX4 inX4 (Nat.le_of_ble_eq_true rfl) wd205 rfl rfl ?_
    refine o_aload_n dX4_lots_61 rfl rfl ?_
    refine o_getf (j := 0) dX4_lots_62 rfl hcX4 inX4 (Nat.le_of_ble_eq_true rfl) wd204 rfl rfl ?_
    refine o_callVd (w2 := xW r (wsO r) (fsO r) r (wsO r) (fsO r) im (wsO im) (fsO im) lt rw rf ga hi (nI L) (nI R)) (is := [14, 15, 16, 17, 18, 19, 20, 21, 22, 23, 24, 25, 2, 3, 4, 5, 6, 7, 8, 9, 10, 11, 12, 13]) (tX3_become) ⟨rfl, rfl⟩ dX4_lots_65 wd273 cvX3_become rfl ⟨(Nat.le_of_ble_eq_true rfl), (Nat.le_of_ble_eq_true rfl)⟩ hcX3 rfl rfl rfl rfl (Nat.le_of_ble_eq_true rfl) (Nat.le_of_ble_eq_true rfl) (Nat.le_of_ble_eq_true rfl) (pb_two (w1 := xW r (wsO r) (fsO r) r (wsO r) (fsO r) im (wsO im) (fsO im) lt rw rf ga hi (nI L) (nI R)) 12 14 2 12 rfl rfl (Nat.le_of_ble_eq_true rfl) rfl rfl rfl (Nat.le_of_ble_eq_true rfl) rfl rfl rfl) ?_
    refine o_aload_n dX4_lots_68 rfl rfl ?_
    refine o_iload dX4_lots_69 rfl ?_
    refine o_callVd (w2 := xW r (wsO r) (fsO r) (lpR r (ltV r 0 z k).2 (nN r)).1 (wsO r) (fsO r) im (wsO im) (fsO im) lt rw rf ga hi (nI L) (nI R)) (is := [0, 1, 2, 3, 4, 5, 6, 7, 8, 9, 10, 11, 12, 13, 14, 15, 16, 17, 18, 19, 20, 21, 22, 23, 24, 25, 26, 27, 28, 29, 30, 31, 32, 33, 34, 35, 36, 37, 38, 39, 40, 41, 42, 43]) (tX4_placeByLot hS) ⟨rfl, rfl⟩ dX4_lots_71 wd654 cvX4_placeByLot rfl ⟨(Nat.le_of_ble_eq_true rfl), (Nat.le_of_ble_eq_true rfl)⟩ hcX4 rfl rfl rfl rfl (Nat.le_of_ble_eq_true rfl) (Nat.le_of_ble_eq_true rfl) (Nat.le_of_ble_eq_true rfl) (pb_seg 0 (Nat.le_of_ble_eq_true rfl) rfl rfl rfl) ?_
    refine o_istg_4 dX4_lots_74 rfl (Nat.le_of_ble_eq_true rfl) ?_
    refine o_aload_n dX4_lots_76 rfl rfl ?_
    refine o_getf (j := 1) dX4_lots_77 rfl hcX4 inX4 (Nat.le_of_ble_eq_true rfl) wd205 rfl rfl ?_
    refine o_bipush dX4_lots_80 bp_8 ?_
    refine o_iconst dX4_lots_82 ic_0 ?_
    refine o_callVd (w2 := xW r (wsO r) (fsO r) (hrs (lpR r (ltV r 0 z k).2 (nN r)).1 8) (wsO r) (fsO r) im (wsO im) (fsO im) lt rw rf ga hi (nI L) (nI R)) (is := [14, 15, 16, 17, 18, 19, 20, 21, 22, 23, 24, 25]) (go8 hS hR hsd) ⟨rfl, rfl⟩ dX4_lots_83 wd424 cvX3_goHours rfl ⟨(Nat.le_of_ble_eq_true rfl), (Nat.le_of_ble_eq_true rfl)⟩ hcX3 rfl rfl rfl rfl (Nat.le_of_ble_eq_true rfl) (Nat.le_of_ble_eq_true rfl) (Nat.le_of_ble_eq_true rfl) (pb_seg 14 (Nat.le_of_ble_eq_true rfl) rfl rfl rfl) ?_
    refine o_pop dX4_lots_86 rfl ?_
    refine o_iload dX4_lots_87 rfl ?_
    refine o_aload_n dX4_lots_89 rfl rfl ?_
    refine o_getf (j := 1) dX4_lots_90 rfl hcX4 inX4 (Nat.le_of_ble_eq_true rfl) wd205 rfl rfl ?_
    refine o_callVr (is := [14, 15, 16, 17, 18, 19, 20, 21, 22, 23, 24, 25]) (hcM hR) ⟨rfl, rfl⟩ dX4_lots_93 wd425 cvX3_homeCount rfl ⟨(Nat.le_of_ble_eq_true rfl), (Nat.le_of_ble_eq_true rfl)⟩ hcX3 rfl rfl rfl rfl (Nat.le_of_ble_eq_true rfl) (Nat.le_of_ble_eq_true rfl) (Nat.le_of_ble_eq_true rfl) ?_
    refine o_iadd dX4_lots_96 ?_
    refine o_istg_5 dX4_lots_97 rfl (Nat.le_of_ble_eq_true rfl) ?_
    refine o_iload dX4_lots_99 rfl ?_
    refine o_aload_n dX4_lots_101 rfl rfl ?_
    refine o_getf (j := 1) dX4_lots_102 rfl hcX4 inX4 (Nat.le_of_ble_eq_true rfl) wd205 rfl rfl ?_
    refine o_getf (j := 6) dX4_lots_105 rfl hcX3 inX3 (Nat.le_of_ble_eq_true rfl) wd155 rfl rfl ?_
    refine o_aload_n dX4_lots_108 rfl rfl ?_
    refine o_getf (j := 0) dX4_lots_109 rfl hcX4 inX4 (Nat.le_of_ble_eq_true rfl) wd204 rfl rfl ?_
    refine o_getf (j := 6) dX4_lots_112 rfl hcX3 inX3 (Nat.le_of_ble_eq_true rfl) wd155 rfl rfl ?_
    refine o_isub dX4_lots_115 ?_
    refine o_iadd dX4_lots_116 ?_
    refine o_istg_6 dX4_lots_117 rfl (Nat.le_of_ble_eq_true rfl) ?_
    refine o_inc_7 dX4_lots_119 rfl ic_1 (Nat.le_of_ble_eq_true rfl) ?_
    refine o_goto (tgt := 51) dX4_lots_122 (by decide) ?_
    exact o_eqa (by rw [nI_1, ltv_0, ltv_1]; rfl) rfl (ih (k + 1) _ _ _ (by omega) (by omega))
theorem tX4_lots {r m mw mf im lt rw rf ga : Nat → Int32} {hi : Int32} {L R : Nat} (hS : SOk r) {x z w : Int32} : PM mX4_lots [.ref 0, .int x, .int z, .int w] (xW r (wsO r) (fsO r) m mw mf im (wsO im) (fsO im) lt rw rf ga hi (nI L) (nI R)) (CP (s_lots x z w (r, im, hi, lt, L, rw, R, rf))) := by
  refine PM.ofp 4 (by decide) (Nat.le_of_ble_eq_true rfl) ?_
  show Ok mX4_lots none 0 [some (.ref 0), some (.int x), some (.int z), some (.int w), none, none, none, none] [] (xW r (wsO r) (fsO r) m mw mf im (wsO im) (fsO im) lt rw rf ga hi (nI L) (nI R)) 0 0 _
  refine o_iload_n dX4_lots_0 rfl rfl ?_
  refine o_iconst dX4_lots_1 ic_1 ?_
  refine o_icmp_ge (tgt := 12) dX4_lots_2 (by decide) (fun c_2 => ?_) (fun c_2 => ?_)
  · have q1 : ¬ x < 1 := Int32.not_lt.mpr c_2
    refine o_iload_n dX4_lots_12 rfl rfl ?_
    refine o_bipush dX4_lots_13 bp_20 ?_
    refine o_icmp_le (tgt := 25) dX4_lots_15 (by decide) (fun c_15 => ?_) (fun c_15 => ?_)
    · have q2 : ¬ nI 20 < x := Int32.not_lt.mpr c_15
      obtain ⟨q, hq1, hq, rfl⟩ := rng1 (b := 20) (by omega) q1 q2
      have eq := cN_nI (d := q) (by omega)
      refine o_iload_n dX4_lots_25 rfl rfl ?_
      refine o_callSr (is := []) (tX4_isHalf) ⟨rfl, rfl⟩ dX4_lots_26 wd443 csX4_isHalf rfl ⟨(Nat.le_of_ble_eq_true rfl), (Nat.le_of_ble_eq_true rfl)⟩ rfl rfl rfl (Nat.le_of_ble_eq_true rfl) (Nat.le_of_ble_eq_true rfl) (Nat.le_of_ble_eq_true rfl) ?_
      refine o_if_ne (tgt := 39) dX4_lots_29 (by decide) (fun c_29 => ?_) (fun c_29 => ?_)
      · have hww : inR 2 w = true := by rw [← isHalf_eq]; exact bI_ne c_29
        refine o_iload_n dX4_lots_39 rfl rfl ?_
        refine o_istg_4 dX4_lots_40 rfl (Nat.le_of_ble_eq_true rfl) ?_
        refine o_iconst dX4_lots_42 ic_0 ?_
        refine o_istg_5 dX4_lots_43 rfl (Nat.le_of_ble_eq_true rfl) ?_
        refine o_iconst dX4_lots_45 ic_0 ?_
        refine o_istg_6 dX4_lots_46 rfl (Nat.le_of_ble_eq_true rfl) ?_
        refine o_iconst dX4_lots_48 ic_0 ?_
        refine o_istg_7 dX4_lots_49 rfl (Nat.le_of_ble_eq_true rfl) ?_
        refine o_post (fun v w2 h => ?_) (o_eqa (by rw [nI_0]; rfl) rfl (lX4_lots (w := w) hS hq (q + 1) 0 _ _ _ (by omega) (by omega)))
        obtain ⟨rfl, m2, mw2, mf2, rfl⟩ := h
        exact CP.mk (by simp only [s_lots, if_neg q1, if_neg (show ¬ 20 < nI q from q2), hww, if_true, eq])
      · have hww : inR 2 w = false := by rw [← isHalf_eq]; exact bI_0.mp c_29
        refine o_aload_n dX4_lots_32 rfl rfl ?_
        refine o_bipush dX4_lots_33 bp_m2 ?_
        refine o_callVd (w2 := xW r (wsO r) (fsO r) m mw mf im (wsO im) (fsO im) lt rw (rfu rf 2) ga hi (nI L) (nI R)) (is := [0, 1, 2, 3, 4, 5, 6, 7, 8, 9, 10, 11, 12, 13, 14, 15, 16, 17, 18, 19, 20, 21, 22, 23, 24, 25, 26, 27, 28, 29, 30, 31, 32, 33, 34, 35, 36, 37, 38, 39, 40, 41, 42, 43]) (tX4_refused (c := 2) rfl (by decide)) ⟨rfl, rfl⟩ dX4_lots_35 wd233 cvX4_refused rfl ⟨(Nat.le_of_ble_eq_true rfl), (Nat.le_of_ble_eq_true rfl)⟩ hcX4 rfl rfl rfl rfl (Nat.le_of_ble_eq_true rfl) (Nat.le_of_ble_eq_true rfl) (Nat.le_of_ble_eq_true rfl) (pb_seg 0 (Nat.le_of_ble_eq_true rfl) rfl rfl rfl) ?_
        refine o_iret dX4_lots_38 rfl (vp_nar_int _) (Nat.le_of_ble_eq_true rfl) (Nat.le_of_ble_eq_true rfl) ?_
        exact CP.mk (by simp only [s_lots, if_neg q1, if_neg (show ¬ 20 < nI q from q2), hww]; rfl)
    · have q2 : nI 20 < x := Int32.not_le.mp c_15
      refine o_aload_n dX4_lots_18 rfl rfl ?_
      refine o_bipush dX4_lots_19 bp_m6 ?_
      refine o_callVd (w2 := xW r (wsO r) (fsO r) m mw mf im (wsO im) (fsO im) lt rw (rfu rf 6) ga hi (nI L) (nI R)) (is := [0, 1, 2, 3, 4, 5, 6, 7, 8, 9, 10, 11, 12, 13, 14, 15, 16, 17, 18, 19, 20, 21, 22, 23, 24, 25, 26, 27, 28, 29, 30, 31, 32, 33, 34, 35, 36, 37, 38, 39, 40, 41, 42, 43]) (tX4_refused (c := 6) rfl (by decide)) ⟨rfl, rfl⟩ dX4_lots_21 wd233 cvX4_refused rfl ⟨(Nat.le_of_ble_eq_true rfl), (Nat.le_of_ble_eq_true rfl)⟩ hcX4 rfl rfl rfl rfl (Nat.le_of_ble_eq_true rfl) (Nat.le_of_ble_eq_true rfl) (Nat.le_of_ble_eq_true rfl) (pb_seg 0 (Nat.le_of_ble_eq_true rfl) rfl rfl rfl) ?_
      refine o_iret dX4_lots_24 rfl (vp_nar_int _) (Nat.le_of_ble_eq_true rfl) (Nat.le_of_ble_eq_true rfl) ?_
      exact CP.mk (by simp only [s_lots, if_neg q1, if_pos (show 20 < x from q2)]; rfl)
  · have q1 : x < 1 := Int32.not_le.mp c_2
    refine o_aload_n dX4_lots_5 rfl rfl ?_
    refine o_bipush dX4_lots_6 bp_m4 ?_
    refine o_callVd (w2 := xW r (wsO r) (fsO r) m mw mf im (wsO im) (fsO im) lt rw (rfu rf 4) ga hi (nI L) (nI R)) (is := [0, 1, 2, 3, 4, 5, 6, 7, 8, 9, 10, 11, 12, 13, 14, 15, 16, 17, 18, 19, 20, 21, 22, 23, 24, 25, 26, 27, 28, 29, 30, 31, 32, 33, 34, 35, 36, 37, 38, 39, 40, 41, 42, 43]) (tX4_refused (c := 4) rfl (by decide)) ⟨rfl, rfl⟩ dX4_lots_8 wd233 cvX4_refused rfl ⟨(Nat.le_of_ble_eq_true rfl), (Nat.le_of_ble_eq_true rfl)⟩ hcX4 rfl rfl rfl rfl (Nat.le_of_ble_eq_true rfl) (Nat.le_of_ble_eq_true rfl) (Nat.le_of_ble_eq_true rfl) (pb_seg 0 (Nat.le_of_ble_eq_true rfl) rfl rfl rfl) ?_
    refine o_iret dX4_lots_11 rfl (vp_nar_int _) (Nat.le_of_ble_eq_true rfl) (Nat.le_of_ble_eq_true rfl) ?_
    exact CP.mk (by simp only [s_lots, if_pos q1]; rfl)
