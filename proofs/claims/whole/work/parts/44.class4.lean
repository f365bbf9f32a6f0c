theorem doorM_on {r : Nat → Int32} {g : Nat → Nat} {D N p : Nat} {h : Int32} (hn : ¬ doorM r g D N p h < 0) : ∃ j, j < D ∧ doorM r g D N p h = nI j ∧ r (7 + 5 * j) = nI (cN (r (50 + 3 * p))) := by
  rcases dfS_cases (t := tM r g N p h) D 0 with ⟨e1, -⟩ | ⟨j, -, hj, ht, e1, -⟩
  · exact absurd (by unfold doorM; rw [e1]; exact m9_neg) hn
  · refine ⟨j, by omega, e1, ?_⟩
    unfold tM onM at ht
    simp only [Bool.and_eq_true, decide_eq_true_eq] at ht
    exact ht.1.2.1.1
theorem hstepM_ge {g : Nat → Nat} {D N : Nat} {r : Nat → Int32} {k p : Nat} (h : k ≤ p) : hstepM g D N r k (50 + 3 * p) = r (50 + 3 * p) := hstepM_ne (by omega) k (fun q hq => by omega)
theorem pstepM_rm {g : Nat → Nat} {D N : Nat} {r : Nat → Int32} {p : Nat} (h : doorM r g D N p (r 2) < 0) (q : Nat) : pstepM g D N r p (50 + 3 * q) = r (50 + 3 * q) := by
  unfold pstepM
  repeat' split
  · rfl
  · rfl
  · rw [upd_ne (by omega)]
theorem pstepM_mv {g : Nat → Nat} {D N h : Nat} {r : Nat → Int32} {p : Nat} (hR : ROk r D N h) (hp : p < N) (hd : ¬ doorM r g D N p (r 2) < 0) : pstepM g D N r p (50 + 3 * p) ≠ r (50 + 3 * p) := by
  have hN := hR.1.1.2.2.2.1
  obtain ⟨j, hj, e1, e2⟩ := doorM_on hd
  have h9 := hR.1.1.2.1
  have hne : ¬ r (50 + 3 * p) = r (51 + 3 * p) := fun e => hd (by rw [doorM_home e]; exact m9_neg)
  unfold pstepM
  rw [if_neg (fun q => by rcases q with q | q; rw [gn_0 hR.2.2.2 (by omega)] at q; exact absurd q (by decide); exact hne q), if_neg hd, upd_ne (by omega), upd_eq, e1, cN_nI (by omega)]
  have e3 : r (50 + 3 * p) = r (7 + 5 * j) := by rw [e2]; exact (hR.1.1.2.2.2.2.1 p hp).1.cN.2
  rw [e3]
  exact fun q => hR.2.1 j hj q.symm
theorem went_N {r fs : Nat → Int32} {g : Nat → Nat} {D N h : Nat} (hR : ROk r D N h) (ho : OnW fs g r D) : ∀ k, k ≤ N → ∃ c, c ≤ k ∧ wentS fs D N false r k = nI c ∧ (c = 0 ↔ ∀ p, p < k → hstepM g D N r k (50 + 3 * p) = r (50 + 3 * p))
  | 0, _ => ⟨0, Nat.le_refl _, rfl, ⟨fun _ p hp => by omega, fun _ => rfl⟩⟩
  | k + 1, hk => by
    obtain ⟨c, h1, h2, h3⟩ := went_N hR ho k (by omega)
    obtain ⟨q1, q2, q3⟩ := hstepPM hR ho k (by omega)
    rw [wentS, q1, doorPM q2 q3 (by omega), h2, hstepM]
    by_cases hd : doorM (hstepM g D N r k) g D N k (hstepM g D N r k 2) < 0
    · rw [if_pos hd]
      refine ⟨c, by omega, rfl, h3.trans ⟨fun q p hp => ?_, fun q p hp => ?_⟩⟩
      · rw [pstepM_rm hd p]
        by_cases e : p = k
        · subst e; exact hstepM_ge (Nat.le_refl _)
        · exact q p (by omega)
      · have := q p (by omega)
        rwa [pstepM_rm hd p] at this
    · rw [if_neg hd, nI_1]
      refine ⟨c + 1, by omega, rfl, ⟨fun q => by omega, fun q => ?_⟩⟩
      have h4 := q k (by omega)
      exact absurd (h4.trans (hstepM_ge (g := g) (D := D) (N := N) (r := r) (Nat.le_refl k)).symm) (pstepM_mv q2 (by omega) hd)
theorem went_1 {r fs : Nat → Int32} {g : Nat → Nat} {D N h : Nat} (hR : ROk r D N h) (ho : OnW fs g r D) : wentC fs D N false r 1 = 0 ↔ ∀ p, p < N → hourM g D N r (50 + 3 * p) = r (50 + 3 * p) := by
  have hN := hR.1.1.2.2.2.1
  have hD := hR.1.1.2.1
  obtain ⟨c, h1, h2, h3⟩ := went_N hR.hour (ho.same (r2 := upd r 2 (r 2 + 1)) (fun d hd => ⟨upd_ne (by omega), upd_ne (by omega)⟩)) N (Nat.le_refl _)
  have e : wentC fs D N false r 1 = nI c := by
    rw [wentC, wentC, hoursC, h2, show (0 : Int32) = nI 0 from rfl, nI_add, Nat.zero_add]
  rw [e]
  have e2 : (nI c = 0) ↔ c = 0 := nI_eq (b := 0) (by omega) (by omega)
  rw [e2, h3]
  unfold hourM
  constructor
  · intro q p hp; rw [q p hp, upd_ne (by omega)]
  · intro q p hp; rw [q p hp, upd_ne (by omega)]
def whN (r : Nat → Int32) : Nat → Nat
  | 0 => 0
  | k + 1 => 8 * whN r k + cN (r (50 + 3 * k))
theorem whN_lt {r : Nat → Int32} : ∀ k, (∀ p, p < k → RmI (r (50 + 3 * p))) → whN r k < 8 ^ k
  | 0, _ => Nat.one_pos
  | k + 1, h => by
    have ih := whN_lt k (fun p hp => h p (by omega))
    have h1 := (h k (by omega)).cN.1
    rw [whN, Nat.pow_succ]
    omega
theorem whS_n {r : Nat → Int32} : ∀ k, k ≤ 6 → (∀ p, p < k → RmI (r (50 + 3 * p))) → whS r k = nI (whN r k)
  | 0, _, _ => rfl
  | k + 1, hk, h => by
    rw [whS, whN, whS_n k (by omega) (fun p hp => h p (by omega)), (h k (by omega)).cN.2, show (8 : Int32) = nI 8 from rfl, pk_mul, nI_add]
    rw [cN_nI (by have := (h k (by omega)).cN.1; omega)]
theorem whN_eq {r r2 : Nat → Int32} : ∀ k, (∀ p, p < k → RmI (r (50 + 3 * p))) → (∀ p, p < k → RmI (r2 (50 + 3 * p))) → (whN r k = whN r2 k ↔ ∀ p, p < k → r (50 + 3 * p) = r2 (50 + 3 * p))
  | 0, _, _ => ⟨fun _ p hp => by omega, fun _ => rfl⟩
  | k + 1, h1, h2 => by
    have ih := whN_eq k (fun p hp => h1 p (by omega)) (fun p hp => h2 p (by omega))
    have q1 := (h1 k (by omega)).cN
    have q2 := (h2 k (by omega)).cN
    rw [whN, whN]
    constructor
    · intro e p hp
      by_cases c : p = k
      · subst c; rw [q1.2, q2.2, show cN (r (50 + 3 * p)) = cN (r2 (50 + 3 * p)) by omega]
      · exact ih.mp (by omega) p (by omega)
    · intro q
      rw [ih.mpr (fun p hp => q p (by omega)), q k (by omega)]
theorem still_eq {r : Nat → Int32} (hS : SOk r) (k : Nat) : wentC (fsO r) (dN r) (nN r) false (hrs r k) 1 = 0 ↔ whS (hrs r (k + 1)) (nN r) = whS (hrs r k) (nN r) := by
  have h6 := hS.n6
  obtain ⟨-, a1, a2⟩ := hoursPM hS.R hS.on k
  obtain ⟨-, b1, -⟩ := hoursPM hS.R hS.on (k + 1)
  have ha : ∀ p, p < nN r → RmI (hrs r k (50 + 3 * p)) := fun p hp => (a1.1.1.2.2.2.2.1 p hp).1
  have hb : ∀ p, p < nN r → RmI (hrs r (k + 1) (50 + 3 * p)) := fun p hp => (b1.1.1.2.2.2.2.1 p hp).1
  have h8 : 8 ^ nN r ≤ 8 ^ 6 := Nat.pow_le_pow_right (by omega) h6
  have l1 := whN_lt (nN r) ha
  have l2 := whN_lt (nN r) hb
  rw [whS_n (nN r) h6 ha, whS_n (nN r) h6 hb, nI_eq (by omega) (by omega), whN_eq (nN r) hb ha]
  exact went_1 a1 a2
theorem stB_iff {r : Nat → Int32} {n : Nat} : ∀ m, stB r n m = true ↔ ∀ i, i < m → whS (hrs r (n + i + 1)) (nN r) = whS (hrs r (n + i)) (nN r)
  | 0 => ⟨fun _ i hi => by omega, fun _ => rfl⟩
  | m + 1 => by
    rw [stB, Bool.and_eq_true, stB_iff m, decide_eq_true_eq]
    constructor
    · intro q i hi
      by_cases e : i = m
      · subst e; exact q.2
      · exact q.1 i (by omega)
    · intro q
      exact ⟨fun i hi => q i (by omega), q m (by omega)⟩
theorem dfS_skip {t : Nat → Bool} : ∀ (c q k : Nat), c ≤ q → (∀ j, k ≤ j → j < k + c → t j = false) → dfS t q k = dfS t (q - c) (k + c)
  | 0, q, k, _, _ => rfl
  | c + 1, 0, k, h, _ => by omega
  | c + 1, q + 1, k, h, hj => by
    rw [dfS, hj k (by omega) (by omega), show q + 1 - (c + 1) = q - c by omega, show k + (c + 1) = k + 1 + c by omega]
    exact dfS_skip c q (k + 1) (by omega) (fun j h1 h2 => hj j (by omega) (by omega))
theorem dfS_skip_to {t : Nat → Bool} {k n : Nat} (h : k ≤ n) (hj : ∀ j, k ≤ j → j < n → t j = false) : dfS t (61 - k) k = dfS t (61 - n) n := by
  by_cases c : n ≤ 61
  · rw [dfS_skip (n - k) (61 - k) k (by omega) (fun j h1 h2 => hj j h1 (by omega)), show 61 - k - (n - k) = 61 - n by omega, show k + (n - k) = n by omega]
  · rw [show 61 - n = 0 by omega]
    exact dfS_none (61 - k) k (fun j h1 h2 => hj j h1 (by omega))
theorem lX4_stuck {r im lt rw rf ga : Nat → Int32} {hi : Int32} {L R : Nat} (hS : SOk r) : ∀ (q k s : Nat), k + q = 72 → s ≤ 11 → s ≤ k → dfS (fun n => stB r n 12) (61 - (k - s)) (k - s) = skF r → (∀ i, i < s → whS (hrs r (k - s + i + 1)) (nN r) = whS (hrs r (k - s + i)) (nN r)) → Ok mX4_stuck none 15 [some (.ref 0), some (.int (nI s)), some (.int (nI (k + 1)))] [] (xW r (wsO r) (fsO r) (hrs r k) (wsO r) (fsO r) im (wsO im) (fsO im) lt rw rf ga hi (nI L) (nI R)) 0 0 (fun a w => a = some (.int (skF r)) ∧ ∃ m2 mw2 mf2, w = xW r (wsO r) (fsO r) m2 mw2 mf2 im (wsO im) (fsO im) lt rw rf ga hi (nI L) (nI R)) := by
  intro q
  induction q with
  | zero =>
    intro k s hk hs hsk hR hz
    have hk : k = 72 := by omega
    subst hk
    refine o_iload_n dX4_stuck_15 rfl rfl ?_
    refine o_bipush dX4_stuck_16 bp_72 ?_
    refine o_icmp_gt (tgt := 58) dX4_stuck_18 (by decide) (fun _ => ?_) (fun c => absurd (by decide) c)
    refine o_bipush dX4_stuck_58 bp_m9 ?_
    refine o_iret dX4_stuck_60 rfl (vp_nar_int _) (Nat.le_of_ble_eq_true rfl) (Nat.le_of_ble_eq_true rfl) ?_
    refine ⟨?_, _, _, _, rfl⟩
    rw [show 61 - (72 - s) = 0 by omega] at hR
    rw [← hR]; rfl
  | succ q ih =>
  intro k s hk hs hsk hR hz
  refine o_iload_n dX4_stuck_15 rfl rfl ?_
  refine o_bipush dX4_stuck_16 bp_72 ?_
  refine o_icmp_gt (tgt := 58) dX4_stuck_18 (by decide) (fun c_18 => ?_) (fun c_18 => ?_)
  · exact absurd ((nI_ltI (a := 72) (by omega) (by omega)).mp c_18) (by omega)
  · skip
    refine o_aload_n dX4_stuck_21 rfl rfl ?_
    refine o_getf (j := 1) dX4_stuck_22 rfl hcX4 inX4 (Nat.le_of_ble_eq_true rfl) wd205 rfl rfl ?_
    refine o_iconst dX4_stuck_25 ic_1 ?_
    refine o_iconst dX4_stuck_26 ic_0 ?_
    refine o_callVd (w2 := xW r (wsO r) (fsO r) (hrs r (k + 1)) (wsO r) (fsO r) im (wsO im) (fsO im) lt rw rf ga hi (nI L) (nI R)) (is := [14, 15, 16, 17, 18, 19, 20, 21, 22, 23, 24, 25]) (goK hS) ⟨rfl, rfl⟩ dX4_stuck_27 wd424 cvX3_goHours rfl ⟨(Nat.le_of_ble_eq_true rfl), (Nat.le_of_ble_eq_true rfl)⟩ hcX3 rfl rfl rfl rfl (Nat.le_of_ble_eq_true rfl) (Nat.le_of_ble_eq_true rfl) (Nat.le_of_ble_eq_true rfl) (pb_seg 14 (Nat.le_of_ble_eq_true rfl) rfl rfl rfl) ?_
    refine o_if_ne (tgt := 39) dX4_stuck_30 (by decide) (fun c_30 => ?_) (fun c_30 => ?_)
    · have hno : ¬ whS (hrs r (k + 1)) (nN r) = whS (hrs r k) (nN r) := fun e => c_30 ((still_eq hS k).mpr e)
      refine o_iconst dX4_stuck_39 ic_0 ?_
      refine o_istn_1 dX4_stuck_40 rfl rfl (Nat.le_of_ble_eq_true rfl) ?_
      refine o_iload_n dX4_stuck_41 rfl rfl ?_
      refine o_bipush dX4_stuck_42 bp_12 ?_
      refine o_icmp_ne (tgt := 52) dX4_stuck_44 (by decide) (fun _ => ?_) (fun cq => absurd cq (by decide))
      refine o_inc_2 dX4_stuck_52 rfl ic_1 (Nat.le_of_ble_eq_true rfl) ?_
      refine o_goto (tgt := 15) dX4_stuck_55 (by decide) ?_
      have hsk2 : ∀ j, k - s ≤ j → j < k + 1 → stB r j 12 = false := fun j h1 h2 => by
        cases hb : stB r j 12 with
        | false => rfl
        | true =>
          have h3 := (stB_iff 12).mp hb (k - j) (by omega)
          rw [show j + (k - j) = k by omega] at h3
          exact absurd h3 hno
      exact o_eqa (by rw [nI_1]; rfl) rfl (ih (k + 1) 0 (by omega) (by omega) (by omega) (by rw [Nat.sub_zero, ← hR]; exact (dfS_skip_to (by omega) hsk2).symm) (fun i hi => by omega))
    · have hyes : whS (hrs r (k + 1)) (nN r) = whS (hrs r k) (nN r) := (still_eq hS k).mp c_30
      have hz2 : ∀ i, i < s + 1 → whS (hrs r (k - s + i + 1)) (nN r) = whS (hrs r (k - s + i)) (nN r) := fun i hi => by
        by_cases e : i = s
        · subst e; rw [show k - i + i = k by omega]; exact hyes
        · exact hz i (by omega)
      refine o_iload_n dX4_stuck_33 rfl rfl ?_
      refine o_iconst dX4_stuck_34 ic_1 ?_
      refine o_iadd dX4_stuck_35 ?_
      refine o_goto (tgt := 40) dX4_stuck_36 (by decide) ?_
      refine o_istn_1 dX4_stuck_40 rfl rfl (Nat.le_of_ble_eq_true rfl) ?_
      refine o_iload_n dX4_stuck_41 rfl rfl ?_
      refine o_bipush dX4_stuck_42 bp_12 ?_
      refine o_icmp_ne (tgt := 52) dX4_stuck_44 (by decide) (fun c_44 => ?_) (fun c_44 => ?_)
      · have hs11 : s + 1 ≠ 12 := fun e => c_44 (by rw [nI_1, e]; rfl)
        refine o_inc_2 dX4_stuck_52 rfl ic_1 (Nat.le_of_ble_eq_true rfl) ?_
        refine o_goto (tgt := 15) dX4_stuck_55 (by decide) ?_
        exact o_eqa (by rw [nI_1, nI_1]) rfl (ih (k + 1) (s + 1) (by omega) (by omega) (by omega) (by rw [show k + 1 - (s + 1) = k - s by omega]; exact hR) (fun i hi => by rw [show k + 1 - (s + 1) = k - s by omega]; exact hz2 i hi))
      · have hs11 : s = 11 := by
          rw [nI_1] at c_44
          have := (nI_eq (a := s + 1) (b := 12) (by omega) (by omega)).mp c_44
          omega
        subst hs11
        refine o_iload_n dX4_stuck_47 rfl rfl ?_
        refine o_bipush dX4_stuck_48 bp_12 ?_
        refine o_isub dX4_stuck_50 ?_
        refine o_iret dX4_stuck_51 rfl (vp_nar_int _) (Nat.le_of_ble_eq_true rfl) (Nat.le_of_ble_eq_true rfl) ?_
        refine ⟨?_, _, _, _, rfl⟩
        have ht : stB r (k - 11) 12 = true := (stB_iff 12).mpr hz2
        have e : 61 - (k - 11) = (60 - (k - 11)) + 1 := by omega
        rw [e, dfS, if_pos ht] at hR
        rw [← hR]
        congr 2
        show nI (k + 1) - 12 = nI (k - 11)
        rw [show k + 1 = (k - 11) + 12 by omega, ← nI_add]
        exact Int32.add_sub_cancel _ _
theorem sk0 {r : Nat → Int32} : dfS (fun n => stB r n 12) (61 - (0 - 0)) (0 - 0) = skF r := by rw [Nat.sub_zero, Nat.sub_zero, skF]
theorem tX4_stuck {r m mw mf im lt rw rf ga : Nat → Int32} {hi : Int32} {L R : Nat} (hS : SOk r) : PM mX4_stuck [.ref 0] (xW r (wsO r) (fsO r) m mw mf im (wsO im) (fsO im) lt rw rf ga hi (nI L) (nI R)) (CP (s_stuck (r, im, hi, lt, L, rw, R, rf))) := by
  refine PM.ofp 2 (by decide) (Nat.le_of_ble_eq_true rfl) ?_
  show Ok mX4_stuck none 0 [some (.ref 0), none, none] [] (xW r (wsO r) (fsO r) m mw mf im (wsO im) (fsO im) lt rw rf ga hi (nI L) (nI R)) 0 0 _
  refine o_aload_n dX4_stuck_0 rfl rfl ?_
  refine o_getf (j := 1) dX4_stuck_1 rfl hcX4 inX4 (Nat.le_of_ble_eq_true rfl) wd205 rfl rfl ?_
  refine o_aload_n dX4_stuck_4 rfl rfl ?_
  refine o_getf (j := 0) dX4_stuck_5 rfl hcX4 inX4 (Nat.le_of_ble_eq_true rfl) wd204 rfl rfl ?_
  refine o_callVd (w2 := xW r (wsO r) (fsO r) r (wsO r) (fsO r) im (wsO im) (fsO im) lt rw rf ga hi (nI L) (nI R)) (is := [14, 15, 16, 17, 18, 19, 20, 21, 22, 23, 24, 25, 2, 3, 4, 5, 6, 7, 8, 9, 10, 11, 12, 13]) (tX3_become) ⟨rfl, rfl⟩ dX4_stuck_8 wd273 cvX3_become rfl ⟨(Nat.le_of_ble_eq_true rfl), (Nat.le_of_ble_eq_true rfl)⟩ hcX3 rfl rfl rfl rfl (Nat.le_of_ble_eq_true rfl) (Nat.le_of_ble_eq_true rfl) (Nat.le_of_ble_eq_true rfl) (pb_two (w1 := xW r (wsO r) (fsO r) r (wsO r) (fsO r) im (wsO im) (fsO im) lt rw rf ga hi (nI L) (nI R)) 12 14 2 12 rfl rfl (Nat.le_of_ble_eq_true rfl) rfl rfl rfl (Nat.le_of_ble_eq_true rfl) rfl rfl rfl) ?_
  refine o_iconst dX4_stuck_11 ic_0 ?_
  refine o_istn_1 dX4_stuck_12 rfl rfl (Nat.le_of_ble_eq_true rfl) ?_
  refine o_iconst dX4_stuck_13 ic_1 ?_
  refine o_istn_2 dX4_stuck_14 rfl rfl (Nat.le_of_ble_eq_true rfl) ?_
  refine o_post (fun a w h => ?_) (o_eqa (by rw [nI_0]; rfl) rfl (lX4_stuck hS 72 0 0 (by omega) (by omega) (by omega) sk0 (fun i hi => by omega)))
  obtain ⟨rfl, m2, mw2, mf2, rfl⟩ := h
  exact CP.mk (by rw [s_stuck])
