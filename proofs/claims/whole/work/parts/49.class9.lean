/-! fires: all doors as wedged for an hour -/
def ciR (r : Nat → Int32) (set : Int32) : Nat → (Nat → Int32)
  | 0 => r
  | k + 1 => hourC (fsO r) (dN r) (nN r) (hasB set (nI k)) (ciR r set k)
def Ef (r : Nat → Int32) (D : Nat) (c m : Nat → Int32) : Prop := (∀ i, (∀ d, d < D → i ≠ 9 + 5 * d) → c i = m i) ∧ ∀ d, d < D → c (9 + 5 * d) = r (9 + 5 * d) ∧ m (9 + 5 * d) = 1
theorem wgR_ne {r m : Nat → Int32} {b : Bool} {i : Nat} : ∀ D, (∀ d, d < D → i ≠ 9 + 5 * d) → wgR r m b D i = m i
  | 0, _ => rfl
  | D + 1, h => by rw [wgR, upd_ne (h D (by omega))]; exact wgR_ne D (fun d hd => h d (by omega))
theorem wgR_at {r m : Nat → Int32} {b : Bool} : ∀ D d, d < D → wgR r m b D (9 + 5 * d) = if b then 1 else r (9 + 5 * d)
  | 0, d, h => by omega
  | D + 1, d, h => by
    rw [wgR]
    by_cases e : d = D
    · subst e; rw [upd_eq]
    · rw [upd_ne (by omega)]; exact wgR_at D d (by omega)
theorem wg_c (D i : Nat) : (∀ d, d < D → i ≠ 9 + 5 * d) ∨ ∃ d, d < D ∧ i = 9 + 5 * d := by
  by_cases h : ∃ d, d < D ∧ i = 9 + 5 * d
  · exact Or.inr h
  · exact Or.inl (fun d hd e => h ⟨d, hd, e⟩)
theorem wg_f {r c m : Nat → Int32} {D : Nat} (h : ∀ i, (∀ d, d < D → i ≠ 9 + 5 * d) → c i = m i) (hw : ∀ d, d < D → c (9 + 5 * d) = r (9 + 5 * d)) : wgR r m false D = c := by
  funext i
  rcases wg_c D i with q | ⟨d, hd, rfl⟩
  · rw [wgR_ne D q, h i q]
  · rw [wgR_at D d hd, hw d hd]; rfl
theorem wg_t {r c m : Nat → Int32} {D : Nat} (h : ∀ i, (∀ d, d < D → i ≠ 9 + 5 * d) → c i = m i) (hw : ∀ d, d < D → c (9 + 5 * d) = r (9 + 5 * d)) : Ef r D c (wgR r m true D) :=
  ⟨fun i q => by rw [wgR_ne D q, h i q], fun d hd => ⟨hw d hd, by rw [wgR_at D d hd]; rfl⟩⟩
theorem Ef.up {r c m : Nat → Int32} {D i : Nat} {v : Int32} (h : Ef r D c m) (hi : ∀ d, d < D → i ≠ 9 + 5 * d) : Ef r D (upd c i v) (upd m i v) := by
  refine ⟨fun k q => ?_, fun d hd => ?_⟩
  · by_cases e : k = i
    · subst e; rw [upd_eq, upd_eq]
    · rw [upd_ne e, upd_ne e]; exact h.1 k q
  · rw [upd_ne (fun e => hi d hd e.symm), upd_ne (fun e => hi d hd e.symm)]; exact h.2 d hd
theorem Ef.door {r c m fs : Nat → Int32} {D N p : Nat} {hr : Int32} (h : Ef r D c m) (hD : D ≤ 9) : doorP c fs D N p hr true = doorP m fs D N p hr false :=
  dfS_congr D 0 (fun d _ hd => by
    unfold tP opC
    rw [h.1 (50 + 3 * p) (fun d hd => by omega), h.1 (51 + 3 * p) (fun d hd => by omega), (h.2 d (by omega)).2, decide_eq_true rfl, Bool.true_or, Bool.true_or, Bool.or_true])
theorem ef_pstep {r c m fs : Nat → Int32} {D N p : Nat} (h : Ef r D c m) (hD : D ≤ 9) : Ef r D (pstep fs D N true c p) (pstep fs D N false m p) := by
  unfold pstep
  rw [h.1 2 (fun d hd => by omega), h.1 3 (fun d hd => by omega), h.door hD, h.1 (50 + 3 * p) (fun d hd => by omega), h.1 (51 + 3 * p) (fun d hd => by omega), h.1 (52 + 3 * p) (fun d hd => by omega)]
  by_cases q : doorP m fs D N p (m 2) false < 0
  · rw [if_pos q, if_pos q]
    by_cases q2 : m (50 + 3 * p) = m (51 + 3 * p)
    · rw [if_pos q2, if_pos q2]; exact h
    · rw [if_neg q2, if_neg q2]; exact h.up (fun d hd => by omega)
  · rw [if_neg q, if_neg q, h.1 (8 + 5 * cN (doorP m fs D N p (m 2) false)) (fun d hd => by omega)]
    exact (h.up (fun d hd => by omega)).up (fun d hd => by omega)
theorem Ef.pstep {r c m fs : Nat → Int32} {D N p : Nat} (h : Ef r D c m) (hD : D ≤ 9) : Ef r D (pstep fs D N true c p) (pstep fs D N false m p) := ef_pstep h hD
theorem Ef.hstep {r c m fs : Nat → Int32} {D N : Nat} (h : Ef r D c m) (hD : D ≤ 9) : ∀ k, Ef r D (hstep fs D N true c k) (hstep fs D N false m k)
  | 0 => h
  | k + 1 => (Ef.hstep h hD k).pstep hD
theorem Ef.R {r c m : Nat → Int32} {D N h : Nat} (e : Ef r D c m) (hR : ROk m D N h) : ROk c D N h := by
  have hD := hR.1.1.2.1
  have g : ∀ i, (∀ d, d < D → i ≠ 9 + 5 * d) → c i = m i := e.1
  refine ⟨⟨⟨by rw [g 0 (fun d hd => by omega)]; exact hR.1.1.1, hD, by rw [g 1 (fun d hd => by omega)]; exact hR.1.1.2.2.1, hR.1.1.2.2.2.1, fun p hp => ?_, fun d hd => ?_⟩, fun d hd => ?_, by rw [g 2 (fun d hd => by omega)]; exact hR.1.2.2⟩, fun d hd => ?_, fun p hp => ?_, by rw [g 4 (fun d hd => by omega)]; exact hR.2.2.2⟩
  · rw [g _ (fun d hd => by omega), g _ (fun d hd => by omega)]; exact hR.1.1.2.2.2.2.1 p hp
  · rw [g _ (fun d hd => by omega), g _ (fun d hd => by omega)]; exact hR.1.1.2.2.2.2.2 d hd
  · rw [g _ (fun d hd => by omega), g _ (fun d hd => by omega)]; exact hR.1.2.1 d hd
  · rw [g _ (fun d hd => by omega), g _ (fun d hd => by omega)]; exact hR.2.1 d hd
  · rw [g _ (fun d hd => by omega)]; exact hR.2.2.1 p hp
theorem wg_R {r c : Nat → Int32} {D N h : Nat} {b : Bool} (hR : ROk c D N h) : ROk (wgR r c b D) D N h := by
  have hD := hR.1.1.2.1
  exact ⟨hR.1.wg D (Nat.le_refl _), fun d hd => by rw [wgR_ne D (fun d hd => by omega), wgR_ne D (fun d hd => by omega)]; exact hR.2.1 d hd, fun p hp => by rw [wgR_ne D (fun d hd => by omega)]; exact hR.2.2.1 p hp, by rw [wgR_ne D (fun d hd => by omega)]; exact hR.2.2.2⟩
theorem fi_ci {r : Nat → Int32} (hS : SOk r) {set : Int32} : ∀ k, ROk (ciR r set k) (dN r) (nN r) (cN (r 2) + k) ∧ (∀ i, (∀ d, d < dN r → i ≠ 9 + 5 * d) → ciR r set k i = fiR r set k i) ∧ (∀ d, d < dN r → ciR r set k (9 + 5 * d) = r (9 + 5 * d)) ∧ ∀ d, d < dN r → ciR r set k (7 + 5 * d) = r (7 + 5 * d) ∧ ciR r set k (8 + 5 * d) = r (8 + 5 * d)
  | 0 => ⟨hS.R, fun i _ => rfl, fun d _ => rfl, fun d _ => ⟨rfl, rfl⟩⟩
  | k + 1 => by
    obtain ⟨hR, h1, h2, h3⟩ := fi_ci hS (set := set) k
    have hD := hS.d9
    have h6 := hS.n6
    have ho : OnW (fsO r) (farOf r) (ciR r set k) (dN r) := hS.on.same h3
    show ROk (hourC (fsO r) (dN r) (nN r) (hasB set (nI k)) (ciR r set k)) _ _ _ ∧ (∀ i, (∀ d, d < dN r → i ≠ 9 + 5 * d) → hourC (fsO r) (dN r) (nN r) (hasB set (nI k)) (ciR r set k) i = hourM (farOf r) (dN r) (nN r) (wgR r (fiR r set k) (hasB set (nI k)) (dN r)) i) ∧ (∀ d, d < dN r → hourC (fsO r) (dN r) (nN r) (hasB set (nI k)) (ciR r set k) (9 + 5 * d) = r (9 + 5 * d)) ∧ ∀ d, d < dN r → hourC (fsO r) (dN r) (nN r) (hasB set (nI k)) (ciR r set k) (7 + 5 * d) = r (7 + 5 * d) ∧ hourC (fsO r) (dN r) (nN r) (hasB set (nI k)) (ciR r set k) (8 + 5 * d) = r (8 + 5 * d)
    cases hasB set (nI k) with
    | false =>
      obtain ⟨g1, g2, g3⟩ := hoursPM hR ho 1
      have e : hourC (fsO r) (dN r) (nN r) false (ciR r set k) = hourM (farOf r) (dN r) (nN r) (ciR r set k) := g1
      have hne : ∀ i, i < 50 → i ≠ 3 → i ≠ 2 → hourM (farOf r) (dN r) (nN r) (ciR r set k) i = ciR r set k i := fun i a1 a2 a3 => hoursM_ne (g := farOf r) (D := dN r) (N := nN r) (r := ciR r set k) a2 a3 (fun p hp => by omega) 1
      rw [e, wg_f h1 h2]
      exact ⟨g2, fun i _ => rfl, fun d hd => by rw [hne _ (by omega) (by omega) (by omega)]; exact h2 d hd, fun d hd => by rw [hne _ (by omega) (by omega) (by omega), hne _ (by omega) (by omega) (by omega)]; exact h3 d hd⟩
    | true =>
      have e0 := wg_t h1 h2
      have ew : wgR r (fiR r set k) true (dN r) = wgR r (ciR r set k) true (dN r) := by
        funext i
        rcases wg_c (dN r) i with q | ⟨d, hd, rfl⟩
        · rw [wgR_ne _ q, wgR_ne _ q, h1 i q]
        · rw [wgR_at _ d hd, wgR_at _ d hd]
      have hRm : ROk (wgR r (fiR r set k) true (dN r)) (dN r) (nN r) (cN (r 2) + k) := by rw [ew]; exact wg_R hR
      have hom : OnW (fsO r) (farOf r) (wgR r (fiR r set k) true (dN r)) (dN r) := ho.same (fun d hd => ⟨by rw [ew, wgR_ne _ (fun d hd => by omega)], by rw [ew, wgR_ne _ (fun d hd => by omega)]⟩)
      obtain ⟨g1, g2, g3⟩ := hoursPM hRm hom 1
      have e : hourC (fsO r) (dN r) (nN r) false (wgR r (fiR r set k) true (dN r)) = hourM (farOf r) (dN r) (nN r) (wgR r (fiR r set k) true (dN r)) := g1
      have e1 : Ef r (dN r) (hourC (fsO r) (dN r) (nN r) true (ciR r set k)) (hourC (fsO r) (dN r) (nN r) false (wgR r (fiR r set k) true (dN r))) := by
        unfold hourC
        rw [e0.1 2 (fun d hd => by omega)]
        exact (e0.up (fun d hd => by omega)).hstep hD (nN r)
      rw [e] at e1
      have hne : ∀ i, i < 50 → i ≠ 3 → i ≠ 2 → hourM (farOf r) (dN r) (nN r) (wgR r (fiR r set k) true (dN r)) i = wgR r (fiR r set k) true (dN r) i := fun i a1 a2 a3 => hoursM_ne (g := farOf r) (D := dN r) (N := nN r) (r := wgR r (fiR r set k) true (dN r)) a2 a3 (fun p hp => by omega) 1
      exact ⟨e1.R g2, fun i q => e1.1 i q, fun d hd => (e1.2 d hd).1, fun d hd => ⟨by rw [e1.1 _ (fun d hd => by omega), hne _ (by omega) (by omega) (by omega), ew, wgR_ne _ (fun d hd => by omega)]; exact (h3 d hd).1, by rw [e1.1 _ (fun d hd => by omega), hne _ (by omega) (by omega) (by omega), ew, wgR_ne _ (fun d hd => by omega)]; exact (h3 d hd).2⟩⟩
def zcN (s : Nat) : Nat → Nat
  | 0 => 0
  | k + 1 => if s.testBit k then zcN s k else zcN s k + 1
theorem zc_le {s : Nat} : ∀ k, zcN s k ≤ k
  | 0 => Nat.le_refl _
  | k + 1 => by
    have := zc_le (s := s) k
    rw [zcN]; split <;> omega
theorem zc_bc : ∀ n, n < 8 → ∀ s, s < 128 → s < 2 ^ n → nI n - bcF (nI s) = nI (zcN s n) := by decide +kernel
theorem fiW_p {t : Int32} {s : Nat} (hs : s < 128) : ∀ k, k ≤ 7 → fiW t (nI s) k = powL (t - 1).toInt64 (zcN s k)
  | 0, _ => rfl
  | k + 1, hk => by
    rw [fiW, fiW_p hs k (by omega), zcN, hasB_nI (by omega) (by omega)]
    by_cases c : s.testBit k = true
    · rw [if_pos c, if_pos c, Int64.mul_one]
    · rw [if_neg c, if_neg c, powL]
theorem fire_pt {r : Nat → Int32} {p T n : Nat} {x w : Int32} (h1 : 2 ≤ T) (h2 : T ≤ 20) (hn : n ≤ 7) (hw : inR 2 w = true) : partS (faS r p x (nI T) n (2 ^ n)) (powL (nI T).toInt64 n) w = partM (faS r p x (nI T) n (2 ^ n)) (powL (nI T).toInt64 n) w := by
  obtain ⟨v, h3, h4⟩ := faS_n (r := r) (p := p) (x := x) (n := n) h1 h2 (2 ^ n)
  have k1 : 2 ^ n * 20 ^ n ≤ 2 ^ 7 * 20 ^ 7 := Nat.mul_le_mul (Nat.pow_le_pow_right (by omega) hn) (Nat.pow_le_pow_right (by omega) hn)
  have k2 : T ^ n ≤ 20 ^ 7 := Nat.le_trans (Nat.pow_le_pow_left h2 n) (Nat.pow_le_pow_right (by omega) hn)
  have k3 : 0 < T ^ n := Nat.pow_pos (by omega)
  have k4 : (2 : Nat) ^ 7 * 20 ^ 7 < 2 ^ 62 := by decide
  have k5 : (20 : Nat) ^ 7 < 2 ^ 40 := by decide
  rw [h4, powL_n h1 h2]
  exact part_eq (by omega) (by omega) k3 hw
theorem p2_7 {n : Nat} (h : n ≤ 7) : 2 ^ n ≤ 128 := by
  have h2 : 2 ^ n ≤ 2 ^ 7 := Nat.pow_le_pow_right (by omega) h
  omega
theorem pow_x {b e : Int32} {E : Nat} (he : e = nI E) (hE : E < 2147483648) : PD mX4_power [.int b, .int e] [] (some (.long (powL b.toInt64 E))) [] := by
  subst he; exact tX4_power hE
theorem goF {r ws : Nat → Int32} {set : Int32} {k : Nat} (hS : SOk r) : PD mX3_goHours [.ref 0, .int 1, .int (bI (hasB set (nI k)))] (tW (ciR r set k) ws (fsO r)) (some (.int (wentC (fsO r) (dN r) (nN r) (hasB set (nI k)) (ciR r set k) 1))) (tW (ciR r set (k + 1)) ws (fsO r)) := tX3_goHours (n := 1) (by omega) (fi_ci hS k).1.1.1
theorem lX4_isInBehindFires {r im lt rw rf ga : Nat → Int32} {hi : Int32} {L R : Nat} (hS : SOk r) {d n s : Nat} {x : Int32} (hd : d < nN r) (hn : n ≤ 7) : ∀ (q k : Nat), n - k < q → k ≤ n → Ok mX4_isInBehindFires none 14 [some (.ref 0), some (.int (nI d)), some (.int x), some (.int (nI n)), some (.int (nI s)), some (.int (nI k))] [] (xW r (wsO r) (fsO r) (ciR r (nI s) k) (wsO r) (fsO r) im (wsO im) (fsO im) lt rw rf ga hi (nI L) (nI R)) 0 0 (fun v w => v = some (.int (bI (decide (fiR r (nI s) n (50 + 3 * d) = x)))) ∧ ∃ m2 mw2 mf2, w = xW r (wsO r) (fsO r) m2 mw2 mf2 im (wsO im) (fsO im) lt rw rf ga hi (nI L) (nI R)) := by
  intro q
  induction q with
  | zero => intro k hq hk; omega
  | succ q ih =>
  intro k hq hk
  have h6 := hS.n6
  have ef := (fi_ci hS (set := nI s) n).2.1 (50 + 3 * d) (fun d hd => by have := hS.d9; omega)
  refine o_iload dX4_isInBehindFires_14 rfl ?_
  refine o_iload_n dX4_isInBehindFires_16 rfl rfl ?_
  refine o_icmp_ge (tgt := 42) dX4_isInBehindFires_17 (by decide) (fun c_17 => ?_) (fun c_17 => ?_)
  · have hkN : k = n := Nat.le_antisymm hk (geI (by omega) (by omega) c_17)
    subst hkN
    refine o_aload_n dX4_isInBehindFires_42 rfl rfl ?_
    refine o_getf (j := 1) dX4_isInBehindFires_43 rfl hcX4 inX4 (Nat.le_of_ble_eq_true rfl) wd205 rfl rfl ?_
    refine o_getf (j := 1) dX4_isInBehindFires_46 rfl hcX3 inX3 (Nat.le_of_ble_eq_true rfl) wd141 rfl rfl ?_
    refine o_iload_n dX4_isInBehindFires_49 rfl rfl ?_
    refine o_callSr (is := [23]) (at_p (b := 50) (s := 3) (n := 7) (by decide) (by omega)) ⟨rfl, rfl⟩ dX4_isInBehindFires_50 wd237 csX4_at rfl ⟨(Nat.le_of_ble_eq_true rfl), (Nat.le_of_ble_eq_true rfl)⟩ rfl rfl rfl (Nat.le_of_ble_eq_true rfl) (Nat.le_of_ble_eq_true rfl) (Nat.le_of_ble_eq_true rfl) ?_
    refine o_iload_n dX4_isInBehindFires_53 rfl rfl ?_
    refine o_icmp_ne (tgt := 61) dX4_isInBehindFires_54 (by decide) (fun c_54 => ?_) (fun c_54 => ?_)
    · rw [ef] at c_54
      refine o_iconst dX4_isInBehindFires_61 ic_0 ?_
      refine o_iret dX4_isInBehindFires_62 rfl (by first | exact nz_b _ | decide) (Nat.le_of_ble_eq_true rfl) (Nat.le_of_ble_eq_true rfl) ?_
      exact ⟨by rw [decide_eq_false c_54]; rfl, _, _, _, rfl⟩
    · rw [ef] at c_54
      refine o_iconst dX4_isInBehindFires_57 ic_1 ?_
      refine o_goto (tgt := 62) dX4_isInBehindFires_58 (by decide) ?_
      refine o_iret dX4_isInBehindFires_62 rfl (by first | exact nz_b _ | decide) (Nat.le_of_ble_eq_true rfl) (Nat.le_of_ble_eq_true rfl) ?_
      exact ⟨by rw [decide_eq_true c_54]; rfl, _, _, _, rfl⟩
  · have hkN : k < n := ltI (by omega) (by omega) c_17
    refine o_aload_n dX4_isInBehindFires_20 rfl rfl ?_
    refine o_getf (j := 1) dX4_isInBehindFires_21 rfl hcX4 inX4 (Nat.le_of_ble_eq_true rfl) wd205 rfl rfl ?_
    refine o_iconst dX4_isInBehindFires_24 ic_1 ?_
    refine o_iload dX4_isInBehindFires_25 rfl ?_
    refine o_iload dX4_isInBehindFires_27 rfl ?_
    refine o_callSr (is := []) (tX4_hasBit) ⟨rfl, rfl⟩ dX4_isInBehindFires_29 wd486 csX4_hasBit rfl ⟨(Nat.le_of_ble_eq_true rfl), (Nat.le_of_ble_eq_true rfl)⟩ rfl rfl rfl (Nat.le_of_ble_eq_true rfl) (Nat.le_of_ble_eq_true rfl) (Nat.le_of_ble_eq_true rfl) ?_
    refine o_callVd (w2 := xW r (wsO r) (fsO r) (ciR r (nI s) (k + 1)) (wsO r) (fsO r) im (wsO im) (fsO im) lt rw rf ga hi (nI L) (nI R)) (is := [14, 15, 16, 17, 18, 19, 20, 21, 22, 23, 24, 25]) (goF hS) ⟨rfl, rfl⟩ dX4_isInBehindFires_32 wd424 cvX3_goHours rfl ⟨(Nat.le_of_ble_eq_true rfl), (Nat.le_of_ble_eq_true rfl)⟩ hcX3 rfl rfl rfl rfl (Nat.le_of_ble_eq_true rfl) (Nat.le_of_ble_eq_true rfl) (Nat.le_of_ble_eq_true rfl) (pb_seg 14 (Nat.le_of_ble_eq_true rfl) rfl rfl rfl) ?_
    refine o_pop dX4_isInBehindFires_35 rfl ?_
    refine o_inc_5 dX4_isInBehindFires_36 rfl ic_1 (Nat.le_of_ble_eq_true rfl) ?_
    refine o_goto (tgt := 14) dX4_isInBehindFires_39 (by decide) ?_
    exact o_eqa (by rw [nI_1]) rfl (ih (k + 1) (by omega) (by omega))
theorem tX4_isInBehindFires {r m mw mf im lt rw rf ga : Nat → Int32} {hi : Int32} {L R : Nat} (hS : SOk r) {d n s : Nat} {x : Int32} (hd : d < nN r) (hn : n ≤ 7) : PM mX4_isInBehindFires [.ref 0, .int (nI d), .int x, .int (nI n), .int (nI s)] (xW r (wsO r) (fsO r) m mw mf im (wsO im) (fsO im) lt rw rf ga hi (nI L) (nI R)) (fun v w => v = some (.int (bI (decide (fiR r (nI s) n (50 + 3 * d) = x)))) ∧ ∃ m2 mw2 mf2, w = xW r (wsO r) (fsO r) m2 mw2 mf2 im (wsO im) (fsO im) lt rw rf ga hi (nI L) (nI R)) := by
  refine PM.ofp 1 (by decide) (Nat.le_of_ble_eq_true rfl) ?_
  show Ok mX4_isInBehindFires none 0 [some (.ref 0), some (.int (nI d)), some (.int x), some (.int (nI n)), some (.int (nI s)), none] [] (xW r (wsO r) (fsO r) m mw mf im (wsO im) (fsO im) lt rw rf ga hi (nI L) (nI R)) 0 0 _
  refine o_aload_n dX4_isInBehindFires_0 rfl rfl ?_
  refine o_getf (j := 1) dX4_isInBehindFires_1 rfl hcX4 inX4 (Nat.le_of_ble_eq_true rfl) wd205 rfl rfl ?_
  refine o_aload_n dX4_isInBehindFires_4 rfl rfl ?_
  refine o_getf (j := 0) dX4_isInBehindFires_5 rfl hcX4 inX4 (Nat.le_of_ble_eq_true rfl) wd204 rfl rfl ?_
  refine o_callVd (w2 := xW r (wsO r) (fsO r) r (wsO r) (fsO r) im (wsO im) (fsO im) lt rw rf ga hi (nI L) (nI R)) (is := [14, 15, 16, 17, 18, 19, 20, 21, 22, 23, 24, 25, 2, 3, 4, 5, 6, 7, 8, 9, 10, 11, 12, 13]) (tX3_become) ⟨rfl, rfl⟩ dX4_isInBehindFires_8 wd273 cvX3_become rfl ⟨(Nat.le_of_ble_eq_true rfl), (Nat.le_of_ble_eq_true rfl)⟩ hcX3 rfl rfl rfl rfl (Nat.le_of_ble_eq_true rfl) (Nat.le_of_ble_eq_true rfl) (Nat.le_of_ble_eq_true rfl) (pb_two (w1 := xW r (wsO r) (fsO r) r (wsO r) (fsO r) im (wsO im) (fsO im) lt rw rf ga hi (nI L) (nI R)) 12 14 2 12 rfl rfl (Nat.le_of_ble_eq_true rfl) rfl rfl rfl (Nat.le_of_ble_eq_true rfl) rfl rfl rfl) ?_
  refine o_iconst dX4_isInBehindFires_11 ic_0 ?_
  refine o_istg_5 dX4_isInBehindFires_12 rfl (Nat.le_of_ble_eq_true rfl) ?_
  exact o_eqa (by rw [nI_0]) rfl (lX4_isInBehindFires hS hd hn (n + 1) 0 (by omega) (by omega))
theorem lX4_fire {r im lt rw rf ga : Nat → Int32} {hi : Int32} {L R : Nat} (hS : SOk r) {d n T : Nat} {x w : Int32} (hd : d < nN r) (hn : n ≤ 7) (h1 : 2 ≤ T) (h2 : T ≤ 20) (hw : inR 2 w = true) : ∀ (q k : Nat) (m mw mf : Nat → Int32), 2 ^ n - k < q → k ≤ 2 ^ n → Ok mX4_fire none 82 [some (.ref 0), some (.int (nI d)), some (.int x), some (.int (nI n)), some (.int (nI T)), some (.int w), some (.long (faS r d x (nI T) n k)), none, some (.int (nI k))] [] (xW r (wsO r) (fsO r) m mw mf im (wsO im) (fsO im) lt rw rf ga hi (nI L) (nI R)) 0 0 (fun v w2 => v = some (.long (partM (faS r d x (nI T) n (2 ^ n)) (powL (nI T).toInt64 n) w)) ∧ ∃ m2 mw2 mf2, w2 = xW r (wsO r) (fsO r) m2 mw2 mf2 im (wsO im) (fsO im) lt rw rf ga hi (nI L) (nI R)) := by
  intro q
  induction q with
  | zero => intro k m mw mf hq hk; omega
  | succ q ih =>
  intro k m mw mf hq hk
  have hp2 := p2_7 hn
  have hzl := zc_le (s := k) n
  refine o_iload dX4_fire_82 rfl ?_
  refine o_iconst dX4_fire_84 ic_1 ?_
  refine o_iload_n dX4_fire_85 rfl rfl ?_
  refine o_ishl dX4_fire_86 ?_
  refine o_eqs (by rw [sh1 hn]) ?_
  refine o_icmp_ge (tgt := 127) dX4_fire_87 (by decide) (fun c_87 => ?_) (fun c_87 => ?_)
  · have hkN : k = 2 ^ n := Nat.le_antisymm hk (geI (by omega) (by omega) c_87)
    rw [hkN]
    refine o_lload dX4_fire_127 rfl ?_
    refine o_iload dX4_fire_129 rfl ?_
    refine o_iload_n dX4_fire_131 rfl rfl ?_
    refine o_callSr (is := []) (tX4_power (by omega)) ⟨rfl, rfl⟩ dX4_fire_132 wd605 csX4_power rfl ⟨(Nat.le_of_ble_eq_true rfl), (Nat.le_of_ble_eq_true rfl)⟩ rfl rfl rfl (Nat.le_of_ble_eq_true rfl) (Nat.le_of_ble_eq_true rfl) (Nat.le_of_ble_eq_true rfl) ?_
    refine o_iload dX4_fire_135 rfl ?_
    refine o_callSr (is := []) (tX4_partOf) ⟨rfl, rfl⟩ dX4_fire_137 wd608 csX4_partOf rfl ⟨(Nat.le_of_ble_eq_true rfl), (Nat.le_of_ble_eq_true rfl)⟩ rfl rfl rfl (Nat.le_of_ble_eq_true rfl) (Nat.le_of_ble_eq_true rfl) (Nat.le_of_ble_eq_true rfl) ?_
    refine o_lret dX4_fire_140 rfl (Nat.le_of_ble_eq_true rfl) (Nat.le_of_ble_eq_true rfl) ?_
    exact ⟨by rw [fire_pt h1 h2 hn hw], _, _, _, rfl⟩
  · have hkN : k < 2 ^ n := ltI (by omega) (by omega) c_87
    refine o_aload_n dX4_fire_90 rfl rfl ?_
    refine o_iload_n dX4_fire_91 rfl rfl ?_
    refine o_iload_n dX4_fire_92 rfl rfl ?_
    refine o_iload_n dX4_fire_93 rfl rfl ?_
    refine o_iload dX4_fire_94 rfl ?_
    refine o_callV (is := [0, 1, 2, 3, 4, 5, 6, 7, 8, 9, 10, 11, 12, 13, 14, 15, 16, 17, 18, 19, 20, 21, 22, 23, 24, 25, 26, 27, 28, 29, 30, 31, 32, 33, 34, 35, 36, 37, 38, 39, 40, 41, 42, 43]) (tX4_isInBehindFires hS hd hn) ⟨rfl, rfl⟩ dX4_fire_96 wd601 cvX4_isInBehindFires rfl ⟨(Nat.le_of_ble_eq_true rfl), (Nat.le_of_ble_eq_true rfl)⟩ hcX4 rfl rfl rfl rfl (Nat.le_of_ble_eq_true rfl) (Nat.le_of_ble_eq_true rfl) (Nat.le_of_ble_eq_true rfl) (fun ra wb hq hqn => ?_)
    obtain ⟨rfl, m2, mw2, mf2, rfl⟩ := hq
    refine o_eqw (w2 := xW r (wsO r) (fsO r) m2 mw2 mf2 im (wsO im) (fsO im) lt rw rf ga hi (nI L) (nI R)) (pb_seg 0 (Nat.le_of_ble_eq_true rfl) rfl rfl rfl) ?_
    refine o_if_eq (tgt := 121) dX4_fire_99 (by decide) (fun c_99 => ?_) (fun c_99 => ?_)
    · skip
      refine o_inc_8 dX4_fire_121 rfl ic_1 (Nat.le_of_ble_eq_true rfl) ?_
      refine o_goto (tgt := 82) dX4_fire_124 (by decide) ?_
      exact o_eqa (by rw [nI_1, faS, if_neg (of_decide_eq_false (bI_0.mp c_99)), Int64.add_zero]) rfl (ih (k + 1) _ _ _ (by omega) (by omega))
    · skip
      refine o_lload dX4_fire_102 rfl ?_
      refine o_iload dX4_fire_104 rfl ?_
      refine o_iconst dX4_fire_106 ic_1 ?_
      refine o_isub dX4_fire_107 ?_
      refine o_iload_n dX4_fire_108 rfl rfl ?_
      refine o_iload dX4_fire_109 rfl ?_
      refine o_callSr (is := []) (tJ6_bitCount_0f7a4) ⟨rfl, rfl⟩ dX4_fire_111 wd513 csJ6_bitCount_0f7a4 rfl ⟨(Nat.le_of_ble_eq_true rfl), (Nat.le_of_ble_eq_true rfl)⟩ rfl rfl rfl (Nat.le_of_ble_eq_true rfl) (Nat.le_of_ble_eq_true rfl) (Nat.le_of_ble_eq_true rfl) ?_
      refine o_isub dX4_fire_114 ?_
      refine o_callSr (is := []) (pow_x (zc_bc n (by omega) k (by omega) hkN) (by omega)) ⟨rfl, rfl⟩ dX4_fire_115 wd605 csX4_power rfl ⟨(Nat.le_of_ble_eq_true rfl), (Nat.le_of_ble_eq_true rfl)⟩ rfl rfl rfl (Nat.le_of_ble_eq_true rfl) (Nat.le_of_ble_eq_true rfl) (Nat.le_of_ble_eq_true rfl) ?_
      refine o_ladd dX4_fire_118 ?_
      refine o_lstg_6 dX4_fire_119 rfl (Nat.le_of_ble_eq_true rfl) ?_
      refine o_inc_8 dX4_fire_121 rfl ic_1 (Nat.le_of_ble_eq_true rfl) ?_
      refine o_goto (tgt := 82) dX4_fire_124 (by decide) ?_
      exact o_eqa (by rw [nI_1, faS, if_pos (of_decide_eq_true (bI_ne c_99)), fiW_p (by omega) n hn]) rfl (ih (k + 1) _ _ _ (by omega) (by omega))
theorem tX4_fire {r m mw mf im lt rw rf ga : Nat → Int32} {hi : Int32} {L R : Nat} (hS : SOk r) {x y n t w : Int32} : PM mX4_fire [.ref 0, .int x, .int y, .int n, .int t, .int w] (xW r (wsO r) (fsO r) m mw mf im (wsO im) (fsO im) lt rw rf ga hi (nI L) (nI R)) (CP (s_fire x y n t w (r, im, hi, lt, L, rw, R, rf))) := by
  refine PM.ofp 3 (by decide) (Nat.le_of_ble_eq_true rfl) ?_
  show Ok mX4_fire none 0 [some (.ref 0), some (.int x), some (.int y), some (.int n), some (.int t), some (.int w), none, none, none] [] (xW r (wsO r) (fsO r) m mw mf im (wsO im) (fsO im) lt rw rf ga hi (nI L) (nI R)) 0 0 _
  refine o_aload_n dX4_fire_0 rfl rfl ?_
  refine o_getf (j := 0) dX4_fire_1 rfl hcX4 inX4 (Nat.le_of_ble_eq_true rfl) wd204 rfl rfl ?_
  refine o_iload_n dX4_fire_4 rfl rfl ?_
  refine o_callVr (is := [2, 3, 4, 5, 6, 7, 8, 9, 10, 11, 12, 13]) (xhas hS) ⟨rfl, rfl⟩ dX4_fire_5 wd384 cvX3_has rfl ⟨(Nat.le_of_ble_eq_true rfl), (Nat.le_of_ble_eq_true rfl)⟩ hcX3 rfl rfl rfl rfl (Nat.le_of_ble_eq_true rfl) (Nat.le_of_ble_eq_true rfl) (Nat.le_of_ble_eq_true rfl) ?_
  refine o_if_eq (tgt := 18) dX4_fire_8 (by decide) (fun c_8 => ?_) (fun c_8 => ?_)
  · have hno := bI_0.mp c_8
    refine o_aload_n dX4_fire_18 rfl rfl ?_
    refine o_iconst dX4_fire_19 ic_m1 ?_
    refine o_callVd (w2 := xW r (wsO r) (fsO r) m mw mf im (wsO im) (fsO im) lt rw (rfu rf 1) ga hi (nI L) (nI R)) (is := [0, 1, 2, 3, 4, 5, 6, 7, 8, 9, 10, 11, 12, 13, 14, 15, 16, 17, 18, 19, 20, 21, 22, 23, 24, 25, 26, 27, 28, 29, 30, 31, 32, 33, 34, 35, 36, 37, 38, 39, 40, 41, 42, 43]) (tX4_refusedLong (c := 1) rfl (by decide)) ⟨rfl, rfl⟩ dX4_fire_20 wd596 cvX4_refusedLong rfl ⟨(Nat.le_of_ble_eq_true rfl), (Nat.le_of_ble_eq_true rfl)⟩ hcX4 rfl rfl rfl rfl (Nat.le_of_ble_eq_true rfl) (Nat.le_of_ble_eq_true rfl) (Nat.le_of_ble_eq_true rfl) (pb_seg 0 (Nat.le_of_ble_eq_true rfl) rfl rfl rfl) ?_
    refine o_lret dX4_fire_23 rfl (Nat.le_of_ble_eq_true rfl) (Nat.le_of_ble_eq_true rfl) ?_
    exact CP.mk (by simp only [s_fire, hno, Bool.false_and]; rfl)
  · obtain ⟨d, hd, rfl⟩ := inR_yes (by have := hS.n6; omega) (bI_ne c_8)
    have h9 := hS.n6
    have hin := inR_nI (D := nN r) (by omega) hd
    have ec := cN_nI (d := d) (by omega)
    refine o_iload_n dX4_fire_11 rfl rfl ?_
    refine o_callSr (is := []) (tX4_isRoom) ⟨rfl, rfl⟩ dX4_fire_12 wd400 csX4_isRoom rfl ⟨(Nat.le_of_ble_eq_true rfl), (Nat.le_of_ble_eq_true rfl)⟩ rfl rfl rfl (Nat.le_of_ble_eq_true rfl) (Nat.le_of_ble_eq_true rfl) (Nat.le_of_ble_eq_true rfl) ?_
    refine o_if_ne (tgt := 24) dX4_fire_15 (by decide) (fun c_15 => ?_) (fun c_15 => ?_)
    · have hy : inR 8 y = true := bI_ne c_15
      refine o_iload_n dX4_fire_24 rfl rfl ?_
      refine o_if_lt (tgt := 34) dX4_fire_25 (by decide) (fun c_25 => ?_) (fun c_25 => ?_)
      · skip
        refine o_aload_n dX4_fire_34 rfl rfl ?_
        refine o_bipush dX4_fire_35 bp_m4 ?_
        refine o_callVd (w2 := xW r (wsO r) (fsO r) m mw mf im (wsO im) (fsO im) lt rw (rfu rf 4) ga hi (nI L) (nI R)) (is := [0, 1, 2, 3, 4, 5, 6, 7, 8, 9, 10, 11, 12, 13, 14, 15, 16, 17, 18, 19, 20, 21, 22, 23, 24, 25, 26, 27, 28, 29, 30, 31, 32, 33, 34, 35, 36, 37, 38, 39, 40, 41, 42, 43]) (tX4_refusedLong (c := 4) rfl (by decide)) ⟨rfl, rfl⟩ dX4_fire_37 wd596 cvX4_refusedLong rfl ⟨(Nat.le_of_ble_eq_true rfl), (Nat.le_of_ble_eq_true rfl)⟩ hcX4 rfl rfl rfl rfl (Nat.le_of_ble_eq_true rfl) (Nat.le_of_ble_eq_true rfl) (Nat.le_of_ble_eq_true rfl) (pb_seg 0 (Nat.le_of_ble_eq_true rfl) rfl rfl rfl) ?_
        refine o_lret dX4_fire_40 rfl (Nat.le_of_ble_eq_true rfl) (Nat.le_of_ble_eq_true rfl) ?_
        exact CP.mk (by simp only [s_fire, hin, hy, Bool.and_self, if_true, c_25, true_or]; rfl)
      · have q1 : ¬ n < 0 := c_25
        refine o_iload dX4_fire_28 rfl ?_
        refine o_iconst dX4_fire_30 ic_2 ?_
        refine o_icmp_ge (tgt := 41) dX4_fire_31 (by decide) (fun c_31 => ?_) (fun c_31 => ?_)
        · have q2 : ¬ t < 2 := Int32.not_lt.mpr c_31
          refine o_iload_n dX4_fire_41 rfl rfl ?_
          refine o_bipush dX4_fire_42 bp_7 ?_
          refine o_icmp_gt (tgt := 54) dX4_fire_44 (by decide) (fun c_44 => ?_) (fun c_44 => ?_)
          · skip
            refine o_aload_n dX4_fire_54 rfl rfl ?_
            refine o_bipush dX4_fire_55 bp_m6 ?_
            refine o_callVd (w2 := xW r (wsO r) (fsO r) m mw mf im (wsO im) (fsO im) lt rw (rfu rf 6) ga hi (nI L) (nI R)) (is := [0, 1, 2, 3, 4, 5, 6, 7, 8, 9, 10, 11, 12, 13, 14, 15, 16, 17, 18, 19, 20, 21, 22, 23, 24, 25, 26, 27, 28, 29, 30, 31, 32, 33, 34, 35, 36, 37, 38, 39, 40, 41, 42, 43]) (tX4_refusedLong (c := 6) rfl (by decide)) ⟨rfl, rfl⟩ dX4_fire_57 wd596 cvX4_refusedLong rfl ⟨(Nat.le_of_ble_eq_true rfl), (Nat.le_of_ble_eq_true rfl)⟩ hcX4 rfl rfl rfl rfl (Nat.le_of_ble_eq_true rfl) (Nat.le_of_ble_eq_true rfl) (Nat.le_of_ble_eq_true rfl) (pb_seg 0 (Nat.le_of_ble_eq_true rfl) rfl rfl rfl) ?_
            refine o_lret dX4_fire_60 rfl (Nat.le_of_ble_eq_true rfl) (Nat.le_of_ble_eq_true rfl) ?_
            exact CP.mk (by simp only [s_fire, hin, hy, Bool.and_self, if_true, q1, q2, or_self, if_false, c_44, true_or]; rfl)
          · skip
            refine o_iload dX4_fire_47 rfl ?_
            refine o_bipush dX4_fire_49 bp_20 ?_
            refine o_icmp_le (tgt := 61) dX4_fire_51 (by decide) (fun c_51 => ?_) (fun c_51 => ?_)
            · have q3 : ¬ 20 < t := Int32.not_lt.mpr c_51
              refine o_iload dX4_fire_61 rfl ?_
              refine o_callSr (is := []) (tX4_isHalf) ⟨rfl, rfl⟩ dX4_fire_63 wd443 csX4_isHalf rfl ⟨(Nat.le_of_ble_eq_true rfl), (Nat.le_of_ble_eq_true rfl)⟩ rfl rfl rfl (Nat.le_of_ble_eq_true rfl) (Nat.le_of_ble_eq_true rfl) (Nat.le_of_ble_eq_true rfl) ?_
              refine o_if_ne (tgt := 76) dX4_fire_66 (by decide) (fun c_66 => ?_) (fun c_66 => ?_)
              · have hww : inR 2 w = true := by rw [← isHalf_eq]; exact bI_ne c_66
                obtain ⟨e, he, rfl⟩ := rng (b := 7) (by omega) c_25 c_44
                obtain ⟨T, hT1, hT2, rfl⟩ := rng1 (b := 20) (by omega) (fun h => absurd (Int32.lt_iff_toInt_lt.mpr (Int.lt_trans (Int32.lt_iff_toInt_lt.mp h) (by decide))) (Int32.not_lt.mpr c_31)) (Int32.not_lt.mpr c_51)
                have hT3 : 2 ≤ T := (nI_leI (a := 2) (by omega) (by omega)).mp c_31
                have ee := cN_nI (d := e) (by omega)
                refine o_lconst dX4_fire_76 lc_0 ?_
                refine o_lstg_6 dX4_fire_77 rfl (Nat.le_of_ble_eq_true rfl) ?_
                refine o_iconst dX4_fire_79 ic_0 ?_
                refine o_istg_8 dX4_fire_80 rfl (Nat.le_of_ble_eq_true rfl) ?_
                refine o_post (fun v w2 h => ?_) (o_eqa (by rw [nI_0]; rfl) rfl (lX4_fire hS hd he hT3 hT2 hww (2 ^ e + 1) 0 _ _ _ (Nat.lt_succ_self _) (Nat.zero_le _)))
                obtain ⟨rfl, m2, mw2, mf2, rfl⟩ := h
                exact CP.mk (by simp only [s_fire, hin, hy, Bool.and_self, if_true, q1, q2, or_self, if_false, c_44, q3, hww, ee, ec])
              · have hww : inR 2 w = false := by rw [← isHalf_eq]; exact bI_0.mp c_66
                refine o_aload_n dX4_fire_69 rfl rfl ?_
                refine o_bipush dX4_fire_70 bp_m2 ?_
                refine o_callVd (w2 := xW r (wsO r) (fsO r) m mw mf im (wsO im) (fsO im) lt rw (rfu rf 2) ga hi (nI L) (nI R)) (is := [0, 1, 2, 3, 4, 5, 6, 7, 8, 9, 10, 11, 12, 13, 14, 15, 16, 17, 18, 19, 20, 21, 22, 23, 24, 25, 26, 27, 28, 29, 30, 31, 32, 33, 34, 35, 36, 37, 38, 39, 40, 41, 42, 43]) (tX4_refusedLong (c := 2) rfl (by decide)) ⟨rfl, rfl⟩ dX4_fire_72 wd596 cvX4_refusedLong rfl ⟨(Nat.le_of_ble_eq_true rfl), (Nat.le_of_ble_eq_true rfl)⟩ hcX4 rfl rfl rfl rfl (Nat.le_of_ble_eq_true rfl) (Nat.le_of_ble_eq_true rfl) (Nat.le_of_ble_eq_true rfl) (pb_seg 0 (Nat.le_of_ble_eq_true rfl) rfl rfl rfl) ?_
                refine o_lret dX4_fire_75 rfl (Nat.le_of_ble_eq_true rfl) (Nat.le_of_ble_eq_true rfl) ?_
                exact CP.mk (by simp only [s_fire, hin, hy, Bool.and_self, if_true, q1, q2, or_self, if_false, c_44, q3, hww]; rfl)
            · have q3 : 20 < t := Int32.not_le.mp c_51
              refine o_aload_n dX4_fire_54 rfl rfl ?_
              refine o_bipush dX4_fire_55 bp_m6 ?_
              refine o_callVd (w2 := xW r (wsO r) (fsO r) m mw mf im (wsO im) (fsO im) lt rw (rfu rf 6) ga hi (nI L) (nI R)) (is := [0, 1, 2, 3, 4, 5, 6, 7, 8, 9, 10, 11, 12, 13, 14, 15, 16, 17, 18, 19, 20, 21, 22, 23, 24, 25, 26, 27, 28, 29, 30, 31, 32, 33, 34, 35, 36, 37, 38, 39, 40, 41, 42, 43]) (tX4_refusedLong (c := 6) rfl (by decide)) ⟨rfl, rfl⟩ dX4_fire_57 wd596 cvX4_refusedLong rfl ⟨(Nat.le_of_ble_eq_true rfl), (Nat.le_of_ble_eq_true rfl)⟩ hcX4 rfl rfl rfl rfl (Nat.le_of_ble_eq_true rfl) (Nat.le_of_ble_eq_true rfl) (Nat.le_of_ble_eq_true rfl) (pb_seg 0 (Nat.le_of_ble_eq_true rfl) rfl rfl rfl) ?_
              refine o_lret dX4_fire_60 rfl (Nat.le_of_ble_eq_true rfl) (Nat.le_of_ble_eq_true rfl) ?_
              exact CP.mk (by simp only [s_fire, hin, hy, Bool.and_self, if_true, q1, q2, or_self, if_false, q3, or_true]; rfl)
        · have q2 : t < 2 := Int32.not_le.mp c_31
          refine o_aload_n dX4_fire_34 rfl rfl ?_
          refine o_bipush dX4_fire_35 bp_m4 ?_
          refine o_callVd (w2 := xW r (wsO r) (fsO r) m mw mf im (wsO im) (fsO im) lt rw (rfu rf 4) ga hi (nI L) (nI R)) (is := [0, 1, 2, 3, 4, 5, 6, 7, 8, 9, 10, 11, 12, 13, 14, 15, 16, 17, 18, 19, 20, 21, 22, 23, 24, 25, 26, 27, 28, 29, 30, 31, 32, 33, 34, 35, 36, 37, 38, 39, 40, 41, 42, 43]) (tX4_refusedLong (c := 4) rfl (by decide)) ⟨rfl, rfl⟩ dX4_fire_37 wd596 cvX4_refusedLong rfl ⟨(Nat.le_of_ble_eq_true rfl), (Nat.le_of_ble_eq_true rfl)⟩ hcX4 rfl rfl rfl rfl (Nat.le_of_ble_eq_true rfl) (Nat.le_of_ble_eq_true rfl) (Nat.le_of_ble_eq_true rfl) (pb_seg 0 (Nat.le_of_ble_eq_true rfl) rfl rfl rfl) ?_
          refine o_lret dX4_fire_40 rfl (Nat.le_of_ble_eq_true rfl) (Nat.le_of_ble_eq_true rfl) ?_
          exact CP.mk (by simp only [s_fire, hin, hy, Bool.and_self, if_true, q2, or_true]; rfl)
    · have hy : inR 8 y = false := bI_0.mp c_15
      refine o_aload_n dX4_fire_18 rfl rfl ?_
      refine o_iconst dX4_fire_19 ic_m1 ?_
      refine o_callVd (w2 := xW r (wsO r) (fsO r) m mw mf im (wsO im) (fsO im) lt rw (rfu rf 1) ga hi (nI L) (nI R)) (is := [0, 1, 2, 3, 4, 5, 6, 7, 8, 9, 10, 11, 12, 13, 14, 15, 16, 17, 18, 19, 20, 21, 22, 23, 24, 25, 26, 27, 28, 29, 30, 31, 32, 33, 34, 35, 36, 37, 38, 39, 40, 41, 42, 43]) (tX4_refusedLong (c := 1) rfl (by decide)) ⟨rfl, rfl⟩ dX4_fire_20 wd596 cvX4_refusedLong rfl ⟨(Nat.le_of_ble_eq_true rfl), (Nat.le_of_ble_eq_true rfl)⟩ hcX4 rfl rfl rfl rfl (Nat.le_of_ble_eq_true rfl) (Nat.le_of_ble_eq_true rfl) (Nat.le_of_ble_eq_true rfl) (pb_seg 0 (Nat.le_of_ble_eq_true rfl) rfl rfl rfl) ?_
      refine o_lret dX4_fire_23 rfl (Nat.le_of_ble_eq_true rfl) (Nat.le_of_ble_eq_true rfl) ?_
      exact CP.mk (by simp only [s_fire, hy, Bool.and_false]; rfl)
