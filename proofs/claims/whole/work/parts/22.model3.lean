def onM (r : Nat → Int32) (g : Nat → Nat) (d a b : Nat) : Bool := decide (r (7 + 5 * d) = nI a) && decide (g (8 * a + b) < 99) && decide (g (8 * fB r d + b) + 1 = g (8 * a + b))
theorem sub1 {x y : Nat} (hx : x ≤ 99) (hy : y ≤ 99) : (nI x = nI y - 1) ↔ x + 1 = y := by
  cases y with
  | zero =>
    constructor
    · intro h
      have h2 : (nI x).toInt = (nI 0 - 1).toInt := by rw [h]
      rw [nI_toInt (by omega)] at h2
      have z : (nI 0 - 1).toInt = -1 := by decide
      omega
    · intro h; omega
  | succ y => rw [nI_pred, nI_eq (by omega) (by omega)]; omega
def tM (r : Nat → Int32) (g : Nat → Nat) (N p : Nat) (h : Int32) : Nat → Bool := fun d => !decide (r (50 + 3 * p) = r (51 + 3 * p)) && onM r g d (cN (r (50 + 3 * p))) (cN (r (51 + 3 * p))) && opM r N d (nI p) h
def doorM (r : Nat → Int32) (g : Nat → Nat) (D N p : Nat) (h : Int32) : Int32 := dfS (tM r g N p h) D 0
def pstepM (g : Nat → Nat) (D N : Nat) (r : Nat → Int32) (p : Nat) : Nat → Int32 :=
  if gn r p = true ∨ r (50 + 3 * p) = r (51 + 3 * p) then r else
  if doorM r g D N p (r 2) < 0 then (if r (52 + 3 * p) ≤ 0 then r else upd r (52 + 3 * p) (r (52 + 3 * p) - 1))
  else upd (upd r (50 + 3 * p) (r (8 + 5 * cN (doorM r g D N p (r 2))))) 3 (leastF 9999 (r 3 + 1))
def hstepM (g : Nat → Nat) (D N : Nat) (r : Nat → Int32) : Nat → (Nat → Int32)
  | 0 => r
  | k + 1 => pstepM g D N (hstepM g D N r k) k
def hourM (g : Nat → Nat) (D N : Nat) (r : Nat → Int32) : Nat → Int32 := hstepM g D N (upd r 2 (r 2 + 1)) N
def hoursM (g : Nat → Nat) (D N : Nat) (r : Nat → Int32) : Nat → (Nat → Int32)
  | 0 => r
  | k + 1 => hourM g D N (hoursM g D N r k)
theorem doorM_yes {r : Nat → Int32} {g : Nat → Nat} {D N p : Nat} {h : Int32} (hn : ¬ doorM r g D N p h < 0) : ∃ j, j < D ∧ doorM r g D N p h = nI j := by
  rcases dfS_cases (t := tM r g N p h) D 0 with ⟨e1, -⟩ | ⟨j, -, hj, -, e1, -⟩
  · exact absurd (by unfold doorM; rw [e1]; exact m9_neg) hn
  · exact ⟨j, by omega, e1⟩
/-- what the model's row must be: rooms, kinds, figures, an hour -/
def MOk (r : Nat → Int32) (D N h : Nat) : Prop := TOk r D N ∧ (∀ d, d < D → KdI (r (5 + 5 * d)) ∧ FgI (r (6 + 5 * d))) ∧ r 2 = nI h
theorem MOk.hour {r : Nat → Int32} {D N h : Nat} (hM : MOk r D N h) : MOk (upd r 2 (r 2 + 1)) D N (h + 1) := ⟨hM.1.hour, fun d hd => by rw [upd_ne (by omega), upd_ne (by omega)]; exact hM.2.1 d hd, by rw [upd_eq, hM.2.2, nI_1]⟩
theorem MOk.pstep {r : Nat → Int32} {g : Nat → Nat} {D N h p : Nat} (hM : MOk r D N h) (hp : p < N) : MOk (pstepM g D N r p) D N h := by
  have hN := hM.1.2.2.2.1
  have hD := hM.1.2.1
  unfold pstepM
  split
  · exact hM
  · split
    · split
      · exact hM
      · exact ⟨hM.1.same (upd_ne (by omega)) (upd_ne (by omega)) (fun q hq => ⟨by rw [upd_ne (by omega)]; exact (hM.1.2.2.2.2.1 q hq).1, upd_ne (by omega)⟩) (fun d hd => ⟨upd_ne (by omega), upd_ne (by omega)⟩), fun d hd => by rw [upd_ne (by omega), upd_ne (by omega)]; exact hM.2.1 d hd, by rw [upd_ne (by omega)]; exact hM.2.2⟩
    · rename_i hneg
      refine ⟨hM.1.same (by rw [upd_ne (by omega), upd_ne (by omega)]) (by rw [upd_ne (by omega), upd_ne (by omega)]) (fun q hq => ⟨?_, by rw [upd_ne (by omega), upd_ne (by omega)]⟩) (fun d hd => ⟨by rw [upd_ne (by omega), upd_ne (by omega)], by rw [upd_ne (by omega), upd_ne (by omega)]⟩), fun d hd => by rw [upd_ne (by omega), upd_ne (by omega), upd_ne (by omega), upd_ne (by omega)]; exact hM.2.1 d hd, by rw [upd_ne (by omega), upd_ne (by omega)]; exact hM.2.2⟩
      rw [upd_ne (by omega)]
      by_cases e : q = p
      · subst e
        rw [upd_eq]
        obtain ⟨j, hj, e1⟩ := doorM_yes hneg
        have e2 : cN (nI j) = j := nI_clamp (by omega)
        rw [e1, e2]
        exact (hM.1.2.2.2.2.2 j hj).2
      · rw [upd_ne (by omega)]
        exact (hM.1.2.2.2.2.1 q hq).1
theorem MOk.hstep {r : Nat → Int32} {g : Nat → Nat} {D N h : Nat} (hM : MOk r D N h) : ∀ k, k ≤ N → MOk (hstepM g D N r k) D N h
  | 0, _ => hM
  | k + 1, hk => (MOk.hstep hM k (by omega)).pstep (by omega)
theorem MOk.hours {r : Nat → Int32} {g : Nat → Nat} {D N h : Nat} (hM : MOk r D N h) : ∀ k, MOk (hoursM g D N r k) D N (h + k)
  | 0 => hM
  | k + 1 => (MOk.hours hM k).hour.hstep N (Nat.le_refl N)
theorem tX5_isOnWay_s {m im wa lt rw rf nu : Nat → Int32} {hi lm rn pl sd : Int32}{r : Nat → Int32} {g : Nat → Nat} {D N d a b : Nat} (hg : ∀ i, g i ≤ 99) (hT : TOk r D N) (hd : d < D) (ha : a < 8) (hb : b < 8) : PD mX5_isOnWay [.ref 0, .ref 1, .int (nI d), .int (nI a), .int (nI b)] (mW r m im wa (nF g) hi lt rw rf lm rn pl nu sd) (some (.int (bI (onM r g d a b)))) (mW r m im wa (nF g) hi lt rw rf lm rn pl nu sd) := by
  refine PM.ofp 0 (by decide) (Nat.le_of_ble_eq_true rfl) ?_
  show Ok mX5_isOnWay none 0 [some (.ref 0), some (.ref 1), some (.int (nI d)), some (.int (nI a)), some (.int (nI b))] [] (mW r m im wa (nF g) hi lt rw rf lm rn pl nu sd) 0 0 _
  have hD9 := hT.2.1
  have qb := (hT.2.2.2.2.2 d hd).2.cN
  have lb : fB r d < 8 := qb.1
  have g1 := hg (8 * a + b)
  have g2 := hg (8 * fB r d + b)
  refine o_aload_n dX5_isOnWay_0 rfl rfl ?_
  refine o_iload_n dX5_isOnWay_1 rfl rfl ?_
  refine o_iconst dX5_isOnWay_2 ic_2 ?_
  refine o_callSr (is := []) (ofD2) ⟨rfl, rfl⟩ dX5_isOnWay_3 wd777 csX5_ofD rfl ⟨(Nat.le_of_ble_eq_true rfl), (Nat.le_of_ble_eq_true rfl)⟩ rfl rfl rfl (Nat.le_of_ble_eq_true rfl) (Nat.le_of_ble_eq_true rfl) (Nat.le_of_ble_eq_true rfl) ?_
  refine o_ialp (i := 7 + 5 * d) dX5_isOnWay_6 rfl (rfl) (by omega) ?_
  refine o_iload_n dX5_isOnWay_7 rfl rfl ?_
  refine o_icmp_ne (tgt := 52) dX5_isOnWay_8 (by decide) (fun c_8 => ?_) (fun c_8 => ?_)
  · skip
    refine o_iconst dX5_isOnWay_52 ic_0 ?_
    refine o_iret dX5_isOnWay_53 rfl (by first | exact nz_b _ | decide) (Nat.le_of_ble_eq_true rfl) (Nat.le_of_ble_eq_true rfl) ?_
    exact ⟨by simp [onM, bI, c_8], rfl⟩
  · skip
    refine o_aload_n dX5_isOnWay_11 rfl rfl ?_
    refine o_iload_n dX5_isOnWay_12 rfl rfl ?_
    refine o_iload dX5_isOnWay_13 rfl ?_
    refine o_callVr (is := [0, 1, 2, 3, 4, 5, 6, 7, 8, 9]) (tX5_wayOf ha hb) ⟨rfl, rfl⟩ dX5_isOnWay_15 wd823 cvX5_wayOf rfl ⟨(Nat.le_of_ble_eq_true rfl), (Nat.le_of_ble_eq_true rfl)⟩ hcX5 rfl rfl rfl rfl (Nat.le_of_ble_eq_true rfl) (Nat.le_of_ble_eq_true rfl) (Nat.le_of_ble_eq_true rfl) ?_
    refine o_bipush dX5_isOnWay_18 bp_99 ?_
    refine o_icmp_ge (tgt := 52) dX5_isOnWay_20 (by decide) (fun c_20 => ?_) (fun c_20 => ?_)
    · have hq : ¬ g (8 * a + b) < 99 := Nat.not_lt.mpr (geI (b := 99) (by omega) (by omega) c_20)
      refine o_iconst dX5_isOnWay_52 ic_0 ?_
      refine o_iret dX5_isOnWay_53 rfl (by first | exact nz_b _ | decide) (Nat.le_of_ble_eq_true rfl) (Nat.le_of_ble_eq_true rfl) ?_
      exact ⟨by simp [onM, bI, hq], rfl⟩
    · have hq : g (8 * a + b) < 99 := ltI (b := 99) (by omega) (by omega) c_20
      refine o_aload_n dX5_isOnWay_23 rfl rfl ?_
      refine o_aload_n dX5_isOnWay_24 rfl rfl ?_
      refine o_iload_n dX5_isOnWay_25 rfl rfl ?_
      refine o_iconst dX5_isOnWay_26 ic_3 ?_
      refine o_callSr (is := []) (ofD3) ⟨rfl, rfl⟩ dX5_isOnWay_27 wd777 csX5_ofD rfl ⟨(Nat.le_of_ble_eq_true rfl), (Nat.le_of_ble_eq_true rfl)⟩ rfl rfl rfl (Nat.le_of_ble_eq_true rfl) (Nat.le_of_ble_eq_true rfl) (Nat.le_of_ble_eq_true rfl) ?_
      refine o_ialp (i := 8 + 5 * d) dX5_isOnWay_30 rfl (rfl) (by omega) ?_
      refine o_eqs (by rw [show r (8 + 5 * d) = nI (fB r d) from qb.2]) ?_
      refine o_iload dX5_isOnWay_31 rfl ?_
      refine o_callVr (is := [0, 1, 2, 3, 4, 5, 6, 7, 8, 9]) (tX5_wayOf lb hb) ⟨rfl, rfl⟩ dX5_isOnWay_33 wd823 cvX5_wayOf rfl ⟨(Nat.le_of_ble_eq_true rfl), (Nat.le_of_ble_eq_true rfl)⟩ hcX5 rfl rfl rfl rfl (Nat.le_of_ble_eq_true rfl) (Nat.le_of_ble_eq_true rfl) (Nat.le_of_ble_eq_true rfl) ?_
      refine o_aload_n dX5_isOnWay_36 rfl rfl ?_
      refine o_iload_n dX5_isOnWay_37 rfl rfl ?_
      refine o_iload dX5_isOnWay_38 rfl ?_
      refine o_callVr (is := [0, 1, 2, 3, 4, 5, 6, 7, 8, 9]) (tX5_wayOf ha hb) ⟨rfl, rfl⟩ dX5_isOnWay_40 wd823 cvX5_wayOf rfl ⟨(Nat.le_of_ble_eq_true rfl), (Nat.le_of_ble_eq_true rfl)⟩ hcX5 rfl rfl rfl rfl (Nat.le_of_ble_eq_true rfl) (Nat.le_of_ble_eq_true rfl) (Nat.le_of_ble_eq_true rfl) ?_
      refine o_iconst dX5_isOnWay_43 ic_1 ?_
      refine o_isub dX5_isOnWay_44 ?_
      refine o_icmp_ne (tgt := 52) dX5_isOnWay_45 (by decide) (fun c_45 => ?_) (fun c_45 => ?_)
      · have hs : ¬ g (8 * fB r d + b) + 1 = g (8 * a + b) := fun q => c_45 ((sub1 g2 g1).mpr q)
        refine o_iconst dX5_isOnWay_52 ic_0 ?_
        refine o_iret dX5_isOnWay_53 rfl (by first | exact nz_b _ | decide) (Nat.le_of_ble_eq_true rfl) (Nat.le_of_ble_eq_true rfl) ?_
        exact ⟨by simp [onM, bI, hs], rfl⟩
      · have hs : g (8 * fB r d + b) + 1 = g (8 * a + b) := (sub1 g2 g1).mp c_45
        refine o_iconst dX5_isOnWay_48 ic_1 ?_
        refine o_goto (tgt := 53) dX5_isOnWay_49 (by decide) ?_
        refine o_iret dX5_isOnWay_53 rfl (by first | exact nz_b _ | decide) (Nat.le_of_ble_eq_true rfl) (Nat.le_of_ble_eq_true rfl) ?_
        exact ⟨by simp [onM, bI, c_8, hq, hs], rfl⟩
theorem lX5_doorOf_s {m im wa lt rw rf nu : Nat → Int32} {hi lm rn pl sd : Int32}{r : Nat → Int32} {g : Nat → Nat} {D N p h : Nat} {R : Int32} (hg : ∀ i, g i ≤ 99) (hM : MOk r D N h) (hp : p < N) {h2 : Nat} (hh : h2 < 2147483648) : ∀ (q k : Nat), k + q = D → dfS (tM r g N p (nI h2)) q k = R → Ok mX5_doorOf none 21 [some (.ref 0), some (.ref 1), some (.int (nI p)), some (.int (nI h2)), some (.int (nI (cN (r (50 + 3 * p))))), some (.int (nI (cN (r (51 + 3 * p))))), some (.int (nI k))] [] (mW r m im wa (nF g) hi lt rw rf lm rn pl nu sd) 0 0 (fun r2 w2 => r2 = some (.int R) ∧ w2 = mW r m im wa (nF g) hi lt rw rf lm rn pl nu sd) := by
  have hT := hM.1
  have hD9 := hT.2.1
  have hN7 := hT.2.2.2.1
  have qa := (hT.2.2.2.2.1 p hp).1.cN
  have qb := (hT.2.2.2.2.1 p hp).2.cN
  have eab : (nI (cN (r (50 + 3 * p))) = nI (cN (r (51 + 3 * p)))) ↔ r (50 + 3 * p) = r (51 + 3 * p) := by rw [← qa.2, ← qb.2]
  intro q
  induction q with
  | zero =>
    intro k hk hR
    have hk : k = D := by omega
    subst hk
    refine o_iload dX5_doorOf_21 rfl ?_
    refine o_aload_n dX5_doorOf_23 rfl rfl ?_
    refine o_iconst dX5_doorOf_24 ic_0 ?_
    refine o_ialp (i := 0) dX5_doorOf_25 rfl (rfl) (by decide) ?_
    refine o_icmp_ge (tgt := 70) dX5_doorOf_26 (by decide) (fun _ => ?_) (fun c => absurd (by rw [hT.1]; exact Int32.le_refl _) c)
    refine o_bipush dX5_doorOf_70 bp_m9 ?_
    refine o_iret dX5_doorOf_72 rfl (vp_nar_int _) (Nat.le_of_ble_eq_true rfl) (Nat.le_of_ble_eq_true rfl) ?_
    exact ⟨by rw [← hR]; rfl, rfl⟩
  | succ q ih =>
  intro k hk hR
  have hkd : k < D := by omega
  refine o_iload dX5_doorOf_21 rfl ?_
  refine o_aload_n dX5_doorOf_23 rfl rfl ?_
  refine o_iconst dX5_doorOf_24 ic_0 ?_
  refine o_ialp (i := 0) dX5_doorOf_25 rfl (rfl) (by decide) ?_
  refine o_icmp_ge (tgt := 70) dX5_doorOf_26 (by decide) (fun c_26 => ?_) (fun c_26 => ?_)
  · rw [hT.1] at c_26
    exact absurd (geI (by omega) (by omega) c_26) (by omega)
  · skip
    refine o_iload dX5_doorOf_29 rfl ?_
    refine o_iload dX5_doorOf_31 rfl ?_
    refine o_icmp_eq (tgt := 64) dX5_doorOf_33 (by decide) (fun c_33 => ?_) (fun c_33 => ?_)
    · have et : tM r g N p (nI h2) k = false := by unfold tM; rw [decide_eq_true (eab.mp c_33)]; rfl
      refine o_inc_6 dX5_doorOf_64 rfl ic_1 (Nat.le_of_ble_eq_true rfl) ?_
      refine o_goto (tgt := 21) dX5_doorOf_67 (by decide) ?_
      exact o_eqa (by rw [nI_1]) rfl (ih (k + 1) (by omega) (by rw [← hR, dfS, et]; rfl))
    · have hne : ¬ r (50 + 3 * p) = r (51 + 3 * p) := fun q => c_33 (eab.mpr q)
      refine o_aload_n dX5_doorOf_36 rfl rfl ?_
      refine o_aload_n dX5_doorOf_37 rfl rfl ?_
      refine o_iload dX5_doorOf_38 rfl ?_
      refine o_iload dX5_doorOf_40 rfl ?_
      refine o_iload dX5_doorOf_42 rfl ?_
      refine o_callVr (is := [0, 1, 2, 3, 4, 5, 6, 7, 8, 9]) (tX5_isOnWay_s hg hT hkd qa.1 qb.1) ⟨rfl, rfl⟩ dX5_doorOf_44 wd819 cvX5_isOnWay rfl ⟨(Nat.le_of_ble_eq_true rfl), (Nat.le_of_ble_eq_true rfl)⟩ hcX5 rfl rfl rfl rfl (Nat.le_of_ble_eq_true rfl) (Nat.le_of_ble_eq_true rfl) (Nat.le_of_ble_eq_true rfl) ?_
      refine o_if_eq (tgt := 64) dX5_doorOf_47 (by decide) (fun c_47 => ?_) (fun c_47 => ?_)
      · have et : tM r g N p (nI h2) k = false := by unfold tM; rw [bI_0.mp c_47]; simp
        refine o_inc_6 dX5_doorOf_64 rfl ic_1 (Nat.le_of_ble_eq_true rfl) ?_
        refine o_goto (tgt := 21) dX5_doorOf_67 (by decide) ?_
        exact o_eqa (by rw [nI_1]) rfl (ih (k + 1) (by omega) (by rw [← hR, dfS, et]; rfl))
      · skip
        refine o_aload_n dX5_doorOf_50 rfl rfl ?_
        refine o_iload dX5_doorOf_51 rfl ?_
        refine o_iload_n dX5_doorOf_53 rfl rfl ?_
        refine o_iload_n dX5_doorOf_54 rfl rfl ?_
        refine o_callSr (is := [1]) (tX5_opens hT.2.2.2.1 hT.2.2.1 (by omega) (hM.2.1 k hkd).1 (hM.2.1 k hkd).2 hh) ⟨rfl, rfl⟩ dX5_doorOf_55 wd827 csX5_opens rfl ⟨(Nat.le_of_ble_eq_true rfl), (Nat.le_of_ble_eq_true rfl)⟩ rfl rfl rfl (Nat.le_of_ble_eq_true rfl) (Nat.le_of_ble_eq_true rfl) (Nat.le_of_ble_eq_true rfl) ?_
        refine o_if_eq (tgt := 64) dX5_doorOf_58 (by decide) (fun c_58 => ?_) (fun c_58 => ?_)
        · have et : tM r g N p (nI h2) k = false := by unfold tM; rw [bI_0.mp c_58]; simp
          refine o_inc_6 dX5_doorOf_64 rfl ic_1 (Nat.le_of_ble_eq_true rfl) ?_
          refine o_goto (tgt := 21) dX5_doorOf_67 (by decide) ?_
          exact o_eqa (by rw [nI_1]) rfl (ih (k + 1) (by omega) (by rw [← hR, dfS, et]; rfl))
        · have et : tM r g N p (nI h2) k = true := by unfold tM; rw [bI_ne c_47, bI_ne c_58]; simp [hne]
          refine o_iload dX5_doorOf_61 rfl ?_
          refine o_iret dX5_doorOf_63 rfl (vp_nar_int _) (Nat.le_of_ble_eq_true rfl) (Nat.le_of_ble_eq_true rfl) ?_
          exact ⟨by rw [← hR, dfS, if_pos et], rfl⟩
theorem tX5_doorOf_s {m im wa lt rw rf nu : Nat → Int32} {hi lm rn pl sd : Int32}{r : Nat → Int32} {g : Nat → Nat} {D N p h h2 : Nat} (hg : ∀ i, g i ≤ 99) (hM : MOk r D N h) (hp : p < N) (hh : h2 < 2147483648) : PD mX5_doorOf [.ref 0, .ref 1, .int (nI p), .int (nI h2)] (mW r m im wa (nF g) hi lt rw rf lm rn pl nu sd) (some (.int (doorM r g D N p (nI h2)))) (mW r m im wa (nF g) hi lt rw rf lm rn pl nu sd) := by
  refine PM.ofp 3 (by decide) (Nat.le_of_ble_eq_true rfl) ?_
  show Ok mX5_doorOf none 0 [some (.ref 0), some (.ref 1), some (.int (nI p)), some (.int (nI h2)), none, none, none] [] (mW r m im wa (nF g) hi lt rw rf lm rn pl nu sd) 0 0 _
  have hT := hM.1
  have hN7 := hT.2.2.2.1
  have qa := (hT.2.2.2.2.1 p hp).1.cN
  have qb := (hT.2.2.2.2.1 p hp).2.cN
  refine o_aload_n dX5_doorOf_0 rfl rfl ?_
  refine o_iload_n dX5_doorOf_1 rfl rfl ?_
  refine o_iconst dX5_doorOf_2 ic_0 ?_
  refine o_callSr (is := []) (ofP0) ⟨rfl, rfl⟩ dX5_doorOf_3 wd783 csX5_ofP rfl ⟨(Nat.le_of_ble_eq_true rfl), (Nat.le_of_ble_eq_true rfl)⟩ rfl rfl rfl (Nat.le_of_ble_eq_true rfl) (Nat.le_of_ble_eq_true rfl) (Nat.le_of_ble_eq_true rfl) ?_
  refine o_ialp (i := 50 + 3 * p) dX5_doorOf_6 rfl (rfl) (by omega) ?_
  refine o_eqs (by rw [qa.2]) ?_
  refine o_istg_4 dX5_doorOf_7 rfl (Nat.le_of_ble_eq_true rfl) ?_
  refine o_aload_n dX5_doorOf_9 rfl rfl ?_
  refine o_iload_n dX5_doorOf_10 rfl rfl ?_
  refine o_iconst dX5_doorOf_11 ic_1 ?_
  refine o_callSr (is := []) (ofP1) ⟨rfl, rfl⟩ dX5_doorOf_12 wd783 csX5_ofP rfl ⟨(Nat.le_of_ble_eq_true rfl), (Nat.le_of_ble_eq_true rfl)⟩ rfl rfl rfl (Nat.le_of_ble_eq_true rfl) (Nat.le_of_ble_eq_true rfl) (Nat.le_of_ble_eq_true rfl) ?_
  refine o_ialp (i := 51 + 3 * p) dX5_doorOf_15 rfl (rfl) (by omega) ?_
  refine o_eqs (by rw [qb.2]) ?_
  refine o_istg_5 dX5_doorOf_16 rfl (Nat.le_of_ble_eq_true rfl) ?_
  refine o_iconst dX5_doorOf_18 ic_0 ?_
  refine o_istg_6 dX5_doorOf_19 rfl (Nat.le_of_ble_eq_true rfl) ?_
  exact o_eqa (by rw [nI_0]) rfl (lX5_doorOf_s hg hM hp hh D 0 (by omega) rfl)
theorem lX5_hour_s {m im wa lt rw rf nu : Nat → Int32} {hi lm rn pl sd : Int32}{r : Nat → Int32} {g : Nat → Nat} {D N h : Nat} (hg : ∀ i, g i ≤ 99) (hM : MOk r D N h) (hh : h < 2147483648) : ∀ (q k : Nat) (x3 : Option Value), N - k < q → k ≤ N → Ok mX5_hour none 9 [some (.ref 0), some (.ref 1), some (.int (nI k)), x3] [] (mW (hstepM g D N r k) m im wa (nF g) hi lt rw rf lm rn pl nu sd) 0 0 (fun r2 w2 => r2 = none ∧ w2 = mW (hstepM g D N r N) m im wa (nF g) hi lt rw rf lm rn pl nu sd) := by
  intro q
  induction q with
  | zero => intro k x3 hq hk; omega
  | succ q ih =>
  intro k x3 hq hk
  have hMk := hM.hstep (g := g) k hk
  have hN7 := hM.1.2.2.2.1
  have hD9 := hM.1.2.1
  refine o_iload_n dX5_hour_9 rfl rfl ?_
  refine o_aload_n dX5_hour_10 rfl rfl ?_
  refine o_iconst dX5_hour_11 ic_1 ?_
  refine o_ialp (i := 1) dX5_hour_12 rfl (rfl) (by decide) ?_
  refine o_icmp_ge (tgt := 118) dX5_hour_13 (by decide) (fun c_13 => ?_) (fun c_13 => ?_)
  · rw [hMk.1.2.2.1] at c_13
    have hkN : k = N := Nat.le_antisymm hk (geI (by omega) (by omega) c_13)
    subst hkN
    refine o_vret dX5_hour_118 rfl (Nat.le_of_ble_eq_true rfl) (Nat.le_of_ble_eq_true rfl) ?_
    exact ⟨rfl, rfl⟩
  · rw [hMk.1.2.2.1] at c_13
    have hkN : k < N := ltI (by omega) (by omega) c_13
    refine o_aload_n dX5_hour_16 rfl rfl ?_
    refine o_iconst dX5_hour_17 ic_4 ?_
    refine o_ialp (i := 4) dX5_hour_18 rfl (rfl) (by decide) ?_
    refine o_iload_n dX5_hour_19 rfl rfl ?_
    refine o_callSr (is := []) (tX5_has) ⟨rfl, rfl⟩ dX5_hour_20 wd812 csX5_has rfl ⟨(Nat.le_of_ble_eq_true rfl), (Nat.le_of_ble_eq_true rfl)⟩ rfl rfl rfl (Nat.le_of_ble_eq_true rfl) (Nat.le_of_ble_eq_true rfl) (Nat.le_of_ble_eq_true rfl) ?_
    refine o_if_ne (tgt := 112) dX5_hour_23 (by decide) (fun c_23 => ?_) (fun c_23 => ?_)
    · have hc : gn (hstepM g D N r k) k = true ∨ (hstepM g D N r k) (50 + 3 * k) = (hstepM g D N r k) (51 + 3 * k) := Or.inl (bI_ne c_23)
      refine o_inc_2 dX5_hour_112 rfl ic_1 (Nat.le_of_ble_eq_true rfl) ?_
      refine o_goto (tgt := 9) dX5_hour_115 (by decide) ?_
      exact o_eqa (by rw [nI_1]) (by rw [hstepM, pstepM, if_pos hc]) (ih (k + 1) _ (by omega) (by omega))
    · skip
      refine o_aload_n dX5_hour_26 rfl rfl ?_
      refine o_iload_n dX5_hour_27 rfl rfl ?_
      refine o_iconst dX5_hour_28 ic_0 ?_
      refine o_callSr (is := []) (ofP0) ⟨rfl, rfl⟩ dX5_hour_29 wd783 csX5_ofP rfl ⟨(Nat.le_of_ble_eq_true rfl), (Nat.le_of_ble_eq_true rfl)⟩ rfl rfl rfl (Nat.le_of_ble_eq_true rfl) (Nat.le_of_ble_eq_true rfl) (Nat.le_of_ble_eq_true rfl) ?_
      refine o_ialp (i := 50 + 3 * k) dX5_hour_32 rfl (rfl) (by omega) ?_
      refine o_aload_n dX5_hour_33 rfl rfl ?_
      refine o_iload_n dX5_hour_34 rfl rfl ?_
      refine o_iconst dX5_hour_35 ic_1 ?_
      refine o_callSr (is := []) (ofP1) ⟨rfl, rfl⟩ dX5_hour_36 wd783 csX5_ofP rfl ⟨(Nat.le_of_ble_eq_true rfl), (Nat.le_of_ble_eq_true rfl)⟩ rfl rfl rfl (Nat.le_of_ble_eq_true rfl) (Nat.le_of_ble_eq_true rfl) (Nat.le_of_ble_eq_true rfl) ?_
      refine o_ialp (i := 51 + 3 * k) dX5_hour_39 rfl (rfl) (by omega) ?_
      refine o_icmp_ne (tgt := 46) dX5_hour_40 (by decide) (fun c_40 => ?_) (fun c_40 => ?_)
      · have hc : ¬ (gn (hstepM g D N r k) k = true ∨ (hstepM g D N r k) (50 + 3 * k) = (hstepM g D N r k) (51 + 3 * k)) := fun q => q.elim (fun q => by unfold gn at q; rw [bI_0.mp c_23] at q; cases q) c_40
        refine o_aload_n dX5_hour_46 rfl rfl ?_
        refine o_aload_n dX5_hour_47 rfl rfl ?_
        refine o_iload_n dX5_hour_48 rfl rfl ?_
        refine o_aload_n dX5_hour_49 rfl rfl ?_
        refine o_iconst dX5_hour_50 ic_2 ?_
        refine o_ialp (i := 2) dX5_hour_51 rfl (rfl) (by decide) ?_
        refine o_eqs (by rw [hMk.2.2]) ?_
        refine o_callVr (is := [0, 1, 2, 3, 4, 5, 6, 7, 8, 9]) (tX5_doorOf_s hg hMk hkN hh) ⟨rfl, rfl⟩ dX5_hour_52 wd815 cvX5_doorOf rfl ⟨(Nat.le_of_ble_eq_true rfl), (Nat.le_of_ble_eq_true rfl)⟩ hcX5 rfl rfl rfl rfl (Nat.le_of_ble_eq_true rfl) (Nat.le_of_ble_eq_true rfl) (Nat.le_of_ble_eq_true rfl) ?_
        refine o_istn_3 dX5_hour_55 rfl rfl (Nat.le_of_ble_eq_true rfl) ?_
        refine o_iload_n dX5_hour_56 rfl rfl ?_
        refine o_if_lt (tgt := 91) dX5_hour_57 (by decide) (fun c_57 => ?_) (fun c_57 => ?_)
        · rw [← hMk.2.2] at c_57
          refine o_aload_n dX5_hour_91 rfl rfl ?_
          refine o_iload_n dX5_hour_92 rfl rfl ?_
          refine o_iconst dX5_hour_93 ic_2 ?_
          refine o_callSr (is := []) (ofP2) ⟨rfl, rfl⟩ dX5_hour_94 wd783 csX5_ofP rfl ⟨(Nat.le_of_ble_eq_true rfl), (Nat.le_of_ble_eq_true rfl)⟩ rfl rfl rfl (Nat.le_of_ble_eq_true rfl) (Nat.le_of_ble_eq_true rfl) (Nat.le_of_ble_eq_true rfl) ?_
          refine o_ialp (i := 52 + 3 * k) dX5_hour_97 rfl (rfl) (by omega) ?_
          refine o_if_le (tgt := 112) dX5_hour_98 (by decide) (fun c_98 => ?_) (fun c_98 => ?_)
          · skip
            refine o_inc_2 dX5_hour_112 rfl ic_1 (Nat.le_of_ble_eq_true rfl) ?_
            refine o_goto (tgt := 9) dX5_hour_115 (by decide) ?_
            exact o_eqa (by rw [nI_1]) (by rw [hstepM, pstepM, if_neg hc, if_pos c_57, if_pos c_98]) (ih (k + 1) _ (by omega) (by omega))
          · skip
            refine o_aload_n dX5_hour_101 rfl rfl ?_
            refine o_iload_n dX5_hour_102 rfl rfl ?_
            refine o_iconst dX5_hour_103 ic_2 ?_
            refine o_callSr (is := []) (ofP2) ⟨rfl, rfl⟩ dX5_hour_104 wd783 csX5_ofP rfl ⟨(Nat.le_of_ble_eq_true rfl), (Nat.le_of_ble_eq_true rfl)⟩ rfl rfl rfl (Nat.le_of_ble_eq_true rfl) (Nat.le_of_ble_eq_true rfl) (Nat.le_of_ble_eq_true rfl) ?_
            refine o_dup2 dX5_hour_107 rfl rfl ?_
            refine o_ialp (i := 52 + 3 * k) dX5_hour_108 rfl (rfl) (by omega) ?_
            refine o_iconst dX5_hour_109 ic_1 ?_
            refine o_isub dX5_hour_110 ?_
            refine o_iasp (i := 52 + 3 * k) dX5_hour_111 rfl (rfl) (by omega) rfl ?_
            refine o_inc_2 dX5_hour_112 rfl ic_1 (Nat.le_of_ble_eq_true rfl) ?_
            refine o_goto (tgt := 9) dX5_hour_115 (by decide) ?_
            exact o_eqa (by rw [nI_1]) (by rw [hstepM, pstepM, if_neg hc, if_pos c_57, if_neg c_98]; rfl) (ih (k + 1) _ (by omega) (by omega))
        · rw [← hMk.2.2] at c_57
          obtain ⟨j, hj, e1⟩ := doorM_yes c_57
          have ec : cN (nI j) = j := nI_clamp (by omega)
          refine o_aload_n dX5_hour_60 rfl rfl ?_
          refine o_iload_n dX5_hour_61 rfl rfl ?_
          refine o_iconst dX5_hour_62 ic_0 ?_
          refine o_callSr (is := []) (ofP0) ⟨rfl, rfl⟩ dX5_hour_63 wd783 csX5_ofP rfl ⟨(Nat.le_of_ble_eq_true rfl), (Nat.le_of_ble_eq_true rfl)⟩ rfl rfl rfl (Nat.le_of_ble_eq_true rfl) (Nat.le_of_ble_eq_true rfl) (Nat.le_of_ble_eq_true rfl) ?_
          refine o_aload_n dX5_hour_66 rfl rfl ?_
          refine o_iload_n dX5_hour_67 rfl rfl ?_
          refine o_iconst dX5_hour_68 ic_3 ?_
          refine o_callSr (is := []) ((tX5_ofD : PD _ _ _ _ _).mono (r2 := some (.int (nI (8 + 5 * j)))) (by rw [← hMk.2.2, e1, show (5 : Int32) = nI 5 from rfl, pk_mul, nI_add, show (3 : Int32) = nI 3 from rfl, nI_add, show 5 + 5 * j + 3 = 8 + 5 * j by omega])) ⟨rfl, rfl⟩ dX5_hour_69 wd777 csX5_ofD rfl ⟨(Nat.le_of_ble_eq_true rfl), (Nat.le_of_ble_eq_true rfl)⟩ rfl rfl rfl (Nat.le_of_ble_eq_true rfl) (Nat.le_of_ble_eq_true rfl) (Nat.le_of_ble_eq_true rfl) ?_
          refine o_ialp (i := 8 + 5 * j) dX5_hour_72 rfl (rfl) (by omega) ?_
          refine o_iasp (i := 50 + 3 * k) dX5_hour_73 rfl (rfl) (by omega) rfl ?_
          refine o_aload_n dX5_hour_74 rfl rfl ?_
          refine o_iconst dX5_hour_75 ic_3 ?_
          refine o_sipush dX5_hour_76 sp_9999 ?_
          refine o_aload_n dX5_hour_79 rfl rfl ?_
          refine o_iconst dX5_hour_80 ic_3 ?_
          refine o_ialp (i := 3) dX5_hour_81 rfl (rfl) (by decide) ?_
          refine o_iconst dX5_hour_82 ic_1 ?_
          refine o_iadd dX5_hour_83 ?_
          refine o_callSr (is := []) (tX5_least) ⟨rfl, rfl⟩ dX5_hour_84 wd805 csX5_least rfl ⟨(Nat.le_of_ble_eq_true rfl), (Nat.le_of_ble_eq_true rfl)⟩ rfl rfl rfl (Nat.le_of_ble_eq_true rfl) (Nat.le_of_ble_eq_true rfl) (Nat.le_of_ble_eq_true rfl) ?_
          refine o_iasp (i := 3) dX5_hour_87 rfl (rfl) (by decide) rfl ?_
          refine o_goto (tgt := 112) dX5_hour_88 (by decide) ?_
          refine o_inc_2 dX5_hour_112 rfl ic_1 (Nat.le_of_ble_eq_true rfl) ?_
          refine o_goto (tgt := 9) dX5_hour_115 (by decide) ?_
          exact o_eqa (by rw [nI_1]) (by rw [hstepM, pstepM, if_neg hc, if_neg c_57, e1, ec, ← upd_ne (f := hstepM g D N r k) (v := (hstepM g D N r k) (8 + 5 * j)) (show (3 : Nat) ≠ 50 + 3 * k by omega)]; rfl) (ih (k + 1) _ (by omega) (by omega))
      · have hc : gn (hstepM g D N r k) k = true ∨ (hstepM g D N r k) (50 + 3 * k) = (hstepM g D N r k) (51 + 3 * k) := Or.inr c_40
        refine o_goto (tgt := 112) dX5_hour_43 (by decide) ?_
        refine o_inc_2 dX5_hour_112 rfl ic_1 (Nat.le_of_ble_eq_true rfl) ?_
        refine o_goto (tgt := 9) dX5_hour_115 (by decide) ?_
        exact o_eqa (by rw [nI_1]) (by rw [hstepM, pstepM, if_pos hc]) (ih (k + 1) _ (by omega) (by omega))
theorem tX5_hour_s {m im wa lt rw rf nu : Nat → Int32} {hi lm rn pl sd : Int32}{r : Nat → Int32} {g : Nat → Nat} {D N h : Nat} (hg : ∀ i, g i ≤ 99) (hM : MOk r D N h) (hh : h + 1 < 2147483648) : PD mX5_hour [.ref 0, .ref 1] (mW r m im wa (nF g) hi lt rw rf lm rn pl nu sd) (none) (mW (hourM g D N r) m im wa (nF g) hi lt rw rf lm rn pl nu sd) := by
  refine PM.ofp 2 (by decide) (Nat.le_of_ble_eq_true rfl) ?_
  show Ok mX5_hour none 0 [some (.ref 0), some (.ref 1), none, none] [] (mW r m im wa (nF g) hi lt rw rf lm rn pl nu sd) 0 0 _
  refine o_aload_n dX5_hour_0 rfl rfl ?_
  refine o_iconst dX5_hour_1 ic_2 ?_
  refine o_dup2 dX5_hour_2 rfl rfl ?_
  refine o_ialp (i := 2) dX5_hour_3 rfl (rfl) (by decide) ?_
  refine o_iconst dX5_hour_4 ic_1 ?_
  refine o_iadd dX5_hour_5 ?_
  refine o_iasp (i := 2) dX5_hour_6 rfl (rfl) (by decide) rfl ?_
  refine o_iconst dX5_hour_7 ic_0 ?_
  refine o_istn_2 dX5_hour_8 rfl rfl (Nat.le_of_ble_eq_true rfl) ?_
  exact o_eqa (by rw [nI_0]) rfl (lX5_hour_s hg hM.hour hh (N + 1) 0 _ (by omega) (by omega))
theorem lX5_hoursOn_s {m im wa lt rw rf nu : Nat → Int32} {hi lm rn pl sd : Int32}{r : Nat → Int32} {g : Nat → Nat} {D N h n : Nat} (hg : ∀ i, g i ≤ 99) (hM : MOk r D N h) (hh : h + n < 2147483648) : ∀ (q k : Nat), n - k < q → k ≤ n → Ok mX5_hoursOn none 7 [some (.ref 0), some (.ref 1), some (.int (nI n)), some (.int (nI k))] [] (mW (hoursM g D N r k) m im wa (nF g) hi lt rw rf lm rn pl nu sd) 0 0 (fun r2 w2 => r2 = none ∧ w2 = mW (hoursM g D N r n) m im wa (nF g) hi lt rw rf lm rn pl nu sd) := by
  intro q
  induction q with
  | zero => intro k hq hk; omega
  | succ q ih =>
  intro k hq hk
  have hMk := hM.hours (g := g) k
  refine o_iload_n dX5_hoursOn_7 rfl rfl ?_
  refine o_iload_n dX5_hoursOn_8 rfl rfl ?_
  refine o_icmp_ge (tgt := 23) dX5_hoursOn_9 (by decide) (fun c_9 => ?_) (fun c_9 => ?_)
  · have hkN : k = n := Nat.le_antisymm hk (geI (by omega) (by omega) c_9)
    subst hkN
    refine o_vret dX5_hoursOn_23 rfl (Nat.le_of_ble_eq_true rfl) (Nat.le_of_ble_eq_true rfl) ?_
    exact ⟨rfl, rfl⟩
  · have hkN : k < n := ltI (by omega) (by omega) c_9
    refine o_aload_n dX5_hoursOn_12 rfl rfl ?_
    refine o_aload_n dX5_hoursOn_13 rfl rfl ?_
    refine o_callVd (is := [0, 1, 2, 3, 4, 5, 6, 7, 8, 9]) (tX5_hour_s hg hMk (by omega)) ⟨rfl, rfl⟩ dX5_hoursOn_14 wd808 cvX5_hour rfl ⟨(Nat.le_of_ble_eq_true rfl), (Nat.le_of_ble_eq_true rfl)⟩ hcX5 rfl rfl rfl rfl (Nat.le_of_ble_eq_true rfl) (Nat.le_of_ble_eq_true rfl) (Nat.le_of_ble_eq_true rfl) rfl ?_
    refine o_inc_3 dX5_hoursOn_17 rfl ic_1 (Nat.le_of_ble_eq_true rfl) ?_
    refine o_goto (tgt := 7) dX5_hoursOn_20 (by decide) ?_
    exact o_eqa (by rw [nI_1]) rfl (ih (k + 1) (by omega) (by omega))
theorem tX5_hoursOn_s {m im wa fr lt rw rf nu : Nat → Int32} {hi lm rn pl sd : Int32}{r : Nat → Int32} {D N h n : Nat} (hM : MOk r D N h) (hh : h + n < 2147483648) : PD mX5_hoursOn [.ref 0, .ref 1, .int (nI n)] (mW r m im wa fr hi lt rw rf lm rn pl nu sd) (none) (mW (hoursM (frT (fA r) (fB r) D) D N r n) m im wa (nF (frT (fA r) (fB r) D)) hi lt rw rf lm rn pl nu sd) := by
  refine PM.ofp 1 (by decide) (Nat.le_of_ble_eq_true rfl) ?_
  show Ok mX5_hoursOn none 0 [some (.ref 0), some (.ref 1), some (.int (nI n)), none] [] (mW r m im wa fr hi lt rw rf lm rn pl nu sd) 0 0 _
  refine o_aload_n dX5_hoursOn_0 rfl rfl ?_
  refine o_aload_n dX5_hoursOn_1 rfl rfl ?_
  refine o_callVd (is := [0, 1, 2, 3, 4, 5, 6, 7, 8, 9]) (tX5_measures_s hM.1) ⟨rfl, rfl⟩ dX5_hoursOn_2 wd801 cvX5_measures rfl ⟨(Nat.le_of_ble_eq_true rfl), (Nat.le_of_ble_eq_true rfl)⟩ hcX5 rfl rfl rfl rfl (Nat.le_of_ble_eq_true rfl) (Nat.le_of_ble_eq_true rfl) (Nat.le_of_ble_eq_true rfl) rfl ?_
  refine o_iconst dX5_hoursOn_5 ic_0 ?_
  refine o_istn_3 dX5_hoursOn_6 rfl rfl (Nat.le_of_ble_eq_true rfl) ?_
  exact o_eqa (by rw [nI_0]) rfl (lX5_hoursOn_s frT_le hM hh (n + 1) 0 (by omega) (by omega))
theorem tX5_isOnWay_m {s im wa lt rw rf nu : Nat → Int32} {hi lm rn pl sd : Int32}{r : Nat → Int32} {g : Nat → Nat} {D N d a b : Nat} (hg : ∀ i, g i ≤ 99) (hT : TOk r D N) (hd : d < D) (ha : a < 8) (hb : b < 8) : PD mX5_isOnWay [.ref 0, .ref 2, .int (nI d), .int (nI a), .int (nI b)] (mW s r im wa (nF g) hi lt rw rf lm rn pl nu sd) (some (.int (bI (onM r g d a b)))) (mW s r im wa (nF g) hi lt rw rf lm rn pl nu sd) := by
  refine PM.ofp 0 (by decide) (Nat.le_of_ble_eq_true rfl) ?_
  show Ok mX5_isOnWay none 0 [some (.ref 0), some (.ref 2), some (.int (nI d)), some (.int (nI a)), some (.int (nI b))] [] (mW s r im wa (nF g) hi lt rw rf lm rn pl nu sd) 0 0 _
  have hD9 := hT.2.1
  have qb := (hT.2.2.2.2.2 d hd).2.cN
  have lb : fB r d < 8 := qb.1
  have g1 := hg (8 * a + b)
  have g2 := hg (8 * fB r d + b)
  refine o_aload_n dX5_isOnWay_0 rfl rfl ?_
  refine o_iload_n dX5_isOnWay_1 rfl rfl ?_
  refine o_iconst dX5_isOnWay_2 ic_2 ?_
  refine o_callSr (is := []) (ofD2) ⟨rfl, rfl⟩ dX5_isOnWay_3 wd777 csX5_ofD rfl ⟨(Nat.le_of_ble_eq_true rfl), (Nat.le_of_ble_eq_true rfl)⟩ rfl rfl rfl (Nat.le_of_ble_eq_true rfl) (Nat.le_of_ble_eq_true rfl) (Nat.le_of_ble_eq_true rfl) ?_
  refine o_ialp (i := 7 + 5 * d) dX5_isOnWay_6 rfl (rfl) (by omega) ?_
  refine o_iload_n dX5_isOnWay_7 rfl rfl ?_
  refine o_icmp_ne (tgt := 52) dX5_isOnWay_8 (by decide) (fun c_8 => ?_) (fun c_8 => ?_)
  · skip
    refine o_iconst dX5_isOnWay_52 ic_0 ?_
    refine o_iret dX5_isOnWay_53 rfl (by first | exact nz_b _ | decide) (Nat.le_of_ble_eq_true rfl) (Nat.le_of_ble_eq_true rfl) ?_
    exact ⟨by simp [onM, bI, c_8], rfl⟩
  · skip
    refine o_aload_n dX5_isOnWay_11 rfl rfl ?_
    refine o_iload_n dX5_isOnWay_12 rfl rfl ?_
    refine o_iload dX5_isOnWay_13 rfl ?_
    refine o_callVr (is := [0, 1, 2, 3, 4, 5, 6, 7, 8, 9]) (tX5_wayOf ha hb) ⟨rfl, rfl⟩ dX5_isOnWay_15 wd823 cvX5_wayOf rfl ⟨(Nat.le_of_ble_eq_true rfl), (Nat.le_of_ble_eq_true rfl)⟩ hcX5 rfl rfl rfl rfl (Nat.le_of_ble_eq_true rfl) (Nat.le_of_ble_eq_true rfl) (Nat.le_of_ble_eq_true rfl) ?_
    refine o_bipush dX5_isOnWay_18 bp_99 ?_
    refine o_icmp_ge (tgt := 52) dX5_isOnWay_20 (by decide) (fun c_20 => ?_) (fun c_20 => ?_)
    · have hq : ¬ g (8 * a + b) < 99 := Nat.not_lt.mpr (geI (b := 99) (by omega) (by omega) c_20)
      refine o_iconst dX5_isOnWay_52 ic_0 ?_
      refine o_iret dX5_isOnWay_53 rfl (by first | exact nz_b _ | decide) (Nat.le_of_ble_eq_true rfl) (Nat.le_of_ble_eq_true rfl) ?_
      exact ⟨by simp [onM, bI, hq], rfl⟩
    · have hq : g (8 * a + b) < 99 := ltI (b := 99) (by omega) (by omega) c_20
      refine o_aload_n dX5_isOnWay_23 rfl rfl ?_
      refine o_aload_n dX5_isOnWay_24 rfl rfl ?_
      refine o_iload_n dX5_isOnWay_25 rfl rfl ?_
      refine o_iconst dX5_isOnWay_26 ic_3 ?_
      refine o_callSr (is := []) (ofD3) ⟨rfl, rfl⟩ dX5_isOnWay_27 wd777 csX5_ofD rfl ⟨(Nat.le_of_ble_eq_true rfl), (Nat.le_of_ble_eq_true rfl)⟩ rfl rfl rfl (Nat.le_of_ble_eq_true rfl) (Nat.le_of_ble_eq_true rfl) (Nat.le_of_ble_eq_true rfl) ?_
      refine o_ialp (i := 8 + 5 * d) dX5_isOnWay_30 rfl (rfl) (by omega) ?_
      refine o_eqs (by rw [show r (8 + 5 * d) = nI (fB r d) from qb.2]) ?_
      refine o_iload dX5_isOnWay_31 rfl ?_
      refine o_callVr (is := [0, 1, 2, 3, 4, 5, 6, 7, 8, 9]) (tX5_wayOf lb hb) ⟨rfl, rfl⟩ dX5_isOnWay_33 wd823 cvX5_wayOf rfl ⟨(Nat.le_of_ble_eq_true rfl), (Nat.le_of_ble_eq_true rfl)⟩ hcX5 rfl rfl rfl rfl (Nat.le_of_ble_eq_true rfl) (Nat.le_of_ble_eq_true rfl) (Nat.le_of_ble_eq_true rfl) ?_
      refine o_aload_n dX5_isOnWay_36 rfl rfl ?_
      refine o_iload_n dX5_isOnWay_37 rfl rfl ?_
      refine o_iload dX5_isOnWay_38 rfl ?_
      refine o_callVr (is := [0, 1, 2, 3, 4, 5, 6, 7, 8, 9]) (tX5_wayOf ha hb) ⟨rfl, rfl⟩ dX5_isOnWay_40 wd823 cvX5_wayOf rfl ⟨(Nat.le_of_ble_eq_true rfl), (Nat.le_of_ble_eq_true rfl)⟩ hcX5 rfl rfl rfl rfl (Nat.le_of_ble_eq_true rfl) (Nat.le_of_ble_eq_true rfl) (Nat.le_of_ble_eq_true rfl) ?_
      refine o_iconst dX5_isOnWay_43 ic_1 ?_
      refine o_isub dX5_isOnWay_44 ?_
      refine o_icmp_ne (tgt := 52) dX5_isOnWay_45 (by decide) (fun c_45 => ?_) (fun c_45 => ?_)
      · have hs : ¬ g (8 * fB r d + b) + 1 = g (8 * a + b) := fun q => c_45 ((sub1 g2 g1).mpr q)
        refine o_iconst dX5_isOnWay_52 ic_0 ?_
        refine o_iret dX5_isOnWay_53 rfl (by first | exact nz_b _ | decide) (Nat.le_of_ble_eq_true rfl) (Nat.le_of_ble_eq_true rfl) ?_
        exact ⟨by simp [onM, bI, hs], rfl⟩
      · have hs : g (8 * fB r d + b) + 1 = g (8 * a + b) := (sub1 g2 g1).mp c_45
        refine o_iconst dX5_isOnWay_48 ic_1 ?_
        refine o_goto (tgt := 53) dX5_isOnWay_49 (by decide) ?_
        refine o_iret dX5_isOnWay_53 rfl (by first | exact nz_b _ | decide) (Nat.le_of_ble_eq_true rfl) (Nat.le_of_ble_eq_true rfl) ?_
        exact ⟨by simp [onM, bI, c_8, hq, hs], rfl⟩
theorem lX5_doorOf_m {s im wa lt rw rf nu : Nat → Int32} {hi lm rn pl sd : Int32}{r : Nat → Int32} {g : Nat → Nat} {D N p h : Nat} {R : Int32} (hg : ∀ i, g i ≤ 99) (hM : MOk r D N h) (hp : p < N) {h2 : Nat} (hh : h2 < 2147483648) : ∀ (q k : Nat), k + q = D → dfS (tM r g N p (nI h2)) q k = R → Ok mX5_doorOf none 21 [some (.ref 0), some (.ref 2), some (.int (nI p)), some (.int (nI h2)), some (.int (nI (cN (r (50 + 3 * p))))), some (.int (nI (cN (r (51 + 3 * p))))), some (.int (nI k))] [] (mW s r im wa (nF g) hi lt rw rf lm rn pl nu sd) 0 0 (fun r2 w2 => r2 = some (.int R) ∧ w2 = mW s r im wa (nF g) hi lt rw rf lm rn pl nu sd) := by
  have hT := hM.1
  have hD9 := hT.2.1
  have hN7 := hT.2.2.2.1
  have qa := (hT.2.2.2.2.1 p hp).1.cN
  have qb := (hT.2.2.2.2.1 p hp).2.cN
  have eab : (nI (cN (r (50 + 3 * p))) = nI (cN (r (51 + 3 * p)))) ↔ r (50 + 3 * p) = r (51 + 3 * p) := by rw [← qa.2, ← qb.2]
  intro q
  induction q with
  | zero =>
    intro k hk hR
    have hk : k = D := by omega
    subst hk
    refine o_iload dX5_doorOf_21 rfl ?_
    refine o_aload_n dX5_doorOf_23 rfl rfl ?_
    refine o_iconst dX5_doorOf_24 ic_0 ?_
    refine o_ialp (i := 0) dX5_doorOf_25 rfl (rfl) (by decide) ?_
    refine o_icmp_ge (tgt := 70) dX5_doorOf_26 (by decide) (fun _ => ?_) (fun c => absurd (by rw [hT.1]; exact Int32.le_refl _) c)
    refine o_bipush dX5_doorOf_70 bp_m9 ?_
    refine o_iret dX5_doorOf_72 rfl (vp_nar_int _) (Nat.le_of_ble_eq_true rfl) (Nat.le_of_ble_eq_true rfl) ?_
    exact ⟨by rw [← hR]; rfl, rfl⟩
  | succ q ih =>
  intro k hk hR
  have hkd : k < D := by omega
  refine o_iload dX5_doorOf_21 rfl ?_
  refine o_aload_n dX5_doorOf_23 rfl rfl ?_
  refine o_iconst dX5_doorOf_24 ic_0 ?_
  refine o_ialp (i := 0) dX5_doorOf_25 rfl (rfl) (by decide) ?_
  refine o_icmp_ge (tgt := 70) dX5_doorOf_26 (by decide) (fun c_26 => ?_) (fun c_26 => ?_)
  · rw [hT.1] at c_26
    exact absurd (geI (by omega) (by omega) c_26) (by omega)
  · skip
    refine o_iload dX5_doorOf_29 rfl ?_
    refine o_iload dX5_doorOf_31 rfl ?_
    refine o_icmp_eq (tgt := 64) dX5_doorOf_33 (by decide) (fun c_33 => ?_) (fun c_33 => ?_)
    · have et : tM r g N p (nI h2) k = false := by unfold tM; rw [decide_eq_true (eab.mp c_33)]; rfl
      refine o_inc_6 dX5_doorOf_64 rfl ic_1 (Nat.le_of_ble_eq_true rfl) ?_
      refine o_goto (tgt := 21) dX5_doorOf_67 (by decide) ?_
      exact o_eqa (by rw [nI_1]) rfl (ih (k + 1) (by omega) (by rw [← hR, dfS, et]; rfl))
    · have hne : ¬ r (50 + 3 * p) = r (51 + 3 * p) := fun q => c_33 (eab.mpr q)
      refine o_aload_n dX5_doorOf_36 rfl rfl ?_
      refine o_aload_n dX5_doorOf_37 rfl rfl ?_
      refine o_iload dX5_doorOf_38 rfl ?_
      refine o_iload dX5_doorOf_40 rfl ?_
      refine o_iload dX5_doorOf_42 rfl ?_
      refine o_callVr (is := [0, 1, 2, 3, 4, 5, 6, 7, 8, 9]) (tX5_isOnWay_m hg hT hkd qa.1 qb.1) ⟨rfl, rfl⟩ dX5_doorOf_44 wd819 cvX5_isOnWay rfl ⟨(Nat.le_of_ble_eq_true rfl), (Nat.le_of_ble_eq_true rfl)⟩ hcX5 rfl rfl rfl rfl (Nat.le_of_ble_eq_true rfl) (Nat.le_of_ble_eq_true rfl) (Nat.le_of_ble_eq_true rfl) ?_
      refine o_if_eq (tgt := 64) dX5_doorOf_47 (by decide) (fun c_47 => ?_) (fun c_47 => ?_)
      · have et : tM r g N p (nI h2) k = false := by unfold tM; rw [bI_0.mp c_47]; simp
        refine o_inc_6 dX5_doorOf_64 rfl ic_1 (Nat.le_of_ble_eq_true rfl) ?_
        refine o_goto (tgt := 21) dX5_doorOf_67 (by decide) ?_
        exact o_eqa (by rw [nI_1]) rfl (ih (k + 1) (by omega) (by rw [← hR, dfS, et]; rfl))
      · skip
        refine o_aload_n dX5_doorOf_50 rfl rfl ?_
        refine o_iload dX5_doorOf_51 rfl ?_
        refine o_iload_n dX5_doorOf_53 rfl rfl ?_
        refine o_iload_n dX5_doorOf_54 rfl rfl ?_
        refine o_callSr (is := [2]) (tX5_opens hT.2.2.2.1 hT.2.2.1 (by omega) (hM.2.1 k hkd).1 (hM.2.1 k hkd).2 hh) ⟨rfl, rfl⟩ dX5_doorOf_55 wd827 csX5_opens rfl ⟨(Nat.le_of_ble_eq_true rfl), (Nat.le_of_ble_eq_true rfl)⟩ rfl rfl rfl (Nat.le_of_ble_eq_true rfl) (Nat.le_of_ble_eq_true rfl) (Nat.le_of_ble_eq_true rfl) ?_
        refine o_if_eq (tgt := 64) dX5_doorOf_58 (by decide) (fun c_58 => ?_) (fun c_58 => ?_)
        · have et : tM r g N p (nI h2) k = false := by unfold tM; rw [bI_0.mp c_58]; simp
          refine o_inc_6 dX5_doorOf_64 rfl ic_1 (Nat.le_of_ble_eq_true rfl) ?_
          refine o_goto (tgt := 21) dX5_doorOf_67 (by decide) ?_
          exact o_eqa (by rw [nI_1]) rfl (ih (k + 1) (by omega) (by rw [← hR, dfS, et]; rfl))
        · have et : tM r g N p (nI h2) k = true := by unfold tM; rw [bI_ne c_47, bI_ne c_58]; simp [hne]
          refine o_iload dX5_doorOf_61 rfl ?_
          refine o_iret dX5_doorOf_63 rfl (vp_nar_int _) (Nat.le_of_ble_eq_true rfl) (Nat.le_of_ble_eq_true rfl) ?_
          exact ⟨by rw [← hR, dfS, if_pos et], rfl⟩
theorem tX5_doorOf_m {s im wa lt rw rf nu : Nat → Int32} {hi lm rn pl sd : Int32}{r : Nat → Int32} {g : Nat → Nat} {D N p h h2 : Nat} (hg : ∀ i, g i ≤ 99) (hM : MOk r D N h) (hp : p < N) (hh : h2 < 2147483648) : PD mX5_doorOf [.ref 0, .ref 2, .int (nI p), .int (nI h2)] (mW s r im wa (nF g) hi lt rw rf lm rn pl nu sd) (some (.int (doorM r g D N p (nI h2)))) (mW s r im wa (nF g) hi lt rw rf lm rn pl nu sd) := by
  refine PM.ofp 3 (by decide) (Nat.le_of_ble_eq_true rfl) ?_
  show Ok mX5_doorOf none 0 [some (.ref 0), some (.ref 2), some (.int (nI p)), some (.int (nI h2)), none, none, none] [] (mW s r im wa (nF g) hi lt rw rf lm rn pl nu sd) 0 0 _
  have hT := hM.1
  have hN7 := hT.2.2.2.1
  have qa := (hT.2.2.2.2.1 p hp).1.cN
  have qb := (hT.2.2.2.2.1 p hp).2.cN
  refine o_aload_n dX5_doorOf_0 rfl rfl ?_
  refine o_iload_n dX5_doorOf_1 rfl rfl ?_
  refine o_iconst dX5_doorOf_2 ic_0 ?_
  refine o_callSr (is := []) (ofP0) ⟨rfl, rfl⟩ dX5_doorOf_3 wd783 csX5_ofP rfl ⟨(Nat.le_of_ble_eq_true rfl), (Nat.le_of_ble_eq_true rfl)⟩ rfl rfl rfl (Nat.le_of_ble_eq_true rfl) (Nat.le_of_ble_eq_true rfl) (Nat.le_of_ble_eq_true rfl) ?_
  refine o_ialp (i := 50 + 3 * p) dX5_doorOf_6 rfl (rfl) (by omega) ?_
  refine o_eqs (by rw [qa.2]) ?_
  refine o_istg_4 dX5_doorOf_7 rfl (Nat.le_of_ble_eq_true rfl) ?_
  refine o_aload_n dX5_doorOf_9 rfl rfl ?_
  refine o_iload_n dX5_doorOf_10 rfl rfl ?_
  refine o_iconst dX5_doorOf_11 ic_1 ?_
  refine o_callSr (is := []) (ofP1) ⟨rfl, rfl⟩ dX5_doorOf_12 wd783 csX5_ofP rfl ⟨(Nat.le_of_ble_eq_true rfl), (Nat.le_of_ble_eq_true rfl)⟩ rfl rfl rfl (Nat.le_of_ble_eq_true rfl) (Nat.le_of_ble_eq_true rfl) (Nat.le_of_ble_eq_true rfl) ?_
  refine o_ialp (i := 51 + 3 * p) dX5_doorOf_15 rfl (rfl) (by omega) ?_
  refine o_eqs (by rw [qb.2]) ?_
  refine o_istg_5 dX5_doorOf_16 rfl (Nat.le_of_ble_eq_true rfl) ?_
  refine o_iconst dX5_doorOf_18 ic_0 ?_
  refine o_istg_6 dX5_doorOf_19 rfl (Nat.le_of_ble_eq_true rfl) ?_
  exact o_eqa (by rw [nI_0]) rfl (lX5_doorOf_m hg hM hp hh D 0 (by omega) rfl)
theorem lX5_hour_m {s im wa lt rw rf nu : Nat → Int32} {hi lm rn pl sd : Int32}{r : Nat → Int32} {g : Nat → Nat} {D N h : Nat} (hg : ∀ i, g i ≤ 99) (hM : MOk r D N h) (hh : h < 2147483648) : ∀ (q k : Nat) (x3 : Option Value), N - k < q → k ≤ N → Ok mX5_hour none 9 [some (.ref 0), some (.ref 2), some (.int (nI k)), x3] [] (mW s (hstepM g D N r k) im wa (nF g) hi lt rw rf lm rn pl nu sd) 0 0 (fun r2 w2 => r2 = none ∧ w2 = mW s (hstepM g D N r N) im wa (nF g) hi lt rw rf lm rn pl nu sd) := by
  intro q
  induction q with
  | zero => intro k x3 hq hk; omega
  | succ q ih =>
  intro k x3 hq hk
  have hMk := hM.hstep (g := g) k hk
  have hN7 := hM.1.2.2.2.1
  have hD9 := hM.1.2.1
  refine o_iload_n dX5_hour_9 rfl rfl ?_
  refine o_aload_n dX5_hour_10 rfl rfl ?_
  refine o_iconst dX5_hour_11 ic_1 ?_
  refine o_ialp (i := 1) dX5_hour_12 rfl (rfl) (by decide) ?_
  refine o_icmp_ge (tgt := 118) dX5_hour_13 (by decide) (fun c_13 => ?_) (fun c_13 => ?_)
  · rw [hMk.1.2.2.1] at c_13
    have hkN : k = N := Nat.le_antisymm hk (geI (by omega) (by omega) c_13)
    subst hkN
    refine o_vret dX5_hour_118 rfl (Nat.le_of_ble_eq_true rfl) (Nat.le_of_ble_eq_true rfl) ?_
    exact ⟨rfl, rfl⟩
  · rw [hMk.1.2.2.1] at c_13
    have hkN : k < N := ltI (by omega) (by omega) c_13
    refine o_aload_n dX5_hour_16 rfl rfl ?_
    refine o_iconst dX5_hour_17 ic_4 ?_
    refine o_ialp (i := 4) dX5_hour_18 rfl (rfl) (by decide) ?_
    refine o_iload_n dX5_hour_19 rfl rfl ?_
    refine o_callSr (is := []) (tX5_has) ⟨rfl, rfl⟩ dX5_hour_20 wd812 csX5_has rfl ⟨(Nat.le_of_ble_eq_true rfl), (Nat.le_of_ble_eq_true rfl)⟩ rfl rfl rfl (Nat.le_of_ble_eq_true rfl) (Nat.le_of_ble_eq_true rfl) (Nat.le_of_ble_eq_true rfl) ?_
    refine o_if_ne (tgt := 112) dX5_hour_23 (by decide) (fun c_23 => ?_) (fun c_23 => ?_)
    · have hc : gn (hstepM g D N r k) k = true ∨ (hstepM g D N r k) (50 + 3 * k) = (hstepM g D N r k) (51 + 3 * k) := Or.inl (bI_ne c_23)
      refine o_inc_2 dX5_hour_112 rfl ic_1 (Nat.le_of_ble_eq_true rfl) ?_
      refine o_goto (tgt := 9) dX5_hour_115 (by decide) ?_
      exact o_eqa (by rw [nI_1]) (by rw [hstepM, pstepM, if_pos hc]) (ih (k + 1) _ (by omega) (by omega))
    · skip
      refine o_aload_n dX5_hour_26 rfl rfl ?_
      refine o_iload_n dX5_hour_27 rfl rfl ?_
      refine o_iconst dX5_hour_28 ic_0 ?_
      refine o_callSr (is := []) (ofP0) ⟨rfl, rfl⟩ dX5_hour_29 wd783 csX5_ofP rfl ⟨(Nat.le_of_ble_eq_true rfl), (Nat.le_of_ble_eq_true rfl)⟩ rfl rfl rfl (Nat.le_of_ble_eq_true rfl) (Nat.le_of_ble_eq_true rfl) (Nat.le_of_ble_eq_true rfl) ?_
      refine o_ialp (i := 50 + 3 * k) dX5_hour_32 rfl (rfl) (by omega) ?_
      refine o_aload_n dX5_hour_33 rfl rfl ?_
      refine o_iload_n dX5_hour_34 rfl rfl ?_
      refine o_iconst dX5_hour_35 ic_1 ?_
      refine o_callSr (is := []) (ofP1) ⟨rfl, rfl⟩ dX5_hour_36 wd783 csX5_ofP rfl ⟨(Nat.le_of_ble_eq_true rfl), (Nat.le_of_ble_eq_true rfl)⟩ rfl rfl rfl (Nat.le_of_ble_eq_true rfl) (Nat.le_of_ble_eq_true rfl) (Nat.le_of_ble_eq_true rfl) ?_
      refine o_ialp (i := 51 + 3 * k) dX5_hour_39 rfl (rfl) (by omega) ?_
      refine o_icmp_ne (tgt := 46) dX5_hour_40 (by decide) (fun c_40 => ?_) (fun c_40 => ?_)
      · have hc : ¬ (gn (hstepM g D N r k) k = true ∨ (hstepM g D N r k) (50 + 3 * k) = (hstepM g D N r k) (51 + 3 * k)) := fun q => q.elim (fun q => by unfold gn at q; rw [bI_0.mp c_23] at q; cases q) c_40
        refine o_aload_n dX5_hour_46 rfl rfl ?_
        refine o_aload_n dX5_hour_47 rfl rfl ?_
        refine o_iload_n dX5_hour_48 rfl rfl ?_
        refine o_aload_n dX5_hour_49 rfl rfl ?_
        refine o_iconst dX5_hour_50 ic_2 ?_
        refine o_ialp (i := 2) dX5_hour_51 rfl (rfl) (by decide) ?_
        refine o_eqs (by rw [hMk.2.2]) ?_
        refine o_callVr (is := [0, 1, 2, 3, 4, 5, 6, 7, 8, 9]) (tX5_doorOf_m hg hMk hkN hh) ⟨rfl, rfl⟩ dX5_hour_52 wd815 cvX5_doorOf rfl ⟨(Nat.le_of_ble_eq_true rfl), (Nat.le_of_ble_eq_true rfl)⟩ hcX5 rfl rfl rfl rfl (Nat.le_of_ble_eq_true rfl) (Nat.le_of_ble_eq_true rfl) (Nat.le_of_ble_eq_true rfl) ?_
        refine o_istn_3 dX5_hour_55 rfl rfl (Nat.le_of_ble_eq_true rfl) ?_
        refine o_iload_n dX5_hour_56 rfl rfl ?_
        refine o_if_lt (tgt := 91) dX5_hour_57 (by decide) (fun c_57 => ?_) (fun c_57 => ?_)
        · rw [← hMk.2.2] at c_57
          refine o_aload_n dX5_hour_91 rfl rfl ?_
          refine o_iload_n dX5_hour_92 rfl rfl ?_
          refine o_iconst dX5_hour_93 ic_2 ?_
          refine o_callSr (is := []) (ofP2) ⟨rfl, rfl⟩ dX5_hour_94 wd783 csX5_ofP rfl ⟨(Nat.le_of_ble_eq_true rfl), (Nat.le_of_ble_eq_true rfl)⟩ rfl rfl rfl (Nat.le_of_ble_eq_true rfl) (Nat.le_of_ble_eq_true rfl) (Nat.le_of_ble_eq_true rfl) ?_
          refine o_ialp (i := 52 + 3 * k) dX5_hour_97 rfl (rfl) (by omega) ?_
          refine o_if_le (tgt := 112) dX5_hour_98 (by decide) (fun c_98 => ?_) (fun c_98 => ?_)
          · skip
            refine o_inc_2 dX5_hour_112 rfl ic_1 (Nat.le_of_ble_eq_true rfl) ?_
            refine o_goto (tgt := 9) dX5_hour_115 (by decide) ?_
            exact o_eqa (by rw [nI_1]) (by rw [hstepM, pstepM, if_neg hc, if_pos c_57, if_pos c_98]) (ih (k + 1) _ (by omega) (by omega))
          · skip
            refine o_aload_n dX5_hour_101 rfl rfl ?_
            refine o_iload_n dX5_hour_102 rfl rfl ?_
            refine o_iconst dX5_hour_103 ic_2 ?_
            refine o_callSr (is := []) (ofP2) ⟨rfl, rfl⟩ dX5_hour_104 wd783 csX5_ofP rfl ⟨(Nat.le_of_ble_eq_true rfl), (Nat.le_of_ble_eq_true rfl)⟩ rfl rfl rfl (Nat.le_of_ble_eq_true rfl) (Nat.le_of_ble_eq_true rfl) (Nat.le_of_ble_eq_true rfl) ?_
            refine o_dup2 dX5_hour_107 rfl rfl ?_
            refine o_ialp (i := 52 + 3 * k) dX5_hour_108 rfl (rfl) (by omega) ?_
            refine o_iconst dX5_hour_109 ic_1 ?_
            refine o_isub dX5_hour_110 ?_
            refine o_iasp (i := 52 + 3 * k) dX5_hour_111 rfl (rfl) (by omega) rfl ?_
            refine o_inc_2 dX5_hour_112 rfl ic_1 (Nat.le_of_ble_eq_true rfl) ?_
            refine o_goto (tgt := 9) dX5_hour_115 (by decide) ?_
            exact o_eqa (by rw [nI_1]) (by rw [hstepM, pstepM, if_neg hc, if_pos c_57, if_neg c_98]; rfl) (ih (k + 1) _ (by omega) (by omega))
        · rw [← hMk.2.2] at c_57
          obtain ⟨j, hj, e1⟩ := doorM_yes c_57
          have ec : cN (nI j) = j := nI_clamp (by omega)
          refine o_aload_n dX5_hour_60 rfl rfl ?_
          refine o_iload_n dX5_hour_61 rfl rfl ?_
          refine o_iconst dX5_hour_62 ic_0 ?_
          refine o_callSr (is := []) (ofP0) ⟨rfl, rfl⟩ dX5_hour_63 wd783 csX5_ofP rfl ⟨(Nat.le_of_ble_eq_true rfl), (Nat.le_of_ble_eq_true rfl)⟩ rfl rfl rfl (Nat.le_of_ble_eq_true rfl) (Nat.le_of_ble_eq_true rfl) (Nat.le_of_ble_eq_true rfl) ?_
          refine o_aload_n dX5_hour_66 rfl rfl ?_
          refine o_iload_n dX5_hour_67 rfl rfl ?_
          refine o_iconst dX5_hour_68 ic_3 ?_
          refine o_callSr (is := []) ((tX5_ofD : PD _ _ _ _ _).mono (r2 := some (.int (nI (8 + 5 * j)))) (by rw [← hMk.2.2, e1, show (5 : Int32) = nI 5 from rfl, pk_mul, nI_add, show (3 : Int32) = nI 3 from rfl, nI_add, show 5 + 5 * j + 3 = 8 + 5 * j by omega])) ⟨rfl, rfl⟩ dX5_hour_69 wd777 csX5_ofD rfl ⟨(Nat.le_of_ble_eq_true rfl), (Nat.le_of_ble_eq_true rfl)⟩ rfl rfl rfl (Nat.le_of_ble_eq_true rfl) (Nat.le_of_ble_eq_true rfl) (Nat.le_of_ble_eq_true rfl) ?_
          refine o_ialp (i := 8 + 5 * j) dX5_hour_72 rfl (rfl) (by omega) ?_
          refine o_iasp (i := 50 + 3 * k) dX5_hour_73 rfl (rfl) (by omega) rfl ?_
          refine o_aload_n dX5_hour_74 rfl rfl ?_
          refine o_iconst dX5_hour_75 ic_3 ?_
          refine o_sipush dX5_hour_76 sp_9999 ?_
          refine o_aload_n dX5_hour_79 rfl rfl ?_
          refine o_iconst dX5_hour_80 ic_3 ?_
          refine o_ialp (i := 3) dX5_hour_81 rfl (rfl) (by decide) ?_
          refine o_iconst dX5_hour_82 ic_1 ?_
          refine o_iadd dX5_hour_83 ?_
          refine o_callSr (is := []) (tX5_least) ⟨rfl, rfl⟩ dX5_hour_84 wd805 csX5_least rfl ⟨(Nat.le_of_ble_eq_true rfl), (Nat.le_of_ble_eq_true rfl)⟩ rfl rfl rfl (Nat.le_of_ble_eq_true rfl) (Nat.le_of_ble_eq_true rfl) (Nat.le_of_ble_eq_true rfl) ?_
          refine o_iasp (i := 3) dX5_hour_87 rfl (rfl) (by decide) rfl ?_
          refine o_goto (tgt := 112) dX5_hour_88 (by decide) ?_
          refine o_inc_2 dX5_hour_112 rfl ic_1 (Nat.le_of_ble_eq_true rfl) ?_
          refine o_goto (tgt := 9) dX5_hour_115 (by decide) ?_
          exact o_eqa (by rw [nI_1]) (by rw [hstepM, pstepM, if_neg hc, if_neg c_57, e1, ec, ← upd_ne (f := hstepM g D N r k) (v := (hstepM g D N r k) (8 + 5 * j)) (show (3 : Nat) ≠ 50 + 3 * k by omega)]; rfl) (ih (k + 1) _ (by omega) (by omega))
      · have hc : gn (hstepM g D N r k) k = true ∨ (hstepM g D N r k) (50 + 3 * k) = (hstepM g D N r k) (51 + 3 * k) := Or.inr c_40
        refine o_goto (tgt := 112) dX5_hour_43 (by decide) ?_
        refine o_inc_2 dX5_hour_112 rfl ic_1 (Nat.le_of_ble_eq_true rfl) ?_
        refine o_goto (tgt := 9) dX5_hour_115 (by decide) ?_
        exact o_eqa (by rw [nI_1]) (by rw [hstepM, pstepM, if_pos hc]) (ih (k + 1) _ (by omega) (by omega))
theorem tX5_hour_m {s im wa lt rw rf nu : Nat → Int32} {hi lm rn pl sd : Int32}{r : Nat → Int32} {g : Nat → Nat} {D N h : Nat} (hg : ∀ i, g i ≤ 99) (hM : MOk r D N h) (hh : h + 1 < 2147483648) : PD mX5_hour [.ref 0, .ref 2] (mW s r im wa (nF g) hi lt rw rf lm rn pl nu sd) (none) (mW s (hourM g D N r) im wa (nF g) hi lt rw rf lm rn pl nu sd) := by
  refine PM.ofp 2 (by decide) (Nat.le_of_ble_eq_true rfl) ?_
  show Ok mX5_hour none 0 [some (.ref 0), some (.ref 2), none, none] [] (mW s r im wa (nF g) hi lt rw rf lm rn pl nu sd) 0 0 _
  refine o_aload_n dX5_hour_0 rfl rfl ?_
  refine o_iconst dX5_hour_1 ic_2 ?_
  refine o_dup2 dX5_hour_2 rfl rfl ?_
  refine o_ialp (i := 2) dX5_hour_3 rfl (rfl) (by decide) ?_
  refine o_iconst dX5_hour_4 ic_1 ?_
  refine o_iadd dX5_hour_5 ?_
  refine o_iasp (i := 2) dX5_hour_6 rfl (rfl) (by decide) rfl ?_
  refine o_iconst dX5_hour_7 ic_0 ?_
  refine o_istn_2 dX5_hour_8 rfl rfl (Nat.le_of_ble_eq_true rfl) ?_
  exact o_eqa (by rw [nI_0]) rfl (lX5_hour_m hg hM.hour hh (N + 1) 0 _ (by omega) (by omega))
theorem lX5_hoursOn_m {s im wa lt rw rf nu : Nat → Int32} {hi lm rn pl sd : Int32}{r : Nat → Int32} {g : Nat → Nat} {D N h n : Nat} (hg : ∀ i, g i ≤ 99) (hM : MOk r D N h) (hh : h + n < 2147483648) : ∀ (q k : Nat), n - k < q → k ≤ n → Ok mX5_hoursOn none 7 [some (.ref 0), some (.ref 2), some (.int (nI n)), some (.int (nI k))] [] (mW s (hoursM g D N r k) im wa (nF g) hi lt rw rf lm rn pl nu sd) 0 0 (fun r2 w2 => r2 = none ∧ w2 = mW s (hoursM g D N r n) im wa (nF g) hi lt rw rf lm rn pl nu sd) := by
  intro q
  induction q with
  | zero => intro k hq hk; omega
  | succ q ih =>
  intro k hq hk
  have hMk := hM.hours (g := g) k
  refine o_iload_n dX5_hoursOn_7 rfl rfl ?_
  refine o_iload_n dX5_hoursOn_8 rfl rfl ?_
  refine o_icmp_ge (tgt := 23) dX5_hoursOn_9 (by decide) (fun c_9 => ?_) (fun c_9 => ?_)
  · have hkN : k = n := Nat.le_antisymm hk (geI (by omega) (by omega) c_9)
    subst hkN
    refine o_vret dX5_hoursOn_23 rfl (Nat.le_of_ble_eq_true rfl) (Nat.le_of_ble_eq_true rfl) ?_
    exact ⟨rfl, rfl⟩
  · have hkN : k < n := ltI (by omega) (by omega) c_9
    refine o_aload_n dX5_hoursOn_12 rfl rfl ?_
    refine o_aload_n dX5_hoursOn_13 rfl rfl ?_
    refine o_callVd (is := [0, 1, 2, 3, 4, 5, 6, 7, 8, 9]) (tX5_hour_m hg hMk (by omega)) ⟨rfl, rfl⟩ dX5_hoursOn_14 wd808 cvX5_hour rfl ⟨(Nat.le_of_ble_eq_true rfl), (Nat.le_of_ble_eq_true rfl)⟩ hcX5 rfl rfl rfl rfl (Nat.le_of_ble_eq_true rfl) (Nat.le_of_ble_eq_true rfl) (Nat.le_of_ble_eq_true rfl) rfl ?_
    refine o_inc_3 dX5_hoursOn_17 rfl ic_1 (Nat.le_of_ble_eq_true rfl) ?_
    refine o_goto (tgt := 7) dX5_hoursOn_20 (by decide) ?_
    exact o_eqa (by rw [nI_1]) rfl (ih (k + 1) (by omega) (by omega))
theorem tX5_hoursOn_m {s im wa fr lt rw rf nu : Nat → Int32} {hi lm rn pl sd : Int32}{r : Nat → Int32} {D N h n : Nat} (hM : MOk r D N h) (hh : h + n < 2147483648) : PD mX5_hoursOn [.ref 0, .ref 2, .int (nI n)] (mW s r im wa fr hi lt rw rf lm rn pl nu sd) (none) (mW s (hoursM (frT (fA r) (fB r) D) D N r n) im wa (nF (frT (fA r) (fB r) D)) hi lt rw rf lm rn pl nu sd) := by
  refine PM.ofp 1 (by decide) (Nat.le_of_ble_eq_true rfl) ?_
  show Ok mX5_hoursOn none 0 [some (.ref 0), some (.ref 2), some (.int (nI n)), none] [] (mW s r im wa fr hi lt rw rf lm rn pl nu sd) 0 0 _
  refine o_aload_n dX5_hoursOn_0 rfl rfl ?_
  refine o_aload_n dX5_hoursOn_1 rfl rfl ?_
  refine o_callVd (is := [0, 1, 2, 3, 4, 5, 6, 7, 8, 9]) (tX5_measures_m hM.1) ⟨rfl, rfl⟩ dX5_hoursOn_2 wd801 cvX5_measures rfl ⟨(Nat.le_of_ble_eq_true rfl), (Nat.le_of_ble_eq_true rfl)⟩ hcX5 rfl rfl rfl rfl (Nat.le_of_ble_eq_true rfl) (Nat.le_of_ble_eq_true rfl) (Nat.le_of_ble_eq_true rfl) rfl ?_
  refine o_iconst dX5_hoursOn_5 ic_0 ?_
  refine o_istn_3 dX5_hoursOn_6 rfl rfl (Nat.le_of_ble_eq_true rfl) ?_
  exact o_eqa (by rw [nI_0]) rfl (lX5_hoursOn_m frT_le hM hh (n + 1) 0 (by omega) (by omega))
