def hrF (lt : Nat → Int32) (L p : Nat) : Int32 := if p < L then lt p else -1
def dgB (x : Int32) : Bool := isInB x 48 57
def kdF (x : Int32) : Int32 := if x = 112 then 0 else if x = 115 then 1 else if x = 107 then 2 else if x = 99 then 3 else if x = 111 then 4 else if x = 98 then 5 else -9
def lenC (c : Int32) : Nat := if c = 100 then 6 else if c = 112 then 5 else if c = 103 ∨ c = 114 ∨ c = 104 then 4 else if c = 119 ∨ c = 116 then 3 else 0
def ftB (c : Int32) (j : Nat) (x : Int32) : Bool := if j + 1 = lenC c then decide (x = 59) else if j = 1 ∧ c = 100 then !decide (kdF x < 0) else dgB x
/-- the first letter behind j that does not fit a statement begun by c at s -/
def fjS (lt : Nat → Int32) (L s : Nat) (c : Int32) : Nat → Nat → Nat
  | 0, j => j
  | q + 1, j => if ftB c j (hrF lt L (s + j)) then fjS lt L s c q (j + 1) else j
def bdJ (lt : Nat → Int32) (L s : Nat) : Nat := if lenC (hrF lt L s) = 0 then 0 else fjS lt L s (hrF lt L s) (lenC (hrF lt L s) - 1) 1
def gdB (lt : Nat → Int32) (L s : Nat) : Bool := !decide (lenC (hrF lt L s) = 0) && decide (bdJ lt L s = lenC (hrF lt L s))
def cntC (c : Int32) : Nat := if c = 100 then 4 else if c = 112 then 3 else if c = 103 ∨ c = 114 then 2 else 1
def nuV (lt : Nat → Int32) (L s : Nat) (j : Nat) : Int32 := if hrF lt L s = 100 then (if j = 0 then kdF (hrF lt L (s + 1)) else hrF lt L (s + 1 + j) - 48) else if hrF lt L s = 104 then 10 * (hrF lt L (s + 1) - 48) + hrF lt L (s + 2) - 48 else hrF lt L (s + 1 + j) - 48
theorem hrF_lt {lt : Nat → Int32} {L p : Nat} (h : p < L) : hrF lt L p = lt p := if_pos h
theorem hrF_ge {lt : Nat → Int32} {L p : Nat} (h : ¬ p < L) : hrF lt L p = -1 := if_neg h
theorem tX5_here {r m im wa fr lt rw rf nu : Nat → Int32} {hi sd : Int32} {L R : Nat} {p : Nat} (hp : p ≤ 1000) (hL : L ≤ 96) : PD mX5_here [.ref 0] (mW r m im wa fr hi lt rw rf (nI L) (nI R) (nI p) nu sd) (some (.int (hrF lt L p))) (mW r m im wa fr hi lt rw rf (nI L) (nI R) (nI p) nu sd) := by
  refine PM.ofp 0 (by decide) (Nat.le_of_ble_eq_true rfl) ?_
  show Ok mX5_here none 0 [some (.ref 0)] [] (mW r m im wa fr hi lt rw rf (nI L) (nI R) (nI p) nu sd) 0 0 _
  refine o_aload_n dX5_here_0 rfl rfl ?_
  refine o_getf (j := 11) dX5_here_1 rfl hcX5 inX5 (Nat.le_of_ble_eq_true rfl) wd697 rfl rfl ?_
  refine o_aload_n dX5_here_4 rfl rfl ?_
  refine o_getf (j := 9) dX5_here_5 rfl hcX5 inX5 (Nat.le_of_ble_eq_true rfl) wd695 rfl rfl ?_
  refine o_icmp_ge (tgt := 23) dX5_here_8 (by decide) (fun c_8 => ?_) (fun c_8 => ?_)
  · have q1 : ¬ p < L := Nat.not_lt.mpr (geI (by omega) (by omega) c_8)
    refine o_iconst dX5_here_23 ic_m1 ?_
    refine o_iret dX5_here_24 rfl (vp_nar_int _) (Nat.le_of_ble_eq_true rfl) (Nat.le_of_ble_eq_true rfl) ?_
    exact ⟨by rw [hrF_ge q1], rfl⟩
  · have q1 : p < L := ltI (by omega) (by omega) c_8
    refine o_aload_n dX5_here_11 rfl rfl ?_
    refine o_getf (j := 6) dX5_here_12 rfl hcX5 inX5 (Nat.le_of_ble_eq_true rfl) wd692 rfl rfl ?_
    refine o_aload_n dX5_here_15 rfl rfl ?_
    refine o_getf (j := 11) dX5_here_16 rfl hcX5 inX5 (Nat.le_of_ble_eq_true rfl) wd697 rfl rfl ?_
    refine o_ialp (i := p) dX5_here_19 rfl (rfl) (by omega) ?_
    refine o_goto (tgt := 24) dX5_here_20 (by decide) ?_
    refine o_iret dX5_here_24 rfl (vp_nar_int _) (Nat.le_of_ble_eq_true rfl) (Nat.le_of_ble_eq_true rfl) ?_
    exact ⟨by rw [hrF_lt q1], rfl⟩
def rnS (lt : Nat → Int32) (L k : Nat) : Nat → Nat → (Nat → Int32) → Bool × Nat × (Nat → Int32)
  | 0, p, nu => (true, p, nu)
  | q + 1, p, nu => if dgB (hrF lt L p) then rnS lt L k q (p + 1) (upd nu k (10 * nu k + hrF lt L p - 48)) else (false, p, nu)
theorem lX5_readsNumber {r m im wa fr lt rw rf : Nat → Int32} {hi sd : Int32} {L R : Nat} (hL : L ≤ 96) {k D : Nat} (hk : k < 4) (hD : D ≤ 2) : ∀ (q i p : Nat) (nu : Nat → Int32), i + q = D → p ≤ 900 + i → Ok mX5_readsNumber none 9 [some (.ref 0), some (.int (nI k)), some (.int (nI D)), some (.int (nI i))] [] (mW r m im wa fr hi lt rw rf (nI L) (nI R) (nI p) nu sd) 0 0 (fun a w => a = some (.int (bI (rnS lt L k q p nu).1)) ∧ w = mW r m im wa fr hi lt rw rf (nI L) (nI R) (nI (rnS lt L k q p nu).2.1) ((rnS lt L k q p nu).2.2) sd) := by
  intro q
  induction q with
  | zero =>
    intro i p nu hi hp
    have e : i = D := by omega
    subst e
    refine o_iload_n dX5_readsNumber_9 rfl rfl ?_
    refine o_iload_n dX5_readsNumber_10 rfl rfl ?_
    refine o_icmp_ge (tgt := 69) dX5_readsNumber_11 (by decide) (fun _ => ?_) (fun c => absurd (Int32.le_refl _) c)
    refine o_iconst dX5_readsNumber_69 ic_1 ?_
    refine o_iret dX5_readsNumber_70 rfl (by decide) (Nat.le_of_ble_eq_true rfl) (Nat.le_of_ble_eq_true rfl) ?_
    exact ⟨rfl, rfl⟩
  | succ q ih =>
  intro i p nu hi hp
  refine o_iload_n dX5_readsNumber_9 rfl rfl ?_
  refine o_iload_n dX5_readsNumber_10 rfl rfl ?_
  refine o_icmp_ge (tgt := 69) dX5_readsNumber_11 (by decide) (fun c_11 => ?_) (fun c_11 => ?_)
  · exact absurd (geI (by omega) (by omega) c_11) (by omega)
  · skip
    refine o_aload_n dX5_readsNumber_14 rfl rfl ?_
    refine o_callVr (is := [0, 1, 2, 3, 4, 5, 6, 7, 8, 9]) (tX5_here (by omega) hL) ⟨rfl, rfl⟩ dX5_readsNumber_15 wd745 cvX5_here rfl ⟨(Nat.le_of_ble_eq_true rfl), (Nat.le_of_ble_eq_true rfl)⟩ hcX5 rfl rfl rfl rfl (Nat.le_of_ble_eq_true rfl) (Nat.le_of_ble_eq_true rfl) (Nat.le_of_ble_eq_true rfl) ?_
    refine o_bipush dX5_readsNumber_18 bp_48 ?_
    refine o_bipush dX5_readsNumber_20 bp_57 ?_
    refine o_callSr (is := []) (tX5_isIn) ⟨rfl, rfl⟩ dX5_readsNumber_22 wd760 csX5_isIn rfl ⟨(Nat.le_of_ble_eq_true rfl), (Nat.le_of_ble_eq_true rfl)⟩ rfl rfl rfl (Nat.le_of_ble_eq_true rfl) (Nat.le_of_ble_eq_true rfl) (Nat.le_of_ble_eq_true rfl) ?_
    refine o_if_ne (tgt := 30) dX5_readsNumber_25 (by decide) (fun c_25 => ?_) (fun c_25 => ?_)
    · have hb : dgB (hrF lt L p) = true := bI_ne c_25
      refine o_aload_n dX5_readsNumber_30 rfl rfl ?_
      refine o_getf (j := 12) dX5_readsNumber_31 rfl hcX5 inX5 (Nat.le_of_ble_eq_true rfl) wd698 rfl rfl ?_
      refine o_iload_n dX5_readsNumber_34 rfl rfl ?_
      refine o_bipush dX5_readsNumber_35 bp_10 ?_
      refine o_aload_n dX5_readsNumber_37 rfl rfl ?_
      refine o_getf (j := 12) dX5_readsNumber_38 rfl hcX5 inX5 (Nat.le_of_ble_eq_true rfl) wd698 rfl rfl ?_
      refine o_iload_n dX5_readsNumber_41 rfl rfl ?_
      refine o_ialp (i := k) dX5_readsNumber_42 rfl (rfl) (by omega) ?_
      refine o_imul dX5_readsNumber_43 ?_
      refine o_aload_n dX5_readsNumber_44 rfl rfl ?_
      refine o_callVr (is := [0, 1, 2, 3, 4, 5, 6, 7, 8, 9]) (tX5_here (by omega) hL) ⟨rfl, rfl⟩ dX5_readsNumber_45 wd745 cvX5_here rfl ⟨(Nat.le_of_ble_eq_true rfl), (Nat.le_of_ble_eq_true rfl)⟩ hcX5 rfl rfl rfl rfl (Nat.le_of_ble_eq_true rfl) (Nat.le_of_ble_eq_true rfl) (Nat.le_of_ble_eq_true rfl) ?_
      refine o_iadd dX5_readsNumber_48 ?_
      refine o_bipush dX5_readsNumber_49 bp_48 ?_
      refine o_isub dX5_readsNumber_51 ?_
      refine o_iasp (i := k) dX5_readsNumber_52 rfl (rfl) (by omega) rfl ?_
      refine o_aload_n dX5_readsNumber_53 rfl rfl ?_
      refine o_dup dX5_readsNumber_54 rfl ?_
      refine o_getf (j := 11) dX5_readsNumber_55 rfl hcX5 inX5 (Nat.le_of_ble_eq_true rfl) wd697 rfl rfl ?_
      refine o_iconst dX5_readsNumber_58 ic_1 ?_
      refine o_iadd dX5_readsNumber_59 ?_
      refine o_putf (j := 11) tyX5 dX5_readsNumber_60 rfl hcX5 inX5 tyX5_ok nmX5 (Nat.le_of_ble_eq_true rfl) wd697 rfl rfl (fun _ => vp_nar_int _) (fun _ => rfl) (Nat.le_of_ble_eq_true rfl) rfl ?_
      refine o_inc_3 dX5_readsNumber_63 rfl ic_1 (Nat.le_of_ble_eq_true rfl) ?_
      refine o_goto (tgt := 9) dX5_readsNumber_66 (by decide) ?_
      rw [rnS, if_pos hb]
      exact o_eqa (by rw [nI_1]) (by rw [nI_1]; rfl) (ih (i + 1) (p + 1) _ (by omega) (by omega))
    · have hb : dgB (hrF lt L p) = false := bI_0.mp c_25
      refine o_iconst dX5_readsNumber_28 ic_0 ?_
      refine o_iret dX5_readsNumber_29 rfl (by first | exact nz_b _ | decide) (Nat.le_of_ble_eq_true rfl) (Nat.le_of_ble_eq_true rfl) ?_
      exact ⟨by rw [rnS, hb]; rfl, by rw [rnS, hb]; rfl⟩
theorem tX5_readsNumber {r m im wa fr lt rw rf : Nat → Int32} {hi sd : Int32} {L R : Nat} (hL : L ≤ 96) {nu : Nat → Int32} {p k D : Nat} (hk : k < 4) (hD : D ≤ 2) (hp : p ≤ 900) : PD mX5_readsNumber [.ref 0, .int (nI k), .int (nI D)] (mW r m im wa fr hi lt rw rf (nI L) (nI R) (nI p) nu sd) (some (.int (bI (rnS lt L k D p (upd nu k 0)).1))) (mW r m im wa fr hi lt rw rf (nI L) (nI R) (nI (rnS lt L k D p (upd nu k 0)).2.1) ((rnS lt L k D p (upd nu k 0)).2.2) sd) := by
  refine PM.ofp 1 (by decide) (Nat.le_of_ble_eq_true rfl) ?_
  show Ok mX5_readsNumber none 0 [some (.ref 0), some (.int (nI k)), some (.int (nI D)), none] [] (mW r m im wa fr hi lt rw rf (nI L) (nI R) (nI p) nu sd) 0 0 _
  refine o_aload_n dX5_readsNumber_0 rfl rfl ?_
  refine o_getf (j := 12) dX5_readsNumber_1 rfl hcX5 inX5 (Nat.le_of_ble_eq_true rfl) wd698 rfl rfl ?_
  refine o_iload_n dX5_readsNumber_4 rfl rfl ?_
  refine o_iconst dX5_readsNumber_5 ic_0 ?_
  refine o_iasp (i := k) dX5_readsNumber_6 rfl (rfl) (by omega) rfl ?_
  refine o_iconst dX5_readsNumber_7 ic_0 ?_
  refine o_istn_3 dX5_readsNumber_8 rfl rfl (Nat.le_of_ble_eq_true rfl) ?_
  exact o_post (fun a w h => h) (o_eqa (by rw [nI_0]) rfl (lX5_readsNumber hL hk hD D 0 p _ (by omega) (by omega)))
theorem rn1_yes {r m im wa fr lt rw rf : Nat → Int32} {hi sd : Int32} {L R : Nat} (hL : L ≤ 96) {nu : Nat → Int32} {p k : Nat} (hk : k < 4) (hp : p ≤ 900) (h : dgB (hrF lt L p) = true) : PD mX5_readsNumber [.ref 0, .int (nI k), .int 1] (mW r m im wa fr hi lt rw rf (nI L) (nI R) (nI p) nu sd) (some (.int 1)) (mW r m im wa fr hi lt rw rf (nI L) (nI R) (nI (p + 1)) ((upd (upd nu k 0) k (hrF lt L p - 48))) sd) := by
  have q := tX5_readsNumber (r := r) (m := m) (im := im) (wa := wa) (fr := fr) (lt := lt) (rw := rw) (rf := rf) (hi := hi) (sd := sd) (L := L) (R := R) (nu := nu) (p := p) (k := k) (D := 1) hL hk (by omega) hp
  rw [rnS, if_pos h, rnS] at q
  rw [upd_eq, show (10 : Int32) * 0 + hrF lt L p - 48 = hrF lt L p - 48 by rw [Int32.mul_zero, Int32.zero_add]] at q
  exact q
theorem rn1_no {r m im wa fr lt rw rf : Nat → Int32} {hi sd : Int32} {L R : Nat} (hL : L ≤ 96) {nu : Nat → Int32} {p k : Nat} (hk : k < 4) (hp : p ≤ 900) (h : dgB (hrF lt L p) = false) : PD mX5_readsNumber [.ref 0, .int (nI k), .int 1] (mW r m im wa fr hi lt rw rf (nI L) (nI R) (nI p) nu sd) (some (.int 0)) (mW r m im wa fr hi lt rw rf (nI L) (nI R) (nI p) ((upd nu k 0)) sd) := by
  have q := tX5_readsNumber (r := r) (m := m) (im := im) (wa := wa) (fr := fr) (lt := lt) (rw := rw) (rf := rf) (hi := hi) (sd := sd) (L := L) (R := R) (nu := nu) (p := p) (k := k) (D := 1) hL hk (by omega) hp
  rw [rnS, h] at q
  exact q
theorem rn2_yes {r m im wa fr lt rw rf : Nat → Int32} {hi sd : Int32} {L R : Nat} (hL : L ≤ 96) {nu : Nat → Int32} {p k : Nat} (hk : k < 4) (hp : p ≤ 900) (h : dgB (hrF lt L p) = true) (h2 : dgB (hrF lt L (p + 1)) = true) : PD mX5_readsNumber [.ref 0, .int (nI k), .int 2] (mW r m im wa fr hi lt rw rf (nI L) (nI R) (nI p) nu sd) (some (.int 1)) (mW r m im wa fr hi lt rw rf (nI L) (nI R) (nI (p + 1 + 1)) ((upd (upd (upd nu k 0) k (hrF lt L p - 48)) k (10 * (hrF lt L p - 48) + hrF lt L (p + 1) - 48))) sd) := by
  have q := tX5_readsNumber (r := r) (m := m) (im := im) (wa := wa) (fr := fr) (lt := lt) (rw := rw) (rf := rf) (hi := hi) (sd := sd) (L := L) (R := R) (nu := nu) (p := p) (k := k) (D := 2) hL hk (by omega) hp
  rw [rnS, if_pos h, rnS, if_pos h2, rnS] at q
  rw [upd_eq, upd_eq, show (10 : Int32) * 0 + hrF lt L p - 48 = hrF lt L p - 48 by rw [Int32.mul_zero, Int32.zero_add]] at q
  exact q
theorem rn2_no1 {r m im wa fr lt rw rf : Nat → Int32} {hi sd : Int32} {L R : Nat} (hL : L ≤ 96) {nu : Nat → Int32} {p k : Nat} (hk : k < 4) (hp : p ≤ 900) (h : dgB (hrF lt L p) = false) : PD mX5_readsNumber [.ref 0, .int (nI k), .int 2] (mW r m im wa fr hi lt rw rf (nI L) (nI R) (nI p) nu sd) (some (.int 0)) (mW r m im wa fr hi lt rw rf (nI L) (nI R) (nI p) ((upd nu k 0)) sd) := by
  have q := tX5_readsNumber (r := r) (m := m) (im := im) (wa := wa) (fr := fr) (lt := lt) (rw := rw) (rf := rf) (hi := hi) (sd := sd) (L := L) (R := R) (nu := nu) (p := p) (k := k) (D := 2) hL hk (by omega) hp
  rw [rnS, h] at q
  exact q
theorem rn2_no2 {r m im wa fr lt rw rf : Nat → Int32} {hi sd : Int32} {L R : Nat} (hL : L ≤ 96) {nu : Nat → Int32} {p k : Nat} (hk : k < 4) (hp : p ≤ 900) (h : dgB (hrF lt L p) = true) (h2 : dgB (hrF lt L (p + 1)) = false) : PD mX5_readsNumber [.ref 0, .int (nI k), .int 2] (mW r m im wa fr hi lt rw rf (nI L) (nI R) (nI p) nu sd) (some (.int 0)) (mW r m im wa fr hi lt rw rf (nI L) (nI R) (nI (p + 1)) ((upd (upd nu k 0) k (hrF lt L p - 48))) sd) := by
  have q := tX5_readsNumber (r := r) (m := m) (im := im) (wa := wa) (fr := fr) (lt := lt) (rw := rw) (rf := rf) (hi := hi) (sd := sd) (L := L) (R := R) (nu := nu) (p := p) (k := k) (D := 2) hL hk (by omega) hp
  rw [rnS, if_pos h, rnS, h2] at q
  rw [upd_eq, show (10 : Int32) * 0 + hrF lt L p - 48 = hrF lt L p - 48 by rw [Int32.mul_zero, Int32.zero_add]] at q
  exact q
theorem tX5_kindBy {x : Int32} : PD mX5_kindBy [.int x] ([]) (some (.int (kdF x))) ([]) := by
  refine PM.ofp 0 (by decide) (Nat.le_of_ble_eq_true rfl) ?_
  show Ok mX5_kindBy none 0 [some (.int x)] [] ([]) 0 0 _
  refine o_iload_n dX5_kindBy_0 rfl rfl ?_
  refine o_sw (lo := 98) (hi := 115) 18 (by decide) (by decide) (by decide) (fun hsw => ?_) (fun j hj hsw => ?_)
  · refine o_tabOut (tgt := 100) dX5_kindBy_1 hsw (by decide) ?_
    refine o_bipush dX5_kindBy_100 bp_m9 ?_
    refine o_iret dX5_kindBy_102 rfl (vp_nar_int _) (Nat.le_of_ble_eq_true rfl) (Nat.le_of_ble_eq_true rfl) ?_
    first | exact ⟨by subst hsw; rfl, rfl⟩ | exact ⟨by rw [kdF, if_neg (sw_ne hsw 112 (by decide)), if_neg (sw_ne hsw 115 (by decide)), if_neg (sw_ne hsw 107 (by decide)), if_neg (sw_ne hsw 99 (by decide)), if_neg (sw_ne hsw 111 (by decide)), if_neg (sw_ne hsw 98 (by decide))], rfl⟩
  · match j, hj, hsw with
    | 0, _, hsw =>
      refine o_tabInE (tgt := 98) (off := 97) dX5_kindBy_1 hsw (by decide) (by decide) (by decide) (by decide) ?_
      have hsw := sw_eq (l := 98) hsw (by decide)
      refine o_iconst dX5_kindBy_98 ic_5 ?_
      refine o_iret dX5_kindBy_99 rfl (vp_nar_int _) (Nat.le_of_ble_eq_true rfl) (Nat.le_of_ble_eq_true rfl) ?_
      first | exact ⟨by subst hsw; rfl, rfl⟩ | exact ⟨by rw [kdF, if_neg (sw_ne hsw 112 (by decide)), if_neg (sw_ne hsw 115 (by decide)), if_neg (sw_ne hsw 107 (by decide)), if_neg (sw_ne hsw 99 (by decide)), if_neg (sw_ne hsw 111 (by decide)), if_neg (sw_ne hsw 98 (by decide))], rfl⟩
    | 1, _, hsw =>
      refine o_tabInE (tgt := 94) (off := 93) dX5_kindBy_1 hsw (by decide) (by decide) (by decide) (by decide) ?_
      have hsw := sw_eq (l := 99) hsw (by decide)
      refine o_iconst dX5_kindBy_94 ic_3 ?_
      refine o_iret dX5_kindBy_95 rfl (vp_nar_int _) (Nat.le_of_ble_eq_true rfl) (Nat.le_of_ble_eq_true rfl) ?_
      first | exact ⟨by subst hsw; rfl, rfl⟩ | exact ⟨by rw [kdF, if_neg (sw_ne hsw 112 (by decide)), if_neg (sw_ne hsw 115 (by decide)), if_neg (sw_ne hsw 107 (by decide)), if_neg (sw_ne hsw 99 (by decide)), if_neg (sw_ne hsw 111 (by decide)), if_neg (sw_ne hsw 98 (by decide))], rfl⟩
    | 2, _, hsw =>
      refine o_tabInE (tgt := 100) (off := 99) dX5_kindBy_1 hsw (by decide) (by decide) (by decide) (by decide) ?_
      have hsw := sw_eq (l := 100) hsw (by decide)
      refine o_bipush dX5_kindBy_100 bp_m9 ?_
      refine o_iret dX5_kindBy_102 rfl (vp_nar_int _) (Nat.le_of_ble_eq_true rfl) (Nat.le_of_ble_eq_true rfl) ?_
      first | exact ⟨by subst hsw; rfl, rfl⟩ | exact ⟨by rw [kdF, if_neg (sw_ne hsw 112 (by decide)), if_neg (sw_ne hsw 115 (by decide)), if_neg (sw_ne hsw 107 (by decide)), if_neg (sw_ne hsw 99 (by decide)), if_neg (sw_ne hsw 111 (by decide)), if_neg (sw_ne hsw 98 (by decide))], rfl⟩
    | 3, _, hsw =>
      refine o_tabInE (tgt := 100) (off := 99) dX5_kindBy_1 hsw (by decide) (by decide) (by decide) (by decide) ?_
      have hsw := sw_eq (l := 101) hsw (by decide)
      refine o_bipush dX5_kindBy_100 bp_m9 ?_
      refine o_iret dX5_kindBy_102 rfl (vp_nar_int _) (Nat.le_of_ble_eq_true rfl) (Nat.le_of_ble_eq_true rfl) ?_
      first | exact ⟨by subst hsw; rfl, rfl⟩ | exact ⟨by rw [kdF, if_neg (sw_ne hsw 112 (by decide)), if_neg (sw_ne hsw 115 (by decide)), if_neg (sw_ne hsw 107 (by decide)), if_neg (sw_ne hsw 99 (by decide)), if_neg (sw_ne hsw 111 (by decide)), if_neg (sw_ne hsw 98 (by decide))], rfl⟩
    | 4, _, hsw =>
      refine o_tabInE (tgt := 100) (off := 99) dX5_kindBy_1 hsw (by decide) (by decide) (by decide) (by decide) ?_
      have hsw := sw_eq (l := 102) hsw (by decide)
      refine o_bipush dX5_kindBy_100 bp_m9 ?_
      refine o_iret dX5_kindBy_102 rfl (vp_nar_int _) (Nat.le_of_ble_eq_true rfl) (Nat.le_of_ble_eq_true rfl) ?_
      first | exact ⟨by subst hsw; rfl, rfl⟩ | exact ⟨by rw [kdF, if_neg (sw_ne hsw 112 (by decide)), if_neg (sw_ne hsw 115 (by decide)), if_neg (sw_ne hsw 107 (by decide)), if_neg (sw_ne hsw 99 (by decide)), if_neg (sw_ne hsw 111 (by decide)), if_neg (sw_ne hsw 98 (by decide))], rfl⟩
    | 5, _, hsw =>
      refine o_tabInE (tgt := 100) (off := 99) dX5_kindBy_1 hsw (by decide) (by decide) (by decide) (by decide) ?_
      have hsw := sw_eq (l := 103) hsw (by decide)
      refine o_bipush dX5_kindBy_100 bp_m9 ?_
      refine o_iret dX5_kindBy_102 rfl (vp_nar_int _) (Nat.le_of_ble_eq_true rfl) (Nat.le_of_ble_eq_true rfl) ?_
      first | exact ⟨by subst hsw; rfl, rfl⟩ | exact ⟨by rw [kdF, if_neg (sw_ne hsw 112 (by decide)), if_neg (sw_ne hsw 115 (by decide)), if_neg (sw_ne hsw 107 (by decide)), if_neg (sw_ne hsw 99 (by decide)), if_neg (sw_ne hsw 111 (by decide)), if_neg (sw_ne hsw 98 (by decide))], rfl⟩
    | 6, _, hsw =>
      refine o_tabInE (tgt := 100) (off := 99) dX5_kindBy_1 hsw (by decide) (by decide) (by decide) (by decide) ?_
      have hsw := sw_eq (l := 104) hsw (by decide)
      refine o_bipush dX5_kindBy_100 bp_m9 ?_
      refine o_iret dX5_kindBy_102 rfl (vp_nar_int _) (Nat.le_of_ble_eq_true rfl) (Nat.le_of_ble_eq_true rfl) ?_
      first | exact ⟨by subst hsw; rfl, rfl⟩ | exact ⟨by rw [kdF, if_neg (sw_ne hsw 112 (by decide)), if_neg (sw_ne hsw 115 (by decide)), if_neg (sw_ne hsw 107 (by decide)), if_neg (sw_ne hsw 99 (by decide)), if_neg (sw_ne hsw 111 (by decide)), if_neg (sw_ne hsw 98 (by decide))], rfl⟩
    | 7, _, hsw =>
      refine o_tabInE (tgt := 100) (off := 99) dX5_kindBy_1 hsw (by decide) (by decide) (by decide) (by decide) ?_
      have hsw := sw_eq (l := 105) hsw (by decide)
      refine o_bipush dX5_kindBy_100 bp_m9 ?_
      refine o_iret dX5_kindBy_102 rfl (vp_nar_int _) (Nat.le_of_ble_eq_true rfl) (Nat.le_of_ble_eq_true rfl) ?_
      first | exact ⟨by subst hsw; rfl, rfl⟩ | exact ⟨by rw [kdF, if_neg (sw_ne hsw 112 (by decide)), if_neg (sw_ne hsw 115 (by decide)), if_neg (sw_ne hsw 107 (by decide)), if_neg (sw_ne hsw 99 (by decide)), if_neg (sw_ne hsw 111 (by decide)), if_neg (sw_ne hsw 98 (by decide))], rfl⟩
    | 8, _, hsw =>
      refine o_tabInE (tgt := 100) (off := 99) dX5_kindBy_1 hsw (by decide) (by decide) (by decide) (by decide) ?_
      have hsw := sw_eq (l := 106) hsw (by decide)
      refine o_bipush dX5_kindBy_100 bp_m9 ?_
      refine o_iret dX5_kindBy_102 rfl (vp_nar_int _) (Nat.le_of_ble_eq_true rfl) (Nat.le_of_ble_eq_true rfl) ?_
      first | exact ⟨by subst hsw; rfl, rfl⟩ | exact ⟨by rw [kdF, if_neg (sw_ne hsw 112 (by decide)), if_neg (sw_ne hsw 115 (by decide)), if_neg (sw_ne hsw 107 (by decide)), if_neg (sw_ne hsw 99 (by decide)), if_neg (sw_ne hsw 111 (by decide)), if_neg (sw_ne hsw 98 (by decide))], rfl⟩
    | 9, _, hsw =>
      refine o_tabInE (tgt := 92) (off := 91) dX5_kindBy_1 hsw (by decide) (by decide) (by decide) (by decide) ?_
      have hsw := sw_eq (l := 107) hsw (by decide)
      refine o_iconst dX5_kindBy_92 ic_2 ?_
      refine o_iret dX5_kindBy_93 rfl (vp_nar_int _) (Nat.le_of_ble_eq_true rfl) (Nat.le_of_ble_eq_true rfl) ?_
      first | exact ⟨by subst hsw; rfl, rfl⟩ | exact ⟨by rw [kdF, if_neg (sw_ne hsw 112 (by decide)), if_neg (sw_ne hsw 115 (by decide)), if_neg (sw_ne hsw 107 (by decide)), if_neg (sw_ne hsw 99 (by decide)), if_neg (sw_ne hsw 111 (by decide)), if_neg (sw_ne hsw 98 (by decide))], rfl⟩
    | 10, _, hsw =>
      refine o_tabInE (tgt := 100) (off := 99) dX5_kindBy_1 hsw (by decide) (by decide) (by decide) (by decide) ?_
      have hsw := sw_eq (l := 108) hsw (by decide)
      refine o_bipush dX5_kindBy_100 bp_m9 ?_
      refine o_iret dX5_kindBy_102 rfl (vp_nar_int _) (Nat.le_of_ble_eq_true rfl) (Nat.le_of_ble_eq_true rfl) ?_
      first | exact ⟨by subst hsw; rfl, rfl⟩ | exact ⟨by rw [kdF, if_neg (sw_ne hsw 112 (by decide)), if_neg (sw_ne hsw 115 (by decide)), if_neg (sw_ne hsw 107 (by decide)), if_neg (sw_ne hsw 99 (by decide)), if_neg (sw_ne hsw 111 (by decide)), if_neg (sw_ne hsw 98 (by decide))], rfl⟩
    | 11, _, hsw =>
      refine o_tabInE (tgt := 100) (off := 99) dX5_kindBy_1 hsw (by decide) (by decide) (by decide) (by decide) ?_
      have hsw := sw_eq (l := 109) hsw (by decide)
      refine o_bipush dX5_kindBy_100 bp_m9 ?_
      refine o_iret dX5_kindBy_102 rfl (vp_nar_int _) (Nat.le_of_ble_eq_true rfl) (Nat.le_of_ble_eq_true rfl) ?_
      first | exact ⟨by subst hsw; rfl, rfl⟩ | exact ⟨by rw [kdF, if_neg (sw_ne hsw 112 (by decide)), if_neg (sw_ne hsw 115 (by decide)), if_neg (sw_ne hsw 107 (by decide)), if_neg (sw_ne hsw 99 (by decide)), if_neg (sw_ne hsw 111 (by decide)), if_neg (sw_ne hsw 98 (by decide))], rfl⟩
    | 12, _, hsw =>
      refine o_tabInE (tgt := 100) (off := 99) dX5_kindBy_1 hsw (by decide) (by decide) (by decide) (by decide) ?_
      have hsw := sw_eq (l := 110) hsw (by decide)
      refine o_bipush dX5_kindBy_100 bp_m9 ?_
      refine o_iret dX5_kindBy_102 rfl (vp_nar_int _) (Nat.le_of_ble_eq_true rfl) (Nat.le_of_ble_eq_true rfl) ?_
      first | exact ⟨by subst hsw; rfl, rfl⟩ | exact ⟨by rw [kdF, if_neg (sw_ne hsw 112 (by decide)), if_neg (sw_ne hsw 115 (by decide)), if_neg (sw_ne hsw 107 (by decide)), if_neg (sw_ne hsw 99 (by decide)), if_neg (sw_ne hsw 111 (by decide)), if_neg (sw_ne hsw 98 (by decide))], rfl⟩
    | 13, _, hsw =>
      refine o_tabInE (tgt := 96) (off := 95) dX5_kindBy_1 hsw (by decide) (by decide) (by decide) (by decide) ?_
      have hsw := sw_eq (l := 111) hsw (by decide)
      refine o_iconst dX5_kindBy_96 ic_4 ?_
      refine o_iret dX5_kindBy_97 rfl (vp_nar_int _) (Nat.le_of_ble_eq_true rfl) (Nat.le_of_ble_eq_true rfl) ?_
      first | exact ⟨by subst hsw; rfl, rfl⟩ | exact ⟨by rw [kdF, if_neg (sw_ne hsw 112 (by decide)), if_neg (sw_ne hsw 115 (by decide)), if_neg (sw_ne hsw 107 (by decide)), if_neg (sw_ne hsw 99 (by decide)), if_neg (sw_ne hsw 111 (by decide)), if_neg (sw_ne hsw 98 (by decide))], rfl⟩
    | 14, _, hsw =>
      refine o_tabInE (tgt := 88) (off := 87) dX5_kindBy_1 hsw (by decide) (by decide) (by decide) (by decide) ?_
      have hsw := sw_eq (l := 112) hsw (by decide)
      refine o_iconst dX5_kindBy_88 ic_0 ?_
      refine o_iret dX5_kindBy_89 rfl (vp_nar_int _) (Nat.le_of_ble_eq_true rfl) (Nat.le_of_ble_eq_true rfl) ?_
      first | exact ⟨by subst hsw; rfl, rfl⟩ | exact ⟨by rw [kdF, if_neg (sw_ne hsw 112 (by decide)), if_neg (sw_ne hsw 115 (by decide)), if_neg (sw_ne hsw 107 (by decide)), if_neg (sw_ne hsw 99 (by decide)), if_neg (sw_ne hsw 111 (by decide)), if_neg (sw_ne hsw 98 (by decide))], rfl⟩
    | 15, _, hsw =>
      refine o_tabInE (tgt := 100) (off := 99) dX5_kindBy_1 hsw (by decide) (by decide) (by decide) (by decide) ?_
      have hsw := sw_eq (l := 113) hsw (by decide)
      refine o_bipush dX5_kindBy_100 bp_m9 ?_
      refine o_iret dX5_kindBy_102 rfl (vp_nar_int _) (Nat.le_of_ble_eq_true rfl) (Nat.le_of_ble_eq_true rfl) ?_
      first | exact ⟨by subst hsw; rfl, rfl⟩ | exact ⟨by rw [kdF, if_neg (sw_ne hsw 112 (by decide)), if_neg (sw_ne hsw 115 (by decide)), if_neg (sw_ne hsw 107 (by decide)), if_neg (sw_ne hsw 99 (by decide)), if_neg (sw_ne hsw 111 (by decide)), if_neg (sw_ne hsw 98 (by decide))], rfl⟩
    | 16, _, hsw =>
      refine o_tabInE (tgt := 100) (off := 99) dX5_kindBy_1 hsw (by decide) (by decide) (by decide) (by decide) ?_
      have hsw := sw_eq (l := 114) hsw (by decide)
      refine o_bipush dX5_kindBy_100 bp_m9 ?_
      refine o_iret dX5_kindBy_102 rfl (vp_nar_int _) (Nat.le_of_ble_eq_true rfl) (Nat.le_of_ble_eq_true rfl) ?_
      first | exact ⟨by subst hsw; rfl, rfl⟩ | exact ⟨by rw [kdF, if_neg (sw_ne hsw 112 (by decide)), if_neg (sw_ne hsw 115 (by decide)), if_neg (sw_ne hsw 107 (by decide)), if_neg (sw_ne hsw 99 (by decide)), if_neg (sw_ne hsw 111 (by decide)), if_neg (sw_ne hsw 98 (by decide))], rfl⟩
    | 17, _, hsw =>
      refine o_tabInE (tgt := 90) (off := 89) dX5_kindBy_1 hsw (by decide) (by decide) (by decide) (by decide) ?_
      have hsw := sw_eq (l := 115) hsw (by decide)
      refine o_iconst dX5_kindBy_90 ic_1 ?_
      refine o_iret dX5_kindBy_91 rfl (vp_nar_int _) (Nat.le_of_ble_eq_true rfl) (Nat.le_of_ble_eq_true rfl) ?_
      first | exact ⟨by subst hsw; rfl, rfl⟩ | exact ⟨by rw [kdF, if_neg (sw_ne hsw 112 (by decide)), if_neg (sw_ne hsw 115 (by decide)), if_neg (sw_ne hsw 107 (by decide)), if_neg (sw_ne hsw 99 (by decide)), if_neg (sw_ne hsw 111 (by decide)), if_neg (sw_ne hsw 98 (by decide))], rfl⟩
    | j + 18, hj, _ => exact absurd hj (by omega)
theorem rk_yes {r m im wa fr lt rw rf : Nat → Int32} {hi sd : Int32} {L R : Nat} (hL : L ≤ 96) {nu : Nat → Int32} {p : Nat} (hp : p ≤ 900) (h : ¬ kdF (hrF lt L p) < 0) : PD mX5_readsKind [.ref 0] (mW r m im wa fr hi lt rw rf (nI L) (nI R) (nI p) nu sd) (some (.int 1)) (mW r m im wa fr hi lt rw rf (nI L) (nI R) (nI (p + 1)) ((upd nu 0 (kdF (hrF lt L p)))) sd) := by
  refine PM.ofp 0 (by decide) (Nat.le_of_ble_eq_true rfl) ?_
  show Ok mX5_readsKind none 0 [some (.ref 0)] [] (mW r m im wa fr hi lt rw rf (nI L) (nI R) (nI p) nu sd) 0 0 _
  refine o_aload_n dX5_readsKind_0 rfl rfl ?_
  refine o_getf (j := 12) dX5_readsKind_1 rfl hcX5 inX5 (Nat.le_of_ble_eq_true rfl) wd698 rfl rfl ?_
  refine o_iconst dX5_readsKind_4 ic_0 ?_
  refine o_aload_n dX5_readsKind_5 rfl rfl ?_
  refine o_callVr (is := [0, 1, 2, 3, 4, 5, 6, 7, 8, 9]) (tX5_here (by omega) hL) ⟨rfl, rfl⟩ dX5_readsKind_6 wd745 cvX5_here rfl ⟨(Nat.le_of_ble_eq_true rfl), (Nat.le_of_ble_eq_true rfl)⟩ hcX5 rfl rfl rfl rfl (Nat.le_of_ble_eq_true rfl) (Nat.le_of_ble_eq_true rfl) (Nat.le_of_ble_eq_true rfl) ?_
  refine o_callSr (is := []) (tX5_kindBy) ⟨rfl, rfl⟩ dX5_readsKind_9 wd753 csX5_kindBy rfl ⟨(Nat.le_of_ble_eq_true rfl), (Nat.le_of_ble_eq_true rfl)⟩ rfl rfl rfl (Nat.le_of_ble_eq_true rfl) (Nat.le_of_ble_eq_true rfl) (Nat.le_of_ble_eq_true rfl) ?_
  refine o_iasp (i := 0) dX5_readsKind_12 rfl (rfl) (by decide) rfl ?_
  refine o_aload_n dX5_readsKind_13 rfl rfl ?_
  refine o_dup dX5_readsKind_14 rfl ?_
  refine o_getf (j := 11) dX5_readsKind_15 rfl hcX5 inX5 (Nat.le_of_ble_eq_true rfl) wd697 rfl rfl ?_
  refine o_aload_n dX5_readsKind_18 rfl rfl ?_
  refine o_getf (j := 12) dX5_readsKind_19 rfl hcX5 inX5 (Nat.le_of_ble_eq_true rfl) wd698 rfl rfl ?_
  refine o_iconst dX5_readsKind_22 ic_0 ?_
  refine o_ialp (i := 0) dX5_readsKind_23 rfl (rfl) (by decide) ?_
  refine o_if_ge (tgt := 31) dX5_readsKind_24 (by decide) (fun c_24 => ?_) (fun c_24 => ?_)
  · skip
    refine o_iconst dX5_readsKind_31 ic_1 ?_
    refine o_iadd dX5_readsKind_32 ?_
    refine o_putf (j := 11) tyX5 dX5_readsKind_33 rfl hcX5 inX5 tyX5_ok nmX5 (Nat.le_of_ble_eq_true rfl) wd697 rfl rfl (fun _ => vp_nar_int _) (fun _ => rfl) (Nat.le_of_ble_eq_true rfl) rfl ?_
    refine o_aload_n dX5_readsKind_36 rfl rfl ?_
    skip
    refine o_getf (j := 12) dX5_readsKind_37 rfl hcX5 inX5 (Nat.le_of_ble_eq_true rfl) wd698 rfl rfl ?_
    refine o_iconst dX5_readsKind_40 ic_0 ?_
    refine o_ialp (i := 0) dX5_readsKind_41 rfl (rfl) (by decide) ?_
    refine o_if_lt (tgt := 49) dX5_readsKind_42 (by decide) (fun c_42 => ?_) (fun c_42 => ?_)
    · exact absurd c_42 h
    · skip
      refine o_iconst dX5_readsKind_45 ic_1 ?_
      refine o_goto (tgt := 50) dX5_readsKind_46 (by decide) ?_
      refine o_iret dX5_readsKind_50 rfl (by first | exact nz_b _ | decide) (Nat.le_of_ble_eq_true rfl) (Nat.le_of_ble_eq_true rfl) ?_
      exact ⟨rfl, by rw [nI_1]; rfl⟩
  · exact absurd (Int32.not_le.mp c_24) h
theorem rk_no {r m im wa fr lt rw rf : Nat → Int32} {hi sd : Int32} {L R : Nat} (hL : L ≤ 96) {nu : Nat → Int32} {p : Nat} (hp : p ≤ 900) (h : kdF (hrF lt L p) < 0) : PD mX5_readsKind [.ref 0] (mW r m im wa fr hi lt rw rf (nI L) (nI R) (nI p) nu sd) (some (.int 0)) (mW r m im wa fr hi lt rw rf (nI L) (nI R) (nI p) ((upd nu 0 (kdF (hrF lt L p)))) sd) := by
  refine PM.ofp 0 (by decide) (Nat.le_of_ble_eq_true rfl) ?_
  show Ok mX5_readsKind none 0 [some (.ref 0)] [] (mW r m im wa fr hi lt rw rf (nI L) (nI R) (nI p) nu sd) 0 0 _
  refine o_aload_n dX5_readsKind_0 rfl rfl ?_
  refine o_getf (j := 12) dX5_readsKind_1 rfl hcX5 inX5 (Nat.le_of_ble_eq_true rfl) wd698 rfl rfl ?_
  refine o_iconst dX5_readsKind_4 ic_0 ?_
  refine o_aload_n dX5_readsKind_5 rfl rfl ?_
  refine o_callVr (is := [0, 1, 2, 3, 4, 5, 6, 7, 8, 9]) (tX5_here (by omega) hL) ⟨rfl, rfl⟩ dX5_readsKind_6 wd745 cvX5_here rfl ⟨(Nat.le_of_ble_eq_true rfl), (Nat.le_of_ble_eq_true rfl)⟩ hcX5 rfl rfl rfl rfl (Nat.le_of_ble_eq_true rfl) (Nat.le_of_ble_eq_true rfl) (Nat.le_of_ble_eq_true rfl) ?_
  refine o_callSr (is := []) (tX5_kindBy) ⟨rfl, rfl⟩ dX5_readsKind_9 wd753 csX5_kindBy rfl ⟨(Nat.le_of_ble_eq_true rfl), (Nat.le_of_ble_eq_true rfl)⟩ rfl rfl rfl (Nat.le_of_ble_eq_true rfl) (Nat.le_of_ble_eq_true rfl) (Nat.le_of_ble_eq_true rfl) ?_
  refine o_iasp (i := 0) dX5_readsKind_12 rfl (rfl) (by decide) rfl ?_
  refine o_aload_n dX5_readsKind_13 rfl rfl ?_
  refine o_dup dX5_readsKind_14 rfl ?_
  refine o_getf (j := 11) dX5_readsKind_15 rfl hcX5 inX5 (Nat.le_of_ble_eq_true rfl) wd697 rfl rfl ?_
  refine o_aload_n dX5_readsKind_18 rfl rfl ?_
  refine o_getf (j := 12) dX5_readsKind_19 rfl hcX5 inX5 (Nat.le_of_ble_eq_true rfl) wd698 rfl rfl ?_
  refine o_iconst dX5_readsKind_22 ic_0 ?_
  refine o_ialp (i := 0) dX5_readsKind_23 rfl (rfl) (by decide) ?_
  refine o_if_ge (tgt := 31) dX5_readsKind_24 (by decide) (fun c_24 => ?_) (fun c_24 => ?_)
  · exact absurd h (Int32.not_lt.mpr c_24)
  · skip
    refine o_iconst dX5_readsKind_27 ic_0 ?_
    refine o_goto (tgt := 32) dX5_readsKind_28 (by decide) ?_
    refine o_iadd dX5_readsKind_32 ?_
    refine o_putf (j := 11) tyX5 dX5_readsKind_33 rfl hcX5 inX5 tyX5_ok nmX5 (Nat.le_of_ble_eq_true rfl) wd697 rfl rfl (fun _ => vp_nar_int _) (fun _ => rfl) (Nat.le_of_ble_eq_true rfl) rfl ?_
    refine o_aload_n dX5_readsKind_36 rfl rfl ?_
    refine o_getf (j := 12) dX5_readsKind_37 rfl hcX5 inX5 (Nat.le_of_ble_eq_true rfl) wd698 rfl rfl ?_
    refine o_iconst dX5_readsKind_40 ic_0 ?_
    refine o_ialp (i := 0) dX5_readsKind_41 rfl (rfl) (by decide) ?_
    refine o_if_lt (tgt := 49) dX5_readsKind_42 (by decide) (fun c_42 => ?_) (fun c_42 => ?_)
    · skip
      refine o_iconst dX5_readsKind_49 ic_0 ?_
      refine o_iret dX5_readsKind_50 rfl (by first | exact nz_b _ | decide) (Nat.le_of_ble_eq_true rfl) (Nat.le_of_ble_eq_true rfl) ?_
      exact ⟨rfl, by rw [Int32.add_zero]; rfl⟩
    · exact absurd h c_42
theorem o_case {M : MI} {S : Scr} {pc : Nat} {ls : List (Option Value)} {st : List Value} {w : PW} {k n : Nat} {P : Option Value → PW → Prop} {b : Bool} (h1 : b = true → Ok M S pc ls st w k n P) (h2 : b = false → Ok M S pc ls st w k n P) : Ok M S pc ls st w k n P := by
  cases hb : b with
  | true => exact h1 hb
  | false => exact h2 hb
def RSP (r m im wa fr lt rw rf : Nat → Int32) (hi sd : Int32) (L R s : Nat) : Option Value → PW → Prop := fun a w => a = some (.int (bI (gdB lt L s))) ∧ ∃ nu2, w = mW r m im wa fr hi lt rw rf (nI L) (nI R) (nI (s + bdJ lt L s)) nu2 sd ∧ (gdB lt L s = true → ∀ j, j < cntC (hrF lt L s) → nu2 j = nuV lt L s j)
theorem RSP.mk {r m im wa fr lt rw rf nu2 : Nat → Int32} {hi sd x y : Int32} {L R s : Nat} (h1 : x = bI (gdB lt L s)) (h2 : y = nI (s + bdJ lt L s)) (h3 : gdB lt L s = true → ∀ j, j < cntC (hrF lt L s) → nu2 j = nuV lt L s j) : RSP r m im wa fr lt rw rf hi sd L R s (some (.int x)) (mW r m im wa fr hi lt rw rf (nI L) (nI R) y nu2 sd) := ⟨by rw [h1], nu2, by rw [h2], h3⟩
theorem tX5_readsStatement {r m im wa fr lt rw rf : Nat → Int32} {hi sd : Int32} {L R : Nat} (hL : L ≤ 96) {nu : Nat → Int32} {s : Nat} (hs : s ≤ 800) : PM mX5_readsStatement [.ref 0] (mW r m im wa fr hi lt rw rf (nI L) (nI R) (nI s) nu sd) (RSP r m im wa fr lt rw rf hi sd L R s) := by
  refine PM.ofp 2 (by decide) (Nat.le_of_ble_eq_true rfl) ?_
  show Ok mX5_readsStatement none 0 [some (.ref 0), none, none] [] (mW r m im wa fr hi lt rw rf (nI L) (nI R) (nI s) nu sd) 0 0 _
  refine o_aload_n dX5_readsStatement_0 rfl rfl ?_
  refine o_callVr (is := [0, 1, 2, 3, 4, 5, 6, 7, 8, 9]) (tX5_here (p := s) (by omega) hL) ⟨rfl, rfl⟩ dX5_readsStatement_1 wd745 cvX5_here rfl ⟨(Nat.le_of_ble_eq_true rfl), (Nat.le_of_ble_eq_true rfl)⟩ hcX5 rfl rfl rfl rfl (Nat.le_of_ble_eq_true rfl) (Nat.le_of_ble_eq_true rfl) (Nat.le_of_ble_eq_true rfl) ?_
  refine o_istn_1 dX5_readsStatement_4 rfl rfl (Nat.le_of_ble_eq_true rfl) ?_
  refine o_aload_n dX5_readsStatement_5 rfl rfl ?_
  refine o_dup dX5_readsStatement_6 rfl ?_
  refine o_getf (j := 11) dX5_readsStatement_7 rfl hcX5 inX5 (Nat.le_of_ble_eq_true rfl) wd697 rfl rfl ?_
  refine o_iconst dX5_readsStatement_10 ic_1 ?_
  refine o_iadd dX5_readsStatement_11 ?_
  refine o_putf (j := 11) tyX5 dX5_readsStatement_12 rfl hcX5 inX5 tyX5_ok nmX5 (Nat.le_of_ble_eq_true rfl) wd697 rfl rfl (fun _ => vp_nar_int _) (fun _ => rfl) (Nat.le_of_ble_eq_true rfl) rfl ?_
  refine o_eqw (w2 := mW r m im wa fr hi lt rw rf (nI L) (nI R) (nI (s + 1)) nu sd) (by rw [nI_1]; rfl) ?_
  refine o_iload_n dX5_readsStatement_15 rfl rfl ?_
  refine o_sw (lo := 100) (hi := 119) 20 (by decide) (by decide) (by decide) (fun hsw => ?_) (fun j hj hsw => ?_)
  · refine o_tabOut (tgt := 238) dX5_readsStatement_16 hsw (by decide) ?_
    refine o_aload_n dX5_readsStatement_238 rfl rfl ?_
    refine o_dup dX5_readsStatement_239 rfl ?_
    refine o_getf (j := 11) dX5_readsStatement_240 rfl hcX5 inX5 (Nat.le_of_ble_eq_true rfl) wd697 rfl rfl ?_
    refine o_iconst dX5_readsStatement_243 ic_1 ?_
    refine o_isub dX5_readsStatement_244 ?_
    refine o_putf (j := 11) tyX5 dX5_readsStatement_245 rfl hcX5 inX5 tyX5_ok nmX5 (Nat.le_of_ble_eq_true rfl) wd697 rfl rfl (fun _ => vp_nar_int _) (fun _ => rfl) (Nat.le_of_ble_eq_true rfl) rfl ?_
    refine o_iconst dX5_readsStatement_248 ic_0 ?_
    refine o_iret dX5_readsStatement_249 rfl (by first | exact nz_b _ | decide) (Nat.le_of_ble_eq_true rfl) (Nat.le_of_ble_eq_true rfl) ?_
    have e0 : lenC (hrF lt L s) = 0 := by first | (rw [hsw]; rfl) | (rw [lenC, if_neg (sw_ne hsw 100 (by decide)), if_neg (sw_ne hsw 112 (by decide)), if_neg (fun h => by rcases h with h | h | h <;> exact sw_ne hsw _ (by decide) h), if_neg (fun h => by rcases h with h | h <;> exact sw_ne hsw _ (by decide) h)])
    have eb : bdJ lt L s = 0 := by rw [bdJ, if_pos e0]
    have eg : gdB lt L s = false := by rw [gdB, decide_eq_true e0]; rfl
    exact RSP.mk (by rw [eg]; rfl) (by rw [eb, nI_pred, Nat.add_zero]) (fun h => absurd (eg.symm.trans h) (by decide))
  · match j, hj, hsw with
    | 0, _, hsw =>
      refine o_tabInE (tgt := 112) (off := 96) dX5_readsStatement_16 hsw (by decide) (by decide) (by decide) (by decide) ?_
      have hsw := sw_eq (l := 100) hsw (by decide)
      refine o_case (b := ftB (hrF lt L s) 1 (hrF lt L (s + 1))) (fun f1 => ?_) (fun f1 => ?_)
      · rw [hsw] at f1
        refine o_aload_n dX5_readsStatement_112 rfl rfl ?_
        refine o_callVd (w2 := mW r m im wa fr hi lt rw rf (nI L) (nI R) (nI (s + 2)) ((upd nu 0 (kdF (hrF lt L (s + 1))))) sd) (is := [0, 1, 2, 3, 4, 5, 6, 7, 8, 9]) (rk_yes (p := s + 1) hL (by omega) (by simpa [ftB, lenC] using f1)) ⟨rfl, rfl⟩ dX5_readsStatement_113 wd749 cvX5_readsKind rfl ⟨(Nat.le_of_ble_eq_true rfl), (Nat.le_of_ble_eq_true rfl)⟩ hcX5 rfl rfl rfl rfl (Nat.le_of_ble_eq_true rfl) (Nat.le_of_ble_eq_true rfl) (Nat.le_of_ble_eq_true rfl) rfl ?_
        refine o_if_eq (tgt := 150) dX5_readsStatement_116 (by decide) (fun cq => absurd cq (by decide)) (fun _ => ?_)
        refine o_case (b := ftB (hrF lt L s) 2 (hrF lt L (s + 2))) (fun f2 => ?_) (fun f2 => ?_)
        · rw [hsw] at f2
          refine o_aload_n dX5_readsStatement_119 rfl rfl ?_
          refine o_iconst dX5_readsStatement_120 ic_1 ?_
          refine o_iconst dX5_readsStatement_121 ic_1 ?_
          refine o_callVd (w2 := mW r m im wa fr hi lt rw rf (nI L) (nI R) (nI (s + 3)) ((upd (upd (upd nu 0 (kdF (hrF lt L (s + 1)))) 1 0) 1 (hrF lt L (s + 2) - 48))) sd) (is := [0, 1, 2, 3, 4, 5, 6, 7, 8, 9]) (rn1_yes (k := 1) (p := s + 2) hL (by omega) (by omega) f2) ⟨rfl, rfl⟩ dX5_readsStatement_122 wd756 cvX5_readsNumber rfl ⟨(Nat.le_of_ble_eq_true rfl), (Nat.le_of_ble_eq_true rfl)⟩ hcX5 rfl rfl rfl rfl (Nat.le_of_ble_eq_true rfl) (Nat.le_of_ble_eq_true rfl) (Nat.le_of_ble_eq_true rfl) rfl ?_
          refine o_if_eq (tgt := 150) dX5_readsStatement_125 (by decide) (fun cq => absurd cq (by decide)) (fun _ => ?_)
          refine o_case (b := ftB (hrF lt L s) 3 (hrF lt L (s + 3))) (fun f3 => ?_) (fun f3 => ?_)
          · rw [hsw] at f3
            refine o_aload_n dX5_readsStatement_128 rfl rfl ?_
            refine o_iconst dX5_readsStatement_129 ic_2 ?_
            refine o_iconst dX5_readsStatement_130 ic_1 ?_
            refine o_callVd (w2 := mW r m im wa fr hi lt rw rf (nI L) (nI R) (nI (s + 4)) ((upd (upd (upd (upd (upd nu 0 (kdF (hrF lt L (s + 1)))) 1 0) 1 (hrF lt L (s + 2) - 48)) 2 0) 2 (hrF lt L (s + 3) - 48))) sd) (is := [0, 1, 2, 3, 4, 5, 6, 7, 8, 9]) (rn1_yes (k := 2) (p := s + 3) hL (by omega) (by omega) f3) ⟨rfl, rfl⟩ dX5_readsStatement_131 wd756 cvX5_readsNumber rfl ⟨(Nat.le_of_ble_eq_true rfl), (Nat.le_of_ble_eq_true rfl)⟩ hcX5 rfl rfl rfl rfl (Nat.le_of_ble_eq_true rfl) (Nat.le_of_ble_eq_true rfl) (Nat.le_of_ble_eq_true rfl) rfl ?_
            refine o_if_eq (tgt := 150) dX5_readsStatement_134 (by decide) (fun cq => absurd cq (by decide)) (fun _ => ?_)
            refine o_case (b := ftB (hrF lt L s) 4 (hrF lt L (s + 4))) (fun f4 => ?_) (fun f4 => ?_)
            · rw [hsw] at f4
              refine o_aload_n dX5_readsStatement_137 rfl rfl ?_
              refine o_iconst dX5_readsStatement_138 ic_3 ?_
              refine o_iconst dX5_readsStatement_139 ic_1 ?_
              refine o_callVd (w2 := mW r m im wa fr hi lt rw rf (nI L) (nI R) (nI (s + 5)) ((upd (upd (upd (upd (upd (upd (upd nu 0 (kdF (hrF lt L (s + 1)))) 1 0) 1 (hrF lt L (s + 2) - 48)) 2 0) 2 (hrF lt L (s + 3) - 48)) 3 0) 3 (hrF lt L (s + 4) - 48))) sd) (is := [0, 1, 2, 3, 4, 5, 6, 7, 8, 9]) (rn1_yes (k := 3) (p := s + 4) hL (by omega) (by omega) f4) ⟨rfl, rfl⟩ dX5_readsStatement_140 wd756 cvX5_readsNumber rfl ⟨(Nat.le_of_ble_eq_true rfl), (Nat.le_of_ble_eq_true rfl)⟩ hcX5 rfl rfl rfl rfl (Nat.le_of_ble_eq_true rfl) (Nat.le_of_ble_eq_true rfl) (Nat.le_of_ble_eq_true rfl) rfl ?_
              refine o_if_eq (tgt := 150) dX5_readsStatement_143 (by decide) (fun cq => absurd cq (by decide)) (fun _ => ?_)
              refine o_iconst dX5_readsStatement_146 ic_1 ?_
              refine o_goto (tgt := 151) dX5_readsStatement_147 (by decide) ?_
              refine o_istn_2 dX5_readsStatement_151 rfl rfl (Nat.le_of_ble_eq_true rfl) ?_
              refine o_goto (tgt := 250) dX5_readsStatement_152 (by decide) ?_
              refine o_iload_n dX5_readsStatement_250 rfl rfl ?_
              refine o_if_eq (tgt := 263) dX5_readsStatement_251 (by decide) (fun cq => absurd cq (by decide)) (fun _ => ?_)
              refine o_aload_n dX5_readsStatement_254 rfl rfl ?_
              refine o_callVr (is := [0, 1, 2, 3, 4, 5, 6, 7, 8, 9]) (tX5_here (p := s + 5) (by omega) hL) ⟨rfl, rfl⟩ dX5_readsStatement_255 wd745 cvX5_here rfl ⟨(Nat.le_of_ble_eq_true rfl), (Nat.le_of_ble_eq_true rfl)⟩ hcX5 rfl rfl rfl rfl (Nat.le_of_ble_eq_true rfl) (Nat.le_of_ble_eq_true rfl) (Nat.le_of_ble_eq_true rfl) ?_
              refine o_bipush dX5_readsStatement_258 bp_59 ?_
              refine o_icmp_eq (tgt := 265) dX5_readsStatement_260 (by decide) (fun c_260 => ?_) (fun c_260 => ?_)
              · have f5 : ftB 100 5 (hrF lt L (s + 5)) = true := decide_eq_true c_260
                refine o_aload_n dX5_readsStatement_265 rfl rfl ?_
                refine o_dup dX5_readsStatement_266 rfl ?_
                refine o_getf (j := 11) dX5_readsStatement_267 rfl hcX5 inX5 (Nat.le_of_ble_eq_true rfl) wd697 rfl rfl ?_
                refine o_iconst dX5_readsStatement_270 ic_1 ?_
                refine o_iadd dX5_readsStatement_271 ?_
                refine o_putf (j := 11) tyX5 dX5_readsStatement_272 rfl hcX5 inX5 tyX5_ok nmX5 (Nat.le_of_ble_eq_true rfl) wd697 rfl rfl (fun _ => vp_nar_int _) (fun _ => rfl) (Nat.le_of_ble_eq_true rfl) rfl ?_
                refine o_iconst dX5_readsStatement_275 ic_1 ?_
                refine o_iret dX5_readsStatement_276 rfl (by first | exact nz_b _ | decide) (Nat.le_of_ble_eq_true rfl) (Nat.le_of_ble_eq_true rfl) ?_
                have eb : bdJ lt L s = 6 := by
                  rw [bdJ, hsw]
                  show fjS lt L s 100 5 1 = 6
                  rw [fjS, if_pos f1, fjS, if_pos f2, fjS, if_pos f3, fjS, if_pos f4, fjS, if_pos f5, fjS]
                have eg : gdB lt L s = true := by rw [gdB, eb, hsw]; rfl
                exact RSP.mk (by rw [eg]; rfl) (by rw [eb, nI_1]) (fun _ j hj => by
                  rw [hsw] at hj
                  rw [nuV, hsw]
                  have hj : j < 4 := hj
                  match j, hj with
                  | 0, _ => rfl
                  | 1, _ => rfl
                  | 2, _ => rfl
                  | 3, _ => rfl)
              · have f5 : ftB 100 5 (hrF lt L (s + 5)) = false := decide_eq_false c_260
                refine o_iconst dX5_readsStatement_263 ic_0 ?_
                refine o_iret dX5_readsStatement_264 rfl (by first | exact nz_b _ | decide) (Nat.le_of_ble_eq_true rfl) (Nat.le_of_ble_eq_true rfl) ?_
                have eb : bdJ lt L s = 5 := by
                  rw [bdJ, hsw]
                  show fjS lt L s 100 5 1 = 5
                  rw [fjS, if_pos f1, fjS, if_pos f2, fjS, if_pos f3, fjS, if_pos f4, fjS, f5]
                  rfl
                have eg : gdB lt L s = false := by rw [gdB, eb, hsw]; rfl
                exact RSP.mk (by rw [eg]; rfl) (by rw [eb]) (fun h => absurd (eg.symm.trans h) (by decide))
            · rw [hsw] at f4
              refine o_aload_n dX5_readsStatement_137 rfl rfl ?_
              refine o_iconst dX5_readsStatement_138 ic_3 ?_
              refine o_iconst dX5_readsStatement_139 ic_1 ?_
              refine o_callVd (w2 := mW r m im wa fr hi lt rw rf (nI L) (nI R) (nI (s + 4)) ((upd (upd (upd (upd (upd (upd nu 0 (kdF (hrF lt L (s + 1)))) 1 0) 1 (hrF lt L (s + 2) - 48)) 2 0) 2 (hrF lt L (s + 3) - 48)) 3 0)) sd) (is := [0, 1, 2, 3, 4, 5, 6, 7, 8, 9]) (rn1_no (k := 3) (p := s + 4) hL (by omega) (by omega) f4) ⟨rfl, rfl⟩ dX5_readsStatement_140 wd756 cvX5_readsNumber rfl ⟨(Nat.le_of_ble_eq_true rfl), (Nat.le_of_ble_eq_true rfl)⟩ hcX5 rfl rfl rfl rfl (Nat.le_of_ble_eq_true rfl) (Nat.le_of_ble_eq_true rfl) (Nat.le_of_ble_eq_true rfl) rfl ?_
              refine o_if_eq (tgt := 150) dX5_readsStatement_143 (by decide) (fun _ => ?_) (fun cq => absurd (by decide) cq)
              refine o_iconst dX5_readsStatement_150 ic_0 ?_
              refine o_istn_2 dX5_readsStatement_151 rfl rfl (Nat.le_of_ble_eq_true rfl) ?_
              refine o_goto (tgt := 250) dX5_readsStatement_152 (by decide) ?_
              refine o_iload_n dX5_readsStatement_250 rfl rfl ?_
              refine o_if_eq (tgt := 263) dX5_readsStatement_251 (by decide) (fun _ => ?_) (fun cq => absurd (by decide) cq)
              refine o_iconst dX5_readsStatement_263 ic_0 ?_
              refine o_iret dX5_readsStatement_264 rfl (by first | exact nz_b _ | decide) (Nat.le_of_ble_eq_true rfl) (Nat.le_of_ble_eq_true rfl) ?_
              have eb : bdJ lt L s = 4 := by
                rw [bdJ, hsw]
                show fjS lt L s 100 5 1 = 4
                rw [fjS, if_pos f1, fjS, if_pos f2, fjS, if_pos f3, fjS, f4]
                rfl
              have eg : gdB lt L s = false := by rw [gdB, eb, hsw]; rfl
              exact RSP.mk (by rw [eg]; rfl) (by rw [eb]) (fun h => absurd (eg.symm.trans h) (by decide))
          · rw [hsw] at f3
            refine o_aload_n dX5_readsStatement_128 rfl rfl ?_
            refine o_iconst dX5_readsStatement_129 ic_2 ?_
            refine o_iconst dX5_readsStatement_130 ic_1 ?_
            refine o_callVd (w2 := mW r m im wa fr hi lt rw rf (nI L) (nI R) (nI (s + 3)) ((upd (upd (upd (upd nu 0 (kdF (hrF lt L (s + 1)))) 1 0) 1 (hrF lt L (s + 2) - 48)) 2 0)) sd) (is := [0, 1, 2, 3, 4, 5, 6, 7, 8, 9]) (rn1_no (k := 2) (p := s + 3) hL (by omega) (by omega) f3) ⟨rfl, rfl⟩ dX5_readsStatement_131 wd756 cvX5_readsNumber rfl ⟨(Nat.le_of_ble_eq_true rfl), (Nat.le_of_ble_eq_true rfl)⟩ hcX5 rfl rfl rfl rfl (Nat.le_of_ble_eq_true rfl) (Nat.le_of_ble_eq_true rfl) (Nat.le_of_ble_eq_true rfl) rfl ?_
            refine o_if_eq (tgt := 150) dX5_readsStatement_134 (by decide) (fun _ => ?_) (fun cq => absurd (by decide) cq)
            refine o_iconst dX5_readsStatement_150 ic_0 ?_
            refine o_istn_2 dX5_readsStatement_151 rfl rfl (Nat.le_of_ble_eq_true rfl) ?_
            refine o_goto (tgt := 250) dX5_readsStatement_152 (by decide) ?_
            refine o_iload_n dX5_readsStatement_250 rfl rfl ?_
            refine o_if_eq (tgt := 263) dX5_readsStatement_251 (by decide) (fun _ => ?_) (fun cq => absurd (by decide) cq)
            refine o_iconst dX5_readsStatement_263 ic_0 ?_
            refine o_iret dX5_readsStatement_264 rfl (by first | exact nz_b _ | decide) (Nat.le_of_ble_eq_true rfl) (Nat.le_of_ble_eq_true rfl) ?_
            have eb : bdJ lt L s = 3 := by
              rw [bdJ, hsw]
              show fjS lt L s 100 5 1 = 3
              rw [fjS, if_pos f1, fjS, if_pos f2, fjS, f3]
              rfl
            have eg : gdB lt L s = false := by rw [gdB, eb, hsw]; rfl
            exact RSP.mk (by rw [eg]; rfl) (by rw [eb]) (fun h => absurd (eg.symm.trans h) (by decide))
        · rw [hsw] at f2
          refine o_aload_n dX5_readsStatement_119 rfl rfl ?_
          refine o_iconst dX5_readsStatement_120 ic_1 ?_
          refine o_iconst dX5_readsStatement_121 ic_1 ?_
          refine o_callVd (w2 := mW r m im wa fr hi lt rw rf (nI L) (nI R) (nI (s + 2)) ((upd (upd nu 0 (kdF (hrF lt L (s + 1)))) 1 0)) sd) (is := [0, 1, 2, 3, 4, 5, 6, 7, 8, 9]) (rn1_no (k := 1) (p := s + 2) hL (by omega) (by omega) f2) ⟨rfl, rfl⟩ dX5_readsStatement_122 wd756 cvX5_readsNumber rfl ⟨(Nat.le_of_ble_eq_true rfl), (Nat.le_of_ble_eq_true rfl)⟩ hcX5 rfl rfl rfl rfl (Nat.le_of_ble_eq_true rfl) (Nat.le_of_ble_eq_true rfl) (Nat.le_of_ble_eq_true rfl) rfl ?_
          refine o_if_eq (tgt := 150) dX5_readsStatement_125 (by decide) (fun _ => ?_) (fun cq => absurd (by decide) cq)
          refine o_iconst dX5_readsStatement_150 ic_0 ?_
          refine o_istn_2 dX5_readsStatement_151 rfl rfl (Nat.le_of_ble_eq_true rfl) ?_
          refine o_goto (tgt := 250) dX5_readsStatement_152 (by decide) ?_
          refine o_iload_n dX5_readsStatement_250 rfl rfl ?_
          refine o_if_eq (tgt := 263) dX5_readsStatement_251 (by decide) (fun _ => ?_) (fun cq => absurd (by decide) cq)
          refine o_iconst dX5_readsStatement_263 ic_0 ?_
          refine o_iret dX5_readsStatement_264 rfl (by first | exact nz_b _ | decide) (Nat.le_of_ble_eq_true rfl) (Nat.le_of_ble_eq_true rfl) ?_
          have eb : bdJ lt L s = 2 := by
            rw [bdJ, hsw]
            show fjS lt L s 100 5 1 = 2
            rw [fjS, if_pos f1, fjS, f2]
            rfl
          have eg : gdB lt L s = false := by rw [gdB, eb, hsw]; rfl
          exact RSP.mk (by rw [eg]; rfl) (by rw [eb]) (fun h => absurd (eg.symm.trans h) (by decide))
      · rw [hsw] at f1
        refine o_aload_n dX5_readsStatement_112 rfl rfl ?_
        refine o_callVd (w2 := mW r m im wa fr hi lt rw rf (nI L) (nI R) (nI (s + 1)) ((upd nu 0 (kdF (hrF lt L (s + 1))))) sd) (is := [0, 1, 2, 3, 4, 5, 6, 7, 8, 9]) (rk_no (p := s + 1) hL (by omega) (by simpa [ftB, lenC] using f1)) ⟨rfl, rfl⟩ dX5_readsStatement_113 wd749 cvX5_readsKind rfl ⟨(Nat.le_of_ble_eq_true rfl), (Nat.le_of_ble_eq_true rfl)⟩ hcX5 rfl rfl rfl rfl (Nat.le_of_ble_eq_true rfl) (Nat.le_of_ble_eq_true rfl) (Nat.le_of_ble_eq_true rfl) rfl ?_
        refine o_if_eq (tgt := 150) dX5_readsStatement_116 (by decide) (fun _ => ?_) (fun cq => absurd (by decide) cq)
        refine o_iconst dX5_readsStatement_150 ic_0 ?_
        refine o_istn_2 dX5_readsStatement_151 rfl rfl (Nat.le_of_ble_eq_true rfl) ?_
        refine o_goto (tgt := 250) dX5_readsStatement_152 (by decide) ?_
        refine o_iload_n dX5_readsStatement_250 rfl rfl ?_
        refine o_if_eq (tgt := 263) dX5_readsStatement_251 (by decide) (fun _ => ?_) (fun cq => absurd (by decide) cq)
        refine o_iconst dX5_readsStatement_263 ic_0 ?_
        refine o_iret dX5_readsStatement_264 rfl (by first | exact nz_b _ | decide) (Nat.le_of_ble_eq_true rfl) (Nat.le_of_ble_eq_true rfl) ?_
        have eb : bdJ lt L s = 1 := by
          rw [bdJ, hsw]
          show fjS lt L s 100 5 1 = 1
          rw [fjS, f1]
          rfl
        have eg : gdB lt L s = false := by rw [gdB, eb, hsw]; rfl
        exact RSP.mk (by rw [eg]; rfl) (by rw [eb]) (fun h => absurd (eg.symm.trans h) (by decide))
    | 1, _, hsw =>
      refine o_tabInE (tgt := 238) (off := 222) dX5_readsStatement_16 hsw (by decide) (by decide) (by decide) (by decide) ?_
      have hsw := sw_eq (l := 101) hsw (by decide)
      refine o_aload_n dX5_readsStatement_238 rfl rfl ?_
      refine o_dup dX5_readsStatement_239 rfl ?_
      refine o_getf (j := 11) dX5_readsStatement_240 rfl hcX5 inX5 (Nat.le_of_ble_eq_true rfl) wd697 rfl rfl ?_
      refine o_iconst dX5_readsStatement_243 ic_1 ?_
      refine o_isub dX5_readsStatement_244 ?_
      refine o_putf (j := 11) tyX5 dX5_readsStatement_245 rfl hcX5 inX5 tyX5_ok nmX5 (Nat.le_of_ble_eq_true rfl) wd697 rfl rfl (fun _ => vp_nar_int _) (fun _ => rfl) (Nat.le_of_ble_eq_true rfl) rfl ?_
      refine o_iconst dX5_readsStatement_248 ic_0 ?_
      refine o_iret dX5_readsStatement_249 rfl (by first | exact nz_b _ | decide) (Nat.le_of_ble_eq_true rfl) (Nat.le_of_ble_eq_true rfl) ?_
      have e0 : lenC (hrF lt L s) = 0 := by first | (rw [hsw]; rfl) | (rw [lenC, if_neg (sw_ne hsw 100 (by decide)), if_neg (sw_ne hsw 112 (by decide)), if_neg (fun h => by rcases h with h | h | h <;> exact sw_ne hsw _ (by decide) h), if_neg (fun h => by rcases h with h | h <;> exact sw_ne hsw _ (by decide) h)])
      have eb : bdJ lt L s = 0 := by rw [bdJ, if_pos e0]
      have eg : gdB lt L s = false := by rw [gdB, decide_eq_true e0]; rfl
      exact RSP.mk (by rw [eg]; rfl) (by rw [eb, nI_pred, Nat.add_zero]) (fun h => absurd (eg.symm.trans h) (by decide))
    | 2, _, hsw =>
      refine o_tabInE (tgt := 238) (off := 222) dX5_readsStatement_16 hsw (by decide) (by decide) (by decide) (by decide) ?_
      have hsw := sw_eq (l := 102) hsw (by decide)
      refine o_aload_n dX5_readsStatement_238 rfl rfl ?_
      refine o_dup dX5_readsStatement_239 rfl ?_
      refine o_getf (j := 11) dX5_readsStatement_240 rfl hcX5 inX5 (Nat.le_of_ble_eq_true rfl) wd697 rfl rfl ?_
      refine o_iconst dX5_readsStatement_243 ic_1 ?_
      refine o_isub dX5_readsStatement_244 ?_
      refine o_putf (j := 11) tyX5 dX5_readsStatement_245 rfl hcX5 inX5 tyX5_ok nmX5 (Nat.le_of_ble_eq_true rfl) wd697 rfl rfl (fun _ => vp_nar_int _) (fun _ => rfl) (Nat.le_of_ble_eq_true rfl) rfl ?_
      refine o_iconst dX5_readsStatement_248 ic_0 ?_
      refine o_iret dX5_readsStatement_249 rfl (by first | exact nz_b _ | decide) (Nat.le_of_ble_eq_true rfl) (Nat.le_of_ble_eq_true rfl) ?_
      have e0 : lenC (hrF lt L s) = 0 := by first | (rw [hsw]; rfl) | (rw [lenC, if_neg (sw_ne hsw 100 (by decide)), if_neg (sw_ne hsw 112 (by decide)), if_neg (fun h => by rcases h with h | h | h <;> exact sw_ne hsw _ (by decide) h), if_neg (fun h => by rcases h with h | h <;> exact sw_ne hsw _ (by decide) h)])
      have eb : bdJ lt L s = 0 := by rw [bdJ, if_pos e0]
      have eg : gdB lt L s = false := by rw [gdB, decide_eq_true e0]; rfl
      exact RSP.mk (by rw [eg]; rfl) (by rw [eb, nI_pred, Nat.add_zero]) (fun h => absurd (eg.symm.trans h) (by decide))
    | 3, _, hsw =>
      refine o_tabInE (tgt := 191) (off := 175) dX5_readsStatement_16 hsw (by decide) (by decide) (by decide) (by decide) ?_
      have hsw := sw_eq (l := 103) hsw (by decide)
      refine o_case (b := ftB (hrF lt L s) 1 (hrF lt L (s + 1))) (fun f1 => ?_) (fun f1 => ?_)
      · rw [hsw] at f1
        refine o_aload_n dX5_readsStatement_191 rfl rfl ?_
        refine o_iconst dX5_readsStatement_192 ic_0 ?_
        refine o_iconst dX5_readsStatement_193 ic_1 ?_
        refine o_callVd (w2 := mW r m im wa fr hi lt rw rf (nI L) (nI R) (nI (s + 2)) ((upd (upd nu 0 0) 0 (hrF lt L (s + 1) - 48))) sd) (is := [0, 1, 2, 3, 4, 5, 6, 7, 8, 9]) (rn1_yes (k := 0) (p := s + 1) hL (by omega) (by omega) f1) ⟨rfl, rfl⟩ dX5_readsStatement_194 wd756 cvX5_readsNumber rfl ⟨(Nat.le_of_ble_eq_true rfl), (Nat.le_of_ble_eq_true rfl)⟩ hcX5 rfl rfl rfl rfl (Nat.le_of_ble_eq_true rfl) (Nat.le_of_ble_eq_true rfl) (Nat.le_of_ble_eq_true rfl) rfl ?_
        refine o_if_eq (tgt := 213) dX5_readsStatement_197 (by decide) (fun cq => absurd cq (by decide)) (fun _ => ?_)
        refine o_case (b := ftB (hrF lt L s) 2 (hrF lt L (s + 2))) (fun f2 => ?_) (fun f2 => ?_)
        · rw [hsw] at f2
          refine o_aload_n dX5_readsStatement_200 rfl rfl ?_
          refine o_iconst dX5_readsStatement_201 ic_1 ?_
          refine o_iconst dX5_readsStatement_202 ic_1 ?_
          refine o_callVd (w2 := mW r m im wa fr hi lt rw rf (nI L) (nI R) (nI (s + 3)) ((upd (upd (upd (upd nu 0 0) 0 (hrF lt L (s + 1) - 48)) 1 0) 1 (hrF lt L (s + 2) - 48))) sd) (is := [0, 1, 2, 3, 4, 5, 6, 7, 8, 9]) (rn1_yes (k := 1) (p := s + 2) hL (by omega) (by omega) f2) ⟨rfl, rfl⟩ dX5_readsStatement_203 wd756 cvX5_readsNumber rfl ⟨(Nat.le_of_ble_eq_true rfl), (Nat.le_of_ble_eq_true rfl)⟩ hcX5 rfl rfl rfl rfl (Nat.le_of_ble_eq_true rfl) (Nat.le_of_ble_eq_true rfl) (Nat.le_of_ble_eq_true rfl) rfl ?_
          refine o_if_eq (tgt := 213) dX5_readsStatement_206 (by decide) (fun cq => absurd cq (by decide)) (fun _ => ?_)
          refine o_iconst dX5_readsStatement_209 ic_1 ?_
          refine o_goto (tgt := 214) dX5_readsStatement_210 (by decide) ?_
          refine o_istn_2 dX5_readsStatement_214 rfl rfl (Nat.le_of_ble_eq_true rfl) ?_
          refine o_goto (tgt := 250) dX5_readsStatement_215 (by decide) ?_
          refine o_iload_n dX5_readsStatement_250 rfl rfl ?_
          refine o_if_eq (tgt := 263) dX5_readsStatement_251 (by decide) (fun cq => absurd cq (by decide)) (fun _ => ?_)
          refine o_aload_n dX5_readsStatement_254 rfl rfl ?_
          refine o_callVr (is := [0, 1, 2, 3, 4, 5, 6, 7, 8, 9]) (tX5_here (p := s + 3) (by omega) hL) ⟨rfl, rfl⟩ dX5_readsStatement_255 wd745 cvX5_here rfl ⟨(Nat.le_of_ble_eq_true rfl), (Nat.le_of_ble_eq_true rfl)⟩ hcX5 rfl rfl rfl rfl (Nat.le_of_ble_eq_true rfl) (Nat.le_of_ble_eq_true rfl) (Nat.le_of_ble_eq_true rfl) ?_
          refine o_bipush dX5_readsStatement_258 bp_59 ?_
          refine o_icmp_eq (tgt := 265) dX5_readsStatement_260 (by decide) (fun c_260 => ?_) (fun c_260 => ?_)
          · have f3 : ftB 103 3 (hrF lt L (s + 3)) = true := decide_eq_true c_260
            refine o_aload_n dX5_readsStatement_265 rfl rfl ?_
            refine o_dup dX5_readsStatement_266 rfl ?_
            refine o_getf (j := 11) dX5_readsStatement_267 rfl hcX5 inX5 (Nat.le_of_ble_eq_true rfl) wd697 rfl rfl ?_
            refine o_iconst dX5_readsStatement_270 ic_1 ?_
            refine o_iadd dX5_readsStatement_271 ?_
            refine o_putf (j := 11) tyX5 dX5_readsStatement_272 rfl hcX5 inX5 tyX5_ok nmX5 (Nat.le_of_ble_eq_true rfl) wd697 rfl rfl (fun _ => vp_nar_int _) (fun _ => rfl) (Nat.le_of_ble_eq_true rfl) rfl ?_
            refine o_iconst dX5_readsStatement_275 ic_1 ?_
            refine o_iret dX5_readsStatement_276 rfl (by first | exact nz_b _ | decide) (Nat.le_of_ble_eq_true rfl) (Nat.le_of_ble_eq_true rfl) ?_
            have eb : bdJ lt L s = 4 := by
              rw [bdJ, hsw]
              show fjS lt L s 103 3 1 = 4
              rw [fjS, if_pos f1, fjS, if_pos f2, fjS, if_pos f3, fjS]
            have eg : gdB lt L s = true := by rw [gdB, eb, hsw]; rfl
            exact RSP.mk (by rw [eg]; rfl) (by rw [eb, nI_1]) (fun _ j hj => by
              rw [hsw] at hj
              rw [nuV, hsw]
              have hj : j < 2 := hj
              match j, hj with
              | 0, _ => rfl
              | 1, _ => rfl)
          · have f3 : ftB 103 3 (hrF lt L (s + 3)) = false := decide_eq_false c_260
            refine o_iconst dX5_readsStatement_263 ic_0 ?_
            refine o_iret dX5_readsStatement_264 rfl (by first | exact nz_b _ | decide) (Nat.le_of_ble_eq_true rfl) (Nat.le_of_ble_eq_true rfl) ?_
            have eb : bdJ lt L s = 3 := by
              rw [bdJ, hsw]
              show fjS lt L s 103 3 1 = 3
              rw [fjS, if_pos f1, fjS, if_pos f2, fjS, f3]
              rfl
            have eg : gdB lt L s = false := by rw [gdB, eb, hsw]; rfl
            exact RSP.mk (by rw [eg]; rfl) (by rw [eb]) (fun h => absurd (eg.symm.trans h) (by decide))
        · rw [hsw] at f2
          refine o_aload_n dX5_readsStatement_200 rfl rfl ?_
          refine o_iconst dX5_readsStatement_201 ic_1 ?_
          refine o_iconst dX5_readsStatement_202 ic_1 ?_
          refine o_callVd (w2 := mW r m im wa fr hi lt rw rf (nI L) (nI R) (nI (s + 2)) ((upd (upd (upd nu 0 0) 0 (hrF lt L (s + 1) - 48)) 1 0)) sd) (is := [0, 1, 2, 3, 4, 5, 6, 7, 8, 9]) (rn1_no (k := 1) (p := s + 2) hL (by omega) (by omega) f2) ⟨rfl, rfl⟩ dX5_readsStatement_203 wd756 cvX5_readsNumber rfl ⟨(Nat.le_of_ble_eq_true rfl), (Nat.le_of_ble_eq_true rfl)⟩ hcX5 rfl rfl rfl rfl (Nat.le_of_ble_eq_true rfl) (Nat.le_of_ble_eq_true rfl) (Nat.le_of_ble_eq_true rfl) rfl ?_
          refine o_if_eq (tgt := 213) dX5_readsStatement_206 (by decide) (fun _ => ?_) (fun cq => absurd (by decide) cq)
          refine o_iconst dX5_readsStatement_213 ic_0 ?_
          refine o_istn_2 dX5_readsStatement_214 rfl rfl (Nat.le_of_ble_eq_true rfl) ?_
          refine o_goto (tgt := 250) dX5_readsStatement_215 (by decide) ?_
          refine o_iload_n dX5_readsStatement_250 rfl rfl ?_
          refine o_if_eq (tgt := 263) dX5_readsStatement_251 (by decide) (fun _ => ?_) (fun cq => absurd (by decide) cq)
          refine o_iconst dX5_readsStatement_263 ic_0 ?_
          refine o_iret dX5_readsStatement_264 rfl (by first | exact nz_b _ | decide) (Nat.le_of_ble_eq_true rfl) (Nat.le_of_ble_eq_true rfl) ?_
          have eb : bdJ lt L s = 2 := by
            rw [bdJ, hsw]
            show fjS lt L s 103 3 1 = 2
            rw [fjS, if_pos f1, fjS, f2]
            rfl
          have eg : gdB lt L s = false := by rw [gdB, eb, hsw]; rfl
          exact RSP.mk (by rw [eg]; rfl) (by rw [eb]) (fun h => absurd (eg.symm.trans h) (by decide))
      · rw [hsw] at f1
        refine o_aload_n dX5_readsStatement_191 rfl rfl ?_
        refine o_iconst dX5_readsStatement_192 ic_0 ?_
        refine o_iconst dX5_readsStatement_193 ic_1 ?_
        refine o_callVd (w2 := mW r m im wa fr hi lt rw rf (nI L) (nI R) (nI (s + 1)) ((upd nu 0 0)) sd) (is := [0, 1, 2, 3, 4, 5, 6, 7, 8, 9]) (rn1_no (k := 0) (p := s + 1) hL (by omega) (by omega) f1) ⟨rfl, rfl⟩ dX5_readsStatement_194 wd756 cvX5_readsNumber rfl ⟨(Nat.le_of_ble_eq_true rfl), (Nat.le_of_ble_eq_true rfl)⟩ hcX5 rfl rfl rfl rfl (Nat.le_of_ble_eq_true rfl) (Nat.le_of_ble_eq_true rfl) (Nat.le_of_ble_eq_true rfl) rfl ?_
        refine o_if_eq (tgt := 213) dX5_readsStatement_197 (by decide) (fun _ => ?_) (fun cq => absurd (by decide) cq)
        refine o_iconst dX5_readsStatement_213 ic_0 ?_
        refine o_istn_2 dX5_readsStatement_214 rfl rfl (Nat.le_of_ble_eq_true rfl) ?_
        refine o_goto (tgt := 250) dX5_readsStatement_215 (by decide) ?_
        refine o_iload_n dX5_readsStatement_250 rfl rfl ?_
        refine o_if_eq (tgt := 263) dX5_readsStatement_251 (by decide) (fun _ => ?_) (fun cq => absurd (by decide) cq)
        refine o_iconst dX5_readsStatement_263 ic_0 ?_
        refine o_iret dX5_readsStatement_264 rfl (by first | exact nz_b _ | decide) (Nat.le_of_ble_eq_true rfl) (Nat.le_of_ble_eq_true rfl) ?_
        have eb : bdJ lt L s = 1 := by
          rw [bdJ, hsw]
          show fjS lt L s 103 3 1 = 1
          rw [fjS, f1]
          rfl
        have eg : gdB lt L s = false := by rw [gdB, eb, hsw]; rfl
        exact RSP.mk (by rw [eg]; rfl) (by rw [eb]) (fun h => absurd (eg.symm.trans h) (by decide))
    | 4, _, hsw =>
      refine o_tabInE (tgt := 228) (off := 212) dX5_readsStatement_16 hsw (by decide) (by decide) (by decide) (by decide) ?_
      have hsw := sw_eq (l := 104) hsw (by decide)
      refine o_case (b := ftB (hrF lt L s) 1 (hrF lt L (s + 1))) (fun f1 => o_case (b := ftB (hrF lt L s) 2 (hrF lt L (s + 2))) (fun f2 => ?_) (fun f2 => ?_)) (fun f1 => ?_)
      · rw [hsw] at f1 f2
        refine o_aload_n dX5_readsStatement_228 rfl rfl ?_
        refine o_iconst dX5_readsStatement_229 ic_0 ?_
        refine o_iconst dX5_readsStatement_230 ic_2 ?_
        refine o_callVd (w2 := mW r m im wa fr hi lt rw rf (nI L) (nI R) (nI (s + 3)) ((upd (upd (upd nu 0 0) 0 (hrF lt L (s + 1) - 48)) 0 (10 * (hrF lt L (s + 1) - 48) + hrF lt L (s + 2) - 48))) sd) (is := [0, 1, 2, 3, 4, 5, 6, 7, 8, 9]) (rn2_yes (k := 0) (p := s + 1) hL (by omega) (by omega) f1 f2) ⟨rfl, rfl⟩ dX5_readsStatement_231 wd756 cvX5_readsNumber rfl ⟨(Nat.le_of_ble_eq_true rfl), (Nat.le_of_ble_eq_true rfl)⟩ hcX5 rfl rfl rfl rfl (Nat.le_of_ble_eq_true rfl) (Nat.le_of_ble_eq_true rfl) (Nat.le_of_ble_eq_true rfl) rfl ?_
        refine o_istn_2 dX5_readsStatement_234 rfl rfl (Nat.le_of_ble_eq_true rfl) ?_
        refine o_goto (tgt := 250) dX5_readsStatement_235 (by decide) ?_
        refine o_iload_n dX5_readsStatement_250 rfl rfl ?_
        refine o_if_eq (tgt := 263) dX5_readsStatement_251 (by decide) (fun cq => absurd cq (by decide)) (fun _ => ?_)
        refine o_aload_n dX5_readsStatement_254 rfl rfl ?_
        refine o_callVr (is := [0, 1, 2, 3, 4, 5, 6, 7, 8, 9]) (tX5_here (p := s + 3) (by omega) hL) ⟨rfl, rfl⟩ dX5_readsStatement_255 wd745 cvX5_here rfl ⟨(Nat.le_of_ble_eq_true rfl), (Nat.le_of_ble_eq_true rfl)⟩ hcX5 rfl rfl rfl rfl (Nat.le_of_ble_eq_true rfl) (Nat.le_of_ble_eq_true rfl) (Nat.le_of_ble_eq_true rfl) ?_
        refine o_bipush dX5_readsStatement_258 bp_59 ?_
        refine o_icmp_eq (tgt := 265) dX5_readsStatement_260 (by decide) (fun c_260 => ?_) (fun c_260 => ?_)
        · have f3 : ftB 104 3 (hrF lt L (s + 3)) = true := decide_eq_true c_260
          refine o_aload_n dX5_readsStatement_265 rfl rfl ?_
          refine o_dup dX5_readsStatement_266 rfl ?_
          refine o_getf (j := 11) dX5_readsStatement_267 rfl hcX5 inX5 (Nat.le_of_ble_eq_true rfl) wd697 rfl rfl ?_
          refine o_iconst dX5_readsStatement_270 ic_1 ?_
          refine o_iadd dX5_readsStatement_271 ?_
          refine o_putf (j := 11) tyX5 dX5_readsStatement_272 rfl hcX5 inX5 tyX5_ok nmX5 (Nat.le_of_ble_eq_true rfl) wd697 rfl rfl (fun _ => vp_nar_int _) (fun _ => rfl) (Nat.le_of_ble_eq_true rfl) rfl ?_
          refine o_iconst dX5_readsStatement_275 ic_1 ?_
          refine o_iret dX5_readsStatement_276 rfl (by first | exact nz_b _ | decide) (Nat.le_of_ble_eq_true rfl) (Nat.le_of_ble_eq_true rfl) ?_
          have eb : bdJ lt L s = 4 := by
            rw [bdJ, hsw]
            show fjS lt L s 104 3 1 = 4
            rw [fjS, if_pos f1, fjS, if_pos f2, fjS, if_pos f3, fjS]
          have eg : gdB lt L s = true := by rw [gdB, eb, hsw]; rfl
          exact RSP.mk (by rw [eg]; rfl) (by rw [eb, nI_1]) (fun _ j hj => by
            rw [hsw] at hj
            rw [nuV, hsw]
            have hj : j < 1 := hj
            match j, hj with
            | 0, _ => rfl)
        · have f3 : ftB 104 3 (hrF lt L (s + 3)) = false := decide_eq_false c_260
          refine o_iconst dX5_readsStatement_263 ic_0 ?_
          refine o_iret dX5_readsStatement_264 rfl (by first | exact nz_b _ | decide) (Nat.le_of_ble_eq_true rfl) (Nat.le_of_ble_eq_true rfl) ?_
          have eb : bdJ lt L s = 3 := by
            rw [bdJ, hsw]
            show fjS lt L s 104 3 1 = 3
            rw [fjS, if_pos f1, fjS, if_pos f2, fjS, f3]
            rfl
          have eg : gdB lt L s = false := by rw [gdB, eb, hsw]; rfl
          exact RSP.mk (by rw [eg]; rfl) (by rw [eb]) (fun h => absurd (eg.symm.trans h) (by decide))
      · rw [hsw] at f1 f2
        refine o_aload_n dX5_readsStatement_228 rfl rfl ?_
        refine o_iconst dX5_readsStatement_229 ic_0 ?_
        refine o_iconst dX5_readsStatement_230 ic_2 ?_
        refine o_callVd (w2 := mW r m im wa fr hi lt rw rf (nI L) (nI R) (nI (s + 2)) ((upd (upd nu 0 0) 0 (hrF lt L (s + 1) - 48))) sd) (is := [0, 1, 2, 3, 4, 5, 6, 7, 8, 9]) (rn2_no2 (k := 0) (p := s + 1) hL (by omega) (by omega) f1 f2) ⟨rfl, rfl⟩ dX5_readsStatement_231 wd756 cvX5_readsNumber rfl ⟨(Nat.le_of_ble_eq_true rfl), (Nat.le_of_ble_eq_true rfl)⟩ hcX5 rfl rfl rfl rfl (Nat.le_of_ble_eq_true rfl) (Nat.le_of_ble_eq_true rfl) (Nat.le_of_ble_eq_true rfl) rfl ?_
        refine o_istn_2 dX5_readsStatement_234 rfl rfl (Nat.le_of_ble_eq_true rfl) ?_
        refine o_goto (tgt := 250) dX5_readsStatement_235 (by decide) ?_
        refine o_iload_n dX5_readsStatement_250 rfl rfl ?_
        refine o_if_eq (tgt := 263) dX5_readsStatement_251 (by decide) (fun _ => ?_) (fun cq => absurd (by decide) cq)
        refine o_iconst dX5_readsStatement_263 ic_0 ?_
        refine o_iret dX5_readsStatement_264 rfl (by first | exact nz_b _ | decide) (Nat.le_of_ble_eq_true rfl) (Nat.le_of_ble_eq_true rfl) ?_
        have eb : bdJ lt L s = 2 := by
          rw [bdJ, hsw]
          show fjS lt L s 104 3 1 = 2
          rw [fjS, if_pos f1, fjS, f2]
          rfl
        have eg : gdB lt L s = false := by rw [gdB, eb, hsw]; rfl
        exact RSP.mk (by rw [eg]; rfl) (by rw [eb]) (fun h => absurd (eg.symm.trans h) (by decide))
      · rw [hsw] at f1
        refine o_aload_n dX5_readsStatement_228 rfl rfl ?_
        refine o_iconst dX5_readsStatement_229 ic_0 ?_
        refine o_iconst dX5_readsStatement_230 ic_2 ?_
        refine o_callVd (w2 := mW r m im wa fr hi lt rw rf (nI L) (nI R) (nI (s + 1)) ((upd nu 0 0)) sd) (is := [0, 1, 2, 3, 4, 5, 6, 7, 8, 9]) (rn2_no1 (k := 0) (p := s + 1) hL (by omega) (by omega) f1) ⟨rfl, rfl⟩ dX5_readsStatement_231 wd756 cvX5_readsNumber rfl ⟨(Nat.le_of_ble_eq_true rfl), (Nat.le_of_ble_eq_true rfl)⟩ hcX5 rfl rfl rfl rfl (Nat.le_of_ble_eq_true rfl) (Nat.le_of_ble_eq_true rfl) (Nat.le_of_ble_eq_true rfl) rfl ?_
        refine o_istn_2 dX5_readsStatement_234 rfl rfl (Nat.le_of_ble_eq_true rfl) ?_
        refine o_goto (tgt := 250) dX5_readsStatement_235 (by decide) ?_
        refine o_iload_n dX5_readsStatement_250 rfl rfl ?_
        refine o_if_eq (tgt := 263) dX5_readsStatement_251 (by decide) (fun _ => ?_) (fun cq => absurd (by decide) cq)
        refine o_iconst dX5_readsStatement_263 ic_0 ?_
        refine o_iret dX5_readsStatement_264 rfl (by first | exact nz_b _ | decide) (Nat.le_of_ble_eq_true rfl) (Nat.le_of_ble_eq_true rfl) ?_
        have eb : bdJ lt L s = 1 := by
          rw [bdJ, hsw]
          show fjS lt L s 104 3 1 = 1
          rw [fjS, f1]
          rfl
        have eg : gdB lt L s = false := by rw [gdB, eb, hsw]; rfl
        exact RSP.mk (by rw [eg]; rfl) (by rw [eb]) (fun h => absurd (eg.symm.trans h) (by decide))
    | 5, _, hsw =>
      refine o_tabInE (tgt := 238) (off := 222) dX5_readsStatement_16 hsw (by decide) (by decide) (by decide) (by decide) ?_
      have hsw := sw_eq (l := 105) hsw (by decide)
      refine o_aload_n dX5_readsStatement_238 rfl rfl ?_
      refine o_dup dX5_readsStatement_239 rfl ?_
      refine o_getf (j := 11) dX5_readsStatement_240 rfl hcX5 inX5 (Nat.le_of_ble_eq_true rfl) wd697 rfl rfl ?_
      refine o_iconst dX5_readsStatement_243 ic_1 ?_
      refine o_isub dX5_readsStatement_244 ?_
      refine o_putf (j := 11) tyX5 dX5_readsStatement_245 rfl hcX5 inX5 tyX5_ok nmX5 (Nat.le_of_ble_eq_true rfl) wd697 rfl rfl (fun _ => vp_nar_int _) (fun _ => rfl) (Nat.le_of_ble_eq_true rfl) rfl ?_
      refine o_iconst dX5_readsStatement_248 ic_0 ?_
      refine o_iret dX5_readsStatement_249 rfl (by first | exact nz_b _ | decide) (Nat.le_of_ble_eq_true rfl) (Nat.le_of_ble_eq_true rfl) ?_
      have e0 : lenC (hrF lt L s) = 0 := by first | (rw [hsw]; rfl) | (rw [lenC, if_neg (sw_ne hsw 100 (by decide)), if_neg (sw_ne hsw 112 (by decide)), if_neg (fun h => by rcases h with h | h | h <;> exact sw_ne hsw _ (by decide) h), if_neg (fun h => by rcases h with h | h <;> exact sw_ne hsw _ (by decide) h)])
      have eb : bdJ lt L s = 0 := by rw [bdJ, if_pos e0]
      have eg : gdB lt L s = false := by rw [gdB, decide_eq_true e0]; rfl
      exact RSP.mk (by rw [eg]; rfl) (by rw [eb, nI_pred, Nat.add_zero]) (fun h => absurd (eg.symm.trans h) (by decide))
    | 6, _, hsw =>
      refine o_tabInE (tgt := 238) (off := 222) dX5_readsStatement_16 hsw (by decide) (by decide) (by decide) (by decide) ?_
      have hsw := sw_eq (l := 106) hsw (by decide)
      refine o_aload_n dX5_readsStatement_238 rfl rfl ?_
      refine o_dup dX5_readsStatement_239 rfl ?_
      refine o_getf (j := 11) dX5_readsStatement_240 rfl hcX5 inX5 (Nat.le_of_ble_eq_true rfl) wd697 rfl rfl ?_
      refine o_iconst dX5_readsStatement_243 ic_1 ?_
      refine o_isub dX5_readsStatement_244 ?_
      refine o_putf (j := 11) tyX5 dX5_readsStatement_245 rfl hcX5 inX5 tyX5_ok nmX5 (Nat.le_of_ble_eq_true rfl) wd697 rfl rfl (fun _ => vp_nar_int _) (fun _ => rfl) (Nat.le_of_ble_eq_true rfl) rfl ?_
      refine o_iconst dX5_readsStatement_248 ic_0 ?_
      refine o_iret dX5_readsStatement_249 rfl (by first | exact nz_b _ | decide) (Nat.le_of_ble_eq_true rfl) (Nat.le_of_ble_eq_true rfl) ?_
      have e0 : lenC (hrF lt L s) = 0 := by first | (rw [hsw]; rfl) | (rw [lenC, if_neg (sw_ne hsw 100 (by decide)), if_neg (sw_ne hsw 112 (by decide)), if_neg (fun h => by rcases h with h | h | h <;> exact sw_ne hsw _ (by decide) h), if_neg (fun h => by rcases h with h | h <;> exact sw_ne hsw _ (by decide) h)])
      have eb : bdJ lt L s = 0 := by rw [bdJ, if_pos e0]
      have eg : gdB lt L s = false := by rw [gdB, decide_eq_true e0]; rfl
      exact RSP.mk (by rw [eg]; rfl) (by rw [eb, nI_pred, Nat.add_zero]) (fun h => absurd (eg.symm.trans h) (by decide))
    | 7, _, hsw =>
      refine o_tabInE (tgt := 238) (off := 222) dX5_readsStatement_16 hsw (by decide) (by decide) (by decide) (by decide) ?_
      have hsw := sw_eq (l := 107) hsw (by decide)
      refine o_aload_n dX5_readsStatement_238 rfl rfl ?_
      refine o_dup dX5_readsStatement_239 rfl ?_
      refine o_getf (j := 11) dX5_readsStatement_240 rfl hcX5 inX5 (Nat.le_of_ble_eq_true rfl) wd697 rfl rfl ?_
      refine o_iconst dX5_readsStatement_243 ic_1 ?_
      refine o_isub dX5_readsStatement_244 ?_
      refine o_putf (j := 11) tyX5 dX5_readsStatement_245 rfl hcX5 inX5 tyX5_ok nmX5 (Nat.le_of_ble_eq_true rfl) wd697 rfl rfl (fun _ => vp_nar_int _) (fun _ => rfl) (Nat.le_of_ble_eq_true rfl) rfl ?_
      refine o_iconst dX5_readsStatement_248 ic_0 ?_
      refine o_iret dX5_readsStatement_249 rfl (by first | exact nz_b _ | decide) (Nat.le_of_ble_eq_true rfl) (Nat.le_of_ble_eq_true rfl) ?_
      have e0 : lenC (hrF lt L s) = 0 := by first | (rw [hsw]; rfl) | (rw [lenC, if_neg (sw_ne hsw 100 (by decide)), if_neg (sw_ne hsw 112 (by decide)), if_neg (fun h => by rcases h with h | h | h <;> exact sw_ne hsw _ (by decide) h), if_neg (fun h => by rcases h with h | h <;> exact sw_ne hsw _ (by decide) h)])
      have eb : bdJ lt L s = 0 := by rw [bdJ, if_pos e0]
      have eg : gdB lt L s = false := by rw [gdB, decide_eq_true e0]; rfl
      exact RSP.mk (by rw [eg]; rfl) (by rw [eb, nI_pred, Nat.add_zero]) (fun h => absurd (eg.symm.trans h) (by decide))
    | 8, _, hsw =>
      refine o_tabInE (tgt := 238) (off := 222) dX5_readsStatement_16 hsw (by decide) (by decide) (by decide) (by decide) ?_
      have hsw := sw_eq (l := 108) hsw (by decide)
      refine o_aload_n dX5_readsStatement_238 rfl rfl ?_
      refine o_dup dX5_readsStatement_239 rfl ?_
      refine o_getf (j := 11) dX5_readsStatement_240 rfl hcX5 inX5 (Nat.le_of_ble_eq_true rfl) wd697 rfl rfl ?_
      refine o_iconst dX5_readsStatement_243 ic_1 ?_
      refine o_isub dX5_readsStatement_244 ?_
      refine o_putf (j := 11) tyX5 dX5_readsStatement_245 rfl hcX5 inX5 tyX5_ok nmX5 (Nat.le_of_ble_eq_true rfl) wd697 rfl rfl (fun _ => vp_nar_int _) (fun _ => rfl) (Nat.le_of_ble_eq_true rfl) rfl ?_
      refine o_iconst dX5_readsStatement_248 ic_0 ?_
      refine o_iret dX5_readsStatement_249 rfl (by first | exact nz_b _ | decide) (Nat.le_of_ble_eq_true rfl) (Nat.le_of_ble_eq_true rfl) ?_
      have e0 : lenC (hrF lt L s) = 0 := by first | (rw [hsw]; rfl) | (rw [lenC, if_neg (sw_ne hsw 100 (by decide)), if_neg (sw_ne hsw 112 (by decide)), if_neg (fun h => by rcases h with h | h | h <;> exact sw_ne hsw _ (by decide) h), if_neg (fun h => by rcases h with h | h <;> exact sw_ne hsw _ (by decide) h)])
      have eb : bdJ lt L s = 0 := by rw [bdJ, if_pos e0]
      have eg : gdB lt L s = false := by rw [gdB, decide_eq_true e0]; rfl
      exact RSP.mk (by rw [eg]; rfl) (by rw [eb, nI_pred, Nat.add_zero]) (fun h => absurd (eg.symm.trans h) (by decide))
    | 9, _, hsw =>
      refine o_tabInE (tgt := 238) (off := 222) dX5_readsStatement_16 hsw (by decide) (by decide) (by decide) (by decide) ?_
      have hsw := sw_eq (l := 109) hsw (by decide)
      refine o_aload_n dX5_readsStatement_238 rfl rfl ?_
      refine o_dup dX5_readsStatement_239 rfl ?_
      refine o_getf (j := 11) dX5_readsStatement_240 rfl hcX5 inX5 (Nat.le_of_ble_eq_true rfl) wd697 rfl rfl ?_
      refine o_iconst dX5_readsStatement_243 ic_1 ?_
      refine o_isub dX5_readsStatement_244 ?_
      refine o_putf (j := 11) tyX5 dX5_readsStatement_245 rfl hcX5 inX5 tyX5_ok nmX5 (Nat.le_of_ble_eq_true rfl) wd697 rfl rfl (fun _ => vp_nar_int _) (fun _ => rfl) (Nat.le_of_ble_eq_true rfl) rfl ?_
      refine o_iconst dX5_readsStatement_248 ic_0 ?_
      refine o_iret dX5_readsStatement_249 rfl (by first | exact nz_b _ | decide) (Nat.le_of_ble_eq_true rfl) (Nat.le_of_ble_eq_true rfl) ?_
      have e0 : lenC (hrF lt L s) = 0 := by first | (rw [hsw]; rfl) | (rw [lenC, if_neg (sw_ne hsw 100 (by decide)), if_neg (sw_ne hsw 112 (by decide)), if_neg (fun h => by rcases h with h | h | h <;> exact sw_ne hsw _ (by decide) h), if_neg (fun h => by rcases h with h | h <;> exact sw_ne hsw _ (by decide) h)])
      have eb : bdJ lt L s = 0 := by rw [bdJ, if_pos e0]
      have eg : gdB lt L s = false := by rw [gdB, decide_eq_true e0]; rfl
      exact RSP.mk (by rw [eg]; rfl) (by rw [eb, nI_pred, Nat.add_zero]) (fun h => absurd (eg.symm.trans h) (by decide))
    | 10, _, hsw =>
      refine o_tabInE (tgt := 238) (off := 222) dX5_readsStatement_16 hsw (by decide) (by decide) (by decide) (by decide) ?_
      have hsw := sw_eq (l := 110) hsw (by decide)
      refine o_aload_n dX5_readsStatement_238 rfl rfl ?_
      refine o_dup dX5_readsStatement_239 rfl ?_
      refine o_getf (j := 11) dX5_readsStatement_240 rfl hcX5 inX5 (Nat.le_of_ble_eq_true rfl) wd697 rfl rfl ?_
      refine o_iconst dX5_readsStatement_243 ic_1 ?_
      refine o_isub dX5_readsStatement_244 ?_
      refine o_putf (j := 11) tyX5 dX5_readsStatement_245 rfl hcX5 inX5 tyX5_ok nmX5 (Nat.le_of_ble_eq_true rfl) wd697 rfl rfl (fun _ => vp_nar_int _) (fun _ => rfl) (Nat.le_of_ble_eq_true rfl) rfl ?_
      refine o_iconst dX5_readsStatement_248 ic_0 ?_
      refine o_iret dX5_readsStatement_249 rfl (by first | exact nz_b _ | decide) (Nat.le_of_ble_eq_true rfl) (Nat.le_of_ble_eq_true rfl) ?_
      have e0 : lenC (hrF lt L s) = 0 := by first | (rw [hsw]; rfl) | (rw [lenC, if_neg (sw_ne hsw 100 (by decide)), if_neg (sw_ne hsw 112 (by decide)), if_neg (fun h => by rcases h with h | h | h <;> exact sw_ne hsw _ (by decide) h), if_neg (fun h => by rcases h with h | h <;> exact sw_ne hsw _ (by decide) h)])
      have eb : bdJ lt L s = 0 := by rw [bdJ, if_pos e0]
      have eg : gdB lt L s = false := by rw [gdB, decide_eq_true e0]; rfl
      exact RSP.mk (by rw [eg]; rfl) (by rw [eb, nI_pred, Nat.add_zero]) (fun h => absurd (eg.symm.trans h) (by decide))
    | 11, _, hsw =>
      refine o_tabInE (tgt := 238) (off := 222) dX5_readsStatement_16 hsw (by decide) (by decide) (by decide) (by decide) ?_
      have hsw := sw_eq (l := 111) hsw (by decide)
      refine o_aload_n dX5_readsStatement_238 rfl rfl ?_
      refine o_dup dX5_readsStatement_239 rfl ?_
      refine o_getf (j := 11) dX5_readsStatement_240 rfl hcX5 inX5 (Nat.le_of_ble_eq_true rfl) wd697 rfl rfl ?_
      refine o_iconst dX5_readsStatement_243 ic_1 ?_
      refine o_isub dX5_readsStatement_244 ?_
      refine o_putf (j := 11) tyX5 dX5_readsStatement_245 rfl hcX5 inX5 tyX5_ok nmX5 (Nat.le_of_ble_eq_true rfl) wd697 rfl rfl (fun _ => vp_nar_int _) (fun _ => rfl) (Nat.le_of_ble_eq_true rfl) rfl ?_
      refine o_iconst dX5_readsStatement_248 ic_0 ?_
      refine o_iret dX5_readsStatement_249 rfl (by first | exact nz_b _ | decide) (Nat.le_of_ble_eq_true rfl) (Nat.le_of_ble_eq_true rfl) ?_
      have e0 : lenC (hrF lt L s) = 0 := by first | (rw [hsw]; rfl) | (rw [lenC, if_neg (sw_ne hsw 100 (by decide)), if_neg (sw_ne hsw 112 (by decide)), if_neg (fun h => by rcases h with h | h | h <;> exact sw_ne hsw _ (by decide) h), if_neg (fun h => by rcases h with h | h <;> exact sw_ne hsw _ (by decide) h)])
      have eb : bdJ lt L s = 0 := by rw [bdJ, if_pos e0]
      have eg : gdB lt L s = false := by rw [gdB, decide_eq_true e0]; rfl
      exact RSP.mk (by rw [eg]; rfl) (by rw [eb, nI_pred, Nat.add_zero]) (fun h => absurd (eg.symm.trans h) (by decide))
    | 12, _, hsw =>
      refine o_tabInE (tgt := 155) (off := 139) dX5_readsStatement_16 hsw (by decide) (by decide) (by decide) (by decide) ?_
      have hsw := sw_eq (l := 112) hsw (by decide)
      refine o_case (b := ftB (hrF lt L s) 1 (hrF lt L (s + 1))) (fun f1 => ?_) (fun f1 => ?_)
      · rw [hsw] at f1
        refine o_aload_n dX5_readsStatement_155 rfl rfl ?_
        refine o_iconst dX5_readsStatement_156 ic_0 ?_
        refine o_iconst dX5_readsStatement_157 ic_1 ?_
        refine o_callVd (w2 := mW r m im wa fr hi lt rw rf (nI L) (nI R) (nI (s + 2)) ((upd (upd nu 0 0) 0 (hrF lt L (s + 1) - 48))) sd) (is := [0, 1, 2, 3, 4, 5, 6, 7, 8, 9]) (rn1_yes (k := 0) (p := s + 1) hL (by omega) (by omega) f1) ⟨rfl, rfl⟩ dX5_readsStatement_158 wd756 cvX5_readsNumber rfl ⟨(Nat.le_of_ble_eq_true rfl), (Nat.le_of_ble_eq_true rfl)⟩ hcX5 rfl rfl rfl rfl (Nat.le_of_ble_eq_true rfl) (Nat.le_of_ble_eq_true rfl) (Nat.le_of_ble_eq_true rfl) rfl ?_
        refine o_if_eq (tgt := 186) dX5_readsStatement_161 (by decide) (fun cq => absurd cq (by decide)) (fun _ => ?_)
        refine o_case (b := ftB (hrF lt L s) 2 (hrF lt L (s + 2))) (fun f2 => ?_) (fun f2 => ?_)
        · rw [hsw] at f2
          refine o_aload_n dX5_readsStatement_164 rfl rfl ?_
          refine o_iconst dX5_readsStatement_165 ic_1 ?_
          refine o_iconst dX5_readsStatement_166 ic_1 ?_
          refine o_callVd (w2 := mW r m im wa fr hi lt rw rf (nI L) (nI R) (nI (s + 3)) ((upd (upd (upd (upd nu 0 0) 0 (hrF lt L (s + 1) - 48)) 1 0) 1 (hrF lt L (s + 2) - 48))) sd) (is := [0, 1, 2, 3, 4, 5, 6, 7, 8, 9]) (rn1_yes (k := 1) (p := s + 2) hL (by omega) (by omega) f2) ⟨rfl, rfl⟩ dX5_readsStatement_167 wd756 cvX5_readsNumber rfl ⟨(Nat.le_of_ble_eq_true rfl), (Nat.le_of_ble_eq_true rfl)⟩ hcX5 rfl rfl rfl rfl (Nat.le_of_ble_eq_true rfl) (Nat.le_of_ble_eq_true rfl) (Nat.le_of_ble_eq_true rfl) rfl ?_
          refine o_if_eq (tgt := 186) dX5_readsStatement_170 (by decide) (fun cq => absurd cq (by decide)) (fun _ => ?_)
          refine o_case (b := ftB (hrF lt L s) 3 (hrF lt L (s + 3))) (fun f3 => ?_) (fun f3 => ?_)
          · rw [hsw] at f3
            refine o_aload_n dX5_readsStatement_173 rfl rfl ?_
            refine o_iconst dX5_readsStatement_174 ic_2 ?_
            refine o_iconst dX5_readsStatement_175 ic_1 ?_
            refine o_callVd (w2 := mW r m im wa fr hi lt rw rf (nI L) (nI R) (nI (s + 4)) ((upd (upd (upd (upd (upd (upd nu 0 0) 0 (hrF lt L (s + 1) - 48)) 1 0) 1 (hrF lt L (s + 2) - 48)) 2 0) 2 (hrF lt L (s + 3) - 48))) sd) (is := [0, 1, 2, 3, 4, 5, 6, 7, 8, 9]) (rn1_yes (k := 2) (p := s + 3) hL (by omega) (by omega) f3) ⟨rfl, rfl⟩ dX5_readsStatement_176 wd756 cvX5_readsNumber rfl ⟨(Nat.le_of_ble_eq_true rfl), (Nat.le_of_ble_eq_true rfl)⟩ hcX5 rfl rfl rfl rfl (Nat.le_of_ble_eq_true rfl) (Nat.le_of_ble_eq_true rfl) (Nat.le_of_ble_eq_true rfl) rfl ?_
            refine o_if_eq (tgt := 186) dX5_readsStatement_179 (by decide) (fun cq => absurd cq (by decide)) (fun _ => ?_)
            refine o_iconst dX5_readsStatement_182 ic_1 ?_
            refine o_goto (tgt := 187) dX5_readsStatement_183 (by decide) ?_
            refine o_istn_2 dX5_readsStatement_187 rfl rfl (Nat.le_of_ble_eq_true rfl) ?_
            refine o_goto (tgt := 250) dX5_readsStatement_188 (by decide) ?_
            refine o_iload_n dX5_readsStatement_250 rfl rfl ?_
            refine o_if_eq (tgt := 263) dX5_readsStatement_251 (by decide) (fun cq => absurd cq (by decide)) (fun _ => ?_)
            refine o_aload_n dX5_readsStatement_254 rfl rfl ?_
            refine o_callVr (is := [0, 1, 2, 3, 4, 5, 6, 7, 8, 9]) (tX5_here (p := s + 4) (by omega) hL) ⟨rfl, rfl⟩ dX5_readsStatement_255 wd745 cvX5_here rfl ⟨(Nat.le_of_ble_eq_true rfl), (Nat.le_of_ble_eq_true rfl)⟩ hcX5 rfl rfl rfl rfl (Nat.le_of_ble_eq_true rfl) (Nat.le_of_ble_eq_true rfl) (Nat.le_of_ble_eq_true rfl) ?_
            refine o_bipush dX5_readsStatement_258 bp_59 ?_
            refine o_icmp_eq (tgt := 265) dX5_readsStatement_260 (by decide) (fun c_260 => ?_) (fun c_260 => ?_)
            · have f4 : ftB 112 4 (hrF lt L (s + 4)) = true := decide_eq_true c_260
              refine o_aload_n dX5_readsStatement_265 rfl rfl ?_
              refine o_dup dX5_readsStatement_266 rfl ?_
              refine o_getf (j := 11) dX5_readsStatement_267 rfl hcX5 inX5 (Nat.le_of_ble_eq_true rfl) wd697 rfl rfl ?_
              refine o_iconst dX5_readsStatement_270 ic_1 ?_
              refine o_iadd dX5_readsStatement_271 ?_
              refine o_putf (j := 11) tyX5 dX5_readsStatement_272 rfl hcX5 inX5 tyX5_ok nmX5 (Nat.le_of_ble_eq_true rfl) wd697 rfl rfl (fun _ => vp_nar_int _) (fun _ => rfl) (Nat.le_of_ble_eq_true rfl) rfl ?_
              refine o_iconst dX5_readsStatement_275 ic_1 ?_
              refine o_iret dX5_readsStatement_276 rfl (by first | exact nz_b _ | decide) (Nat.le_of_ble_eq_true rfl) (Nat.le_of_ble_eq_true rfl) ?_
              have eb : bdJ lt L s = 5 := by
                rw [bdJ, hsw]
                show fjS lt L s 112 4 1 = 5
                rw [fjS, if_pos f1, fjS, if_pos f2, fjS, if_pos f3, fjS, if_pos f4, fjS]
              have eg : gdB lt L s = true := by rw [gdB, eb, hsw]; rfl
              exact RSP.mk (by rw [eg]; rfl) (by rw [eb, nI_1]) (fun _ j hj => by
                rw [hsw] at hj
                rw [nuV, hsw]
                have hj : j < 3 := hj
                match j, hj with
                | 0, _ => rfl
                | 1, _ => rfl
                | 2, _ => rfl)
            · have f4 : ftB 112 4 (hrF lt L (s + 4)) = false := decide_eq_false c_260
              refine o_iconst dX5_readsStatement_263 ic_0 ?_
              refine o_iret dX5_readsStatement_264 rfl (by first | exact nz_b _ | decide) (Nat.le_of_ble_eq_true rfl) (Nat.le_of_ble_eq_true rfl) ?_
              have eb : bdJ lt L s = 4 := by
                rw [bdJ, hsw]
                show fjS lt L s 112 4 1 = 4
                rw [fjS, if_pos f1, fjS, if_pos f2, fjS, if_pos f3, fjS, f4]
                rfl
              have eg : gdB lt L s = false := by rw [gdB, eb, hsw]; rfl
              exact RSP.mk (by rw [eg]; rfl) (by rw [eb]) (fun h => absurd (eg.symm.trans h) (by decide))
          · rw [hsw] at f3
            refine o_aload_n dX5_readsStatement_173 rfl rfl ?_
            refine o_iconst dX5_readsStatement_174 ic_2 ?_
            refine o_iconst dX5_readsStatement_175 ic_1 ?_
            refine o_callVd (w2 := mW r m im wa fr hi lt rw rf (nI L) (nI R) (nI (s + 3)) ((upd (upd (upd (upd (upd nu 0 0) 0 (hrF lt L (s + 1) - 48)) 1 0) 1 (hrF lt L (s + 2) - 48)) 2 0)) sd) (is := [0, 1, 2, 3, 4, 5, 6, 7, 8, 9]) (rn1_no (k := 2) (p := s + 3) hL (by omega) (by omega) f3) ⟨rfl, rfl⟩ dX5_readsStatement_176 wd756 cvX5_readsNumber rfl ⟨(Nat.le_of_ble_eq_true rfl), (Nat.le_of_ble_eq_true rfl)⟩ hcX5 rfl rfl rfl rfl (Nat.le_of_ble_eq_true rfl) (Nat.le_of_ble_eq_true rfl) (Nat.le_of_ble_eq_true rfl) rfl ?_
            refine o_if_eq (tgt := 186) dX5_readsStatement_179 (by decide) (fun _ => ?_) (fun cq => absurd (by decide) cq)
            refine o_iconst dX5_readsStatement_186 ic_0 ?_
            refine o_istn_2 dX5_readsStatement_187 rfl rfl (Nat.le_of_ble_eq_true rfl) ?_
            refine o_goto (tgt := 250) dX5_readsStatement_188 (by decide) ?_
            refine o_iload_n dX5_readsStatement_250 rfl rfl ?_
            refine o_if_eq (tgt := 263) dX5_readsStatement_251 (by decide) (fun _ => ?_) (fun cq => absurd (by decide) cq)
            refine o_iconst dX5_readsStatement_263 ic_0 ?_
            refine o_iret dX5_readsStatement_264 rfl (by first | exact nz_b _ | decide) (Nat.le_of_ble_eq_true rfl) (Nat.le_of_ble_eq_true rfl) ?_
            have eb : bdJ lt L s = 3 := by
              rw [bdJ, hsw]
              show fjS lt L s 112 4 1 = 3
              rw [fjS, if_pos f1, fjS, if_pos f2, fjS, f3]
              rfl
            have eg : gdB lt L s = false := by rw [gdB, eb, hsw]; rfl
            exact RSP.mk (by rw [eg]; rfl) (by rw [eb]) (fun h => absurd (eg.symm.trans h) (by decide))
        · rw [hsw] at f2
          refine o_aload_n dX5_readsStatement_164 rfl rfl ?_
          refine o_iconst dX5_readsStatement_165 ic_1 ?_
          refine o_iconst dX5_readsStatement_166 ic_1 ?_
          refine o_callVd (w2 := mW r m im wa fr hi lt rw rf (nI L) (nI R) (nI (s + 2)) ((upd (upd (upd nu 0 0) 0 (hrF lt L (s + 1) - 48)) 1 0)) sd) (is := [0, 1, 2, 3, 4, 5, 6, 7, 8, 9]) (rn1_no (k := 1) (p := s + 2) hL (by omega) (by omega) f2) ⟨rfl, rfl⟩ dX5_readsStatement_167 wd756 cvX5_readsNumber rfl ⟨(Nat.le_of_ble_eq_true rfl), (Nat.le_of_ble_eq_true rfl)⟩ hcX5 rfl rfl rfl rfl (Nat.le_of_ble_eq_true rfl) (Nat.le_of_ble_eq_true rfl) (Nat.le_of_ble_eq_true rfl) rfl ?_
          refine o_if_eq (tgt := 186) dX5_readsStatement_170 (by decide) (fun _ => ?_) (fun cq => absurd (by decide) cq)
          refine o_iconst dX5_readsStatement_186 ic_0 ?_
          refine o_istn_2 dX5_readsStatement_187 rfl rfl (Nat.le_of_ble_eq_true rfl) ?_
          refine o_goto (tgt := 250) dX5_readsStatement_188 (by decide) ?_
          refine o_iload_n dX5_readsStatement_250 rfl rfl ?_
          refine o_if_eq (tgt := 263) dX5_readsStatement_251 (by decide) (fun _ => ?_) (fun cq => absurd (by decide) cq)
          refine o_iconst dX5_readsStatement_263 ic_0 ?_
          refine o_iret dX5_readsStatement_264 rfl (by first | exact nz_b _ | decide) (Nat.le_of_ble_eq_true rfl) (Nat.le_of_ble_eq_true rfl) ?_
          have eb : bdJ lt L s = 2 := by
            rw [bdJ, hsw]
            show fjS lt L s 112 4 1 = 2
            rw [fjS, if_pos f1, fjS, f2]
            rfl
          have eg : gdB lt L s = false := by rw [gdB, eb, hsw]; rfl
          exact RSP.mk (by rw [eg]; rfl) (by rw [eb]) (fun h => absurd (eg.symm.trans h) (by decide))
      · rw [hsw] at f1
        refine o_aload_n dX5_readsStatement_155 rfl rfl ?_
        refine o_iconst dX5_readsStatement_156 ic_0 ?_
        refine o_iconst dX5_readsStatement_157 ic_1 ?_
        refine o_callVd (w2 := mW r m im wa fr hi lt rw rf (nI L) (nI R) (nI (s + 1)) ((upd nu 0 0)) sd) (is := [0, 1, 2, 3, 4, 5, 6, 7, 8, 9]) (rn1_no (k := 0) (p := s + 1) hL (by omega) (by omega) f1) ⟨rfl, rfl⟩ dX5_readsStatement_158 wd756 cvX5_readsNumber rfl ⟨(Nat.le_of_ble_eq_true rfl), (Nat.le_of_ble_eq_true rfl)⟩ hcX5 rfl rfl rfl rfl (Nat.le_of_ble_eq_true rfl) (Nat.le_of_ble_eq_true rfl) (Nat.le_of_ble_eq_true rfl) rfl ?_
        refine o_if_eq (tgt := 186) dX5_readsStatement_161 (by decide) (fun _ => ?_) (fun cq => absurd (by decide) cq)
        refine o_iconst dX5_readsStatement_186 ic_0 ?_
        refine o_istn_2 dX5_readsStatement_187 rfl rfl (Nat.le_of_ble_eq_true rfl) ?_
        refine o_goto (tgt := 250) dX5_readsStatement_188 (by decide) ?_
        refine o_iload_n dX5_readsStatement_250 rfl rfl ?_
        refine o_if_eq (tgt := 263) dX5_readsStatement_251 (by decide) (fun _ => ?_) (fun cq => absurd (by decide) cq)
        refine o_iconst dX5_readsStatement_263 ic_0 ?_
        refine o_iret dX5_readsStatement_264 rfl (by first | exact nz_b _ | decide) (Nat.le_of_ble_eq_true rfl) (Nat.le_of_ble_eq_true rfl) ?_
        have eb : bdJ lt L s = 1 := by
          rw [bdJ, hsw]
          show fjS lt L s 112 4 1 = 1
          rw [fjS, f1]
          rfl
        have eg : gdB lt L s = false := by rw [gdB, eb, hsw]; rfl
        exact RSP.mk (by rw [eg]; rfl) (by rw [eb]) (fun h => absurd (eg.symm.trans h) (by decide))
    | 13, _, hsw =>
      refine o_tabInE (tgt := 238) (off := 222) dX5_readsStatement_16 hsw (by decide) (by decide) (by decide) (by decide) ?_
      have hsw := sw_eq (l := 113) hsw (by decide)
      refine o_aload_n dX5_readsStatement_238 rfl rfl ?_
      refine o_dup dX5_readsStatement_239 rfl ?_
      refine o_getf (j := 11) dX5_readsStatement_240 rfl hcX5 inX5 (Nat.le_of_ble_eq_true rfl) wd697 rfl rfl ?_
      refine o_iconst dX5_readsStatement_243 ic_1 ?_
      refine o_isub dX5_readsStatement_244 ?_
      refine o_putf (j := 11) tyX5 dX5_readsStatement_245 rfl hcX5 inX5 tyX5_ok nmX5 (Nat.le_of_ble_eq_true rfl) wd697 rfl rfl (fun _ => vp_nar_int _) (fun _ => rfl) (Nat.le_of_ble_eq_true rfl) rfl ?_
      refine o_iconst dX5_readsStatement_248 ic_0 ?_
      refine o_iret dX5_readsStatement_249 rfl (by first | exact nz_b _ | decide) (Nat.le_of_ble_eq_true rfl) (Nat.le_of_ble_eq_true rfl) ?_
      have e0 : lenC (hrF lt L s) = 0 := by first | (rw [hsw]; rfl) | (rw [lenC, if_neg (sw_ne hsw 100 (by decide)), if_neg (sw_ne hsw 112 (by decide)), if_neg (fun h => by rcases h with h | h | h <;> exact sw_ne hsw _ (by decide) h), if_neg (fun h => by rcases h with h | h <;> exact sw_ne hsw _ (by decide) h)])
      have eb : bdJ lt L s = 0 := by rw [bdJ, if_pos e0]
      have eg : gdB lt L s = false := by rw [gdB, decide_eq_true e0]; rfl
      exact RSP.mk (by rw [eg]; rfl) (by rw [eb, nI_pred, Nat.add_zero]) (fun h => absurd (eg.symm.trans h) (by decide))
    | 14, _, hsw =>
      refine o_tabInE (tgt := 191) (off := 175) dX5_readsStatement_16 hsw (by decide) (by decide) (by decide) (by decide) ?_
      have hsw := sw_eq (l := 114) hsw (by decide)
      refine o_case (b := ftB (hrF lt L s) 1 (hrF lt L (s + 1))) (fun f1 => ?_) (fun f1 => ?_)
      · rw [hsw] at f1
        refine o_aload_n dX5_readsStatement_191 rfl rfl ?_
        refine o_iconst dX5_readsStatement_192 ic_0 ?_
        refine o_iconst dX5_readsStatement_193 ic_1 ?_
        refine o_callVd (w2 := mW r m im wa fr hi lt rw rf (nI L) (nI R) (nI (s + 2)) ((upd (upd nu 0 0) 0 (hrF lt L (s + 1) - 48))) sd) (is := [0, 1, 2, 3, 4, 5, 6, 7, 8, 9]) (rn1_yes (k := 0) (p := s + 1) hL (by omega) (by omega) f1) ⟨rfl, rfl⟩ dX5_readsStatement_194 wd756 cvX5_readsNumber rfl ⟨(Nat.le_of_ble_eq_true rfl), (Nat.le_of_ble_eq_true rfl)⟩ hcX5 rfl rfl rfl rfl (Nat.le_of_ble_eq_true rfl) (Nat.le_of_ble_eq_true rfl) (Nat.le_of_ble_eq_true rfl) rfl ?_
        refine o_if_eq (tgt := 213) dX5_readsStatement_197 (by decide) (fun cq => absurd cq (by decide)) (fun _ => ?_)
        refine o_case (b := ftB (hrF lt L s) 2 (hrF lt L (s + 2))) (fun f2 => ?_) (fun f2 => ?_)
        · rw [hsw] at f2
          refine o_aload_n dX5_readsStatement_200 rfl rfl ?_
          refine o_iconst dX5_readsStatement_201 ic_1 ?_
          refine o_iconst dX5_readsStatement_202 ic_1 ?_
          refine o_callVd (w2 := mW r m im wa fr hi lt rw rf (nI L) (nI R) (nI (s + 3)) ((upd (upd (upd (upd nu 0 0) 0 (hrF lt L (s + 1) - 48)) 1 0) 1 (hrF lt L (s + 2) - 48))) sd) (is := [0, 1, 2, 3, 4, 5, 6, 7, 8, 9]) (rn1_yes (k := 1) (p := s + 2) hL (by omega) (by omega) f2) ⟨rfl, rfl⟩ dX5_readsStatement_203 wd756 cvX5_readsNumber rfl ⟨(Nat.le_of_ble_eq_true rfl), (Nat.le_of_ble_eq_true rfl)⟩ hcX5 rfl rfl rfl rfl (Nat.le_of_ble_eq_true rfl) (Nat.le_of_ble_eq_true rfl) (Nat.le_of_ble_eq_true rfl) rfl ?_
          refine o_if_eq (tgt := 213) dX5_readsStatement_206 (by decide) (fun cq => absurd cq (by decide)) (fun _ => ?_)
          refine o_iconst dX5_readsStatement_209 ic_1 ?_
          refine o_goto (tgt := 214) dX5_readsStatement_210 (by decide) ?_
          refine o_istn_2 dX5_readsStatement_214 rfl rfl (Nat.le_of_ble_eq_true rfl) ?_
          refine o_goto (tgt := 250) dX5_readsStatement_215 (by decide) ?_
          refine o_iload_n dX5_readsStatement_250 rfl rfl ?_
          refine o_if_eq (tgt := 263) dX5_readsStatement_251 (by decide) (fun cq => absurd cq (by decide)) (fun _ => ?_)
          refine o_aload_n dX5_readsStatement_254 rfl rfl ?_
          refine o_callVr (is := [0, 1, 2, 3, 4, 5, 6, 7, 8, 9]) (tX5_here (p := s + 3) (by omega) hL) ⟨rfl, rfl⟩ dX5_readsStatement_255 wd745 cvX5_here rfl ⟨(Nat.le_of_ble_eq_true rfl), (Nat.le_of_ble_eq_true rfl)⟩ hcX5 rfl rfl rfl rfl (Nat.le_of_ble_eq_true rfl) (Nat.le_of_ble_eq_true rfl) (Nat.le_of_ble_eq_true rfl) ?_
          refine o_bipush dX5_readsStatement_258 bp_59 ?_
          refine o_icmp_eq (tgt := 265) dX5_readsStatement_260 (by decide) (fun c_260 => ?_) (fun c_260 => ?_)
          · have f3 : ftB 114 3 (hrF lt L (s + 3)) = true := decide_eq_true c_260
            refine o_aload_n dX5_readsStatement_265 rfl rfl ?_
            refine o_dup dX5_readsStatement_266 rfl ?_
            refine o_getf (j := 11) dX5_readsStatement_267 rfl hcX5 inX5 (Nat.le_of_ble_eq_true rfl) wd697 rfl rfl ?_
            refine o_iconst dX5_readsStatement_270 ic_1 ?_
            refine o_iadd dX5_readsStatement_271 ?_
            refine o_putf (j := 11) tyX5 dX5_readsStatement_272 rfl hcX5 inX5 tyX5_ok nmX5 (Nat.le_of_ble_eq_true rfl) wd697 rfl rfl (fun _ => vp_nar_int _) (fun _ => rfl) (Nat.le_of_ble_eq_true rfl) rfl ?_
            refine o_iconst dX5_readsStatement_275 ic_1 ?_
            refine o_iret dX5_readsStatement_276 rfl (by first | exact nz_b _ | decide) (Nat.le_of_ble_eq_true rfl) (Nat.le_of_ble_eq_true rfl) ?_
            have eb : bdJ lt L s = 4 := by
              rw [bdJ, hsw]
              show fjS lt L s 114 3 1 = 4
              rw [fjS, if_pos f1, fjS, if_pos f2, fjS, if_pos f3, fjS]
            have eg : gdB lt L s = true := by rw [gdB, eb, hsw]; rfl
            exact RSP.mk (by rw [eg]; rfl) (by rw [eb, nI_1]) (fun _ j hj => by
              rw [hsw] at hj
              rw [nuV, hsw]
              have hj : j < 2 := hj
              match j, hj with
              | 0, _ => rfl
              | 1, _ => rfl)
          · have f3 : ftB 114 3 (hrF lt L (s + 3)) = false := decide_eq_false c_260
            refine o_iconst dX5_readsStatement_263 ic_0 ?_
            refine o_iret dX5_readsStatement_264 rfl (by first | exact nz_b _ | decide) (Nat.le_of_ble_eq_true rfl) (Nat.le_of_ble_eq_true rfl) ?_
            have eb : bdJ lt L s = 3 := by
              rw [bdJ, hsw]
              show fjS lt L s 114 3 1 = 3
              rw [fjS, if_pos f1, fjS, if_pos f2, fjS, f3]
              rfl
            have eg : gdB lt L s = false := by rw [gdB, eb, hsw]; rfl
            exact RSP.mk (by rw [eg]; rfl) (by rw [eb]) (fun h => absurd (eg.symm.trans h) (by decide))
        · rw [hsw] at f2
          refine o_aload_n dX5_readsStatement_200 rfl rfl ?_
          refine o_iconst dX5_readsStatement_201 ic_1 ?_
          refine o_iconst dX5_readsStatement_202 ic_1 ?_
          refine o_callVd (w2 := mW r m im wa fr hi lt rw rf (nI L) (nI R) (nI (s + 2)) ((upd (upd (upd nu 0 0) 0 (hrF lt L (s + 1) - 48)) 1 0)) sd) (is := [0, 1, 2, 3, 4, 5, 6, 7, 8, 9]) (rn1_no (k := 1) (p := s + 2) hL (by omega) (by omega) f2) ⟨rfl, rfl⟩ dX5_readsStatement_203 wd756 cvX5_readsNumber rfl ⟨(Nat.le_of_ble_eq_true rfl), (Nat.le_of_ble_eq_true rfl)⟩ hcX5 rfl rfl rfl rfl (Nat.le_of_ble_eq_true rfl) (Nat.le_of_ble_eq_true rfl) (Nat.le_of_ble_eq_true rfl) rfl ?_
          refine o_if_eq (tgt := 213) dX5_readsStatement_206 (by decide) (fun _ => ?_) (fun cq => absurd (by decide) cq)
          refine o_iconst dX5_readsStatement_213 ic_0 ?_
          refine o_istn_2 dX5_readsStatement_214 rfl rfl (Nat.le_of_ble_eq_true rfl) ?_
          refine o_goto (tgt := 250) dX5_readsStatement_215 (by decide) ?_
          refine o_iload_n dX5_readsStatement_250 rfl rfl ?_
          refine o_if_eq (tgt := 263) dX5_readsStatement_251 (by decide) (fun _ => ?_) (fun cq => absurd (by decide) cq)
          refine o_iconst dX5_readsStatement_263 ic_0 ?_
          refine o_iret dX5_readsStatement_264 rfl (by first | exact nz_b _ | decide) (Nat.le_of_ble_eq_true rfl) (Nat.le_of_ble_eq_true rfl) ?_
          have eb : bdJ lt L s = 2 := by
            rw [bdJ, hsw]
            show fjS lt L s 114 3 1 = 2
            rw [fjS, if_pos f1, fjS, f2]
            rfl
          have eg : gdB lt L s = false := by rw [gdB, eb, hsw]; rfl
          exact RSP.mk (by rw [eg]; rfl) (by rw [eb]) (fun h => absurd (eg.symm.trans h) (by decide))
      · rw [hsw] at f1
        refine o_aload_n dX5_readsStatement_191 rfl rfl ?_
        refine o_iconst dX5_readsStatement_192 ic_0 ?_
        refine o_iconst dX5_readsStatement_193 ic_1 ?_
        refine o_callVd (w2 := mW r m im wa fr hi lt rw rf (nI L) (nI R) (nI (s + 1)) ((upd nu 0 0)) sd) (is := [0, 1, 2, 3, 4, 5, 6, 7, 8, 9]) (rn1_no (k := 0) (p := s + 1) hL (by omega) (by omega) f1) ⟨rfl, rfl⟩ dX5_readsStatement_194 wd756 cvX5_readsNumber rfl ⟨(Nat.le_of_ble_eq_true rfl), (Nat.le_of_ble_eq_true rfl)⟩ hcX5 rfl rfl rfl rfl (Nat.le_of_ble_eq_true rfl) (Nat.le_of_ble_eq_true rfl) (Nat.le_of_ble_eq_true rfl) rfl ?_
        refine o_if_eq (tgt := 213) dX5_readsStatement_197 (by decide) (fun _ => ?_) (fun cq => absurd (by decide) cq)
        refine o_iconst dX5_readsStatement_213 ic_0 ?_
        refine o_istn_2 dX5_readsStatement_214 rfl rfl (Nat.le_of_ble_eq_true rfl) ?_
        refine o_goto (tgt := 250) dX5_readsStatement_215 (by decide) ?_
        refine o_iload_n dX5_readsStatement_250 rfl rfl ?_
        refine o_if_eq (tgt := 263) dX5_readsStatement_251 (by decide) (fun _ => ?_) (fun cq => absurd (by decide) cq)
        refine o_iconst dX5_readsStatement_263 ic_0 ?_
        refine o_iret dX5_readsStatement_264 rfl (by first | exact nz_b _ | decide) (Nat.le_of_ble_eq_true rfl) (Nat.le_of_ble_eq_true rfl) ?_
        have eb : bdJ lt L s = 1 := by
          rw [bdJ, hsw]
          show fjS lt L s 114 3 1 = 1
          rw [fjS, f1]
          rfl
        have eg : gdB lt L s = false := by rw [gdB, eb, hsw]; rfl
        exact RSP.mk (by rw [eg]; rfl) (by rw [eb]) (fun h => absurd (eg.symm.trans h) (by decide))
    | 15, _, hsw =>
      refine o_tabInE (tgt := 238) (off := 222) dX5_readsStatement_16 hsw (by decide) (by decide) (by decide) (by decide) ?_
      have hsw := sw_eq (l := 115) hsw (by decide)
      refine o_aload_n dX5_readsStatement_238 rfl rfl ?_
      refine o_dup dX5_readsStatement_239 rfl ?_
      refine o_getf (j := 11) dX5_readsStatement_240 rfl hcX5 inX5 (Nat.le_of_ble_eq_true rfl) wd697 rfl rfl ?_
      refine o_iconst dX5_readsStatement_243 ic_1 ?_
      refine o_isub dX5_readsStatement_244 ?_
      refine o_putf (j := 11) tyX5 dX5_readsStatement_245 rfl hcX5 inX5 tyX5_ok nmX5 (Nat.le_of_ble_eq_true rfl) wd697 rfl rfl (fun _ => vp_nar_int _) (fun _ => rfl) (Nat.le_of_ble_eq_true rfl) rfl ?_
      refine o_iconst dX5_readsStatement_248 ic_0 ?_
      refine o_iret dX5_readsStatement_249 rfl (by first | exact nz_b _ | decide) (Nat.le_of_ble_eq_true rfl) (Nat.le_of_ble_eq_true rfl) ?_
      have e0 : lenC (hrF lt L s) = 0 := by first | (rw [hsw]; rfl) | (rw [lenC, if_neg (sw_ne hsw 100 (by decide)), if_neg (sw_ne hsw 112 (by decide)), if_neg (fun h => by rcases h with h | h | h <;> exact sw_ne hsw _ (by decide) h), if_neg (fun h => by rcases h with h | h <;> exact sw_ne hsw _ (by decide) h)])
      have eb : bdJ lt L s = 0 := by rw [bdJ, if_pos e0]
      have eg : gdB lt L s = false := by rw [gdB, decide_eq_true e0]; rfl
      exact RSP.mk (by rw [eg]; rfl) (by rw [eb, nI_pred, Nat.add_zero]) (fun h => absurd (eg.symm.trans h) (by decide))
    | 16, _, hsw =>
      refine o_tabInE (tgt := 218) (off := 202) dX5_readsStatement_16 hsw (by decide) (by decide) (by decide) (by decide) ?_
      have hsw := sw_eq (l := 116) hsw (by decide)
      refine o_case (b := ftB (hrF lt L s) 1 (hrF lt L (s + 1))) (fun f1 => ?_) (fun f1 => ?_)
      · rw [hsw] at f1
        refine o_aload_n dX5_readsStatement_218 rfl rfl ?_
        refine o_iconst dX5_readsStatement_219 ic_0 ?_
        refine o_iconst dX5_readsStatement_220 ic_1 ?_
        refine o_callVd (w2 := mW r m im wa fr hi lt rw rf (nI L) (nI R) (nI (s + 2)) ((upd (upd nu 0 0) 0 (hrF lt L (s + 1) - 48))) sd) (is := [0, 1, 2, 3, 4, 5, 6, 7, 8, 9]) (rn1_yes (k := 0) (p := s + 1) hL (by omega) (by omega) f1) ⟨rfl, rfl⟩ dX5_readsStatement_221 wd756 cvX5_readsNumber rfl ⟨(Nat.le_of_ble_eq_true rfl), (Nat.le_of_ble_eq_true rfl)⟩ hcX5 rfl rfl rfl rfl (Nat.le_of_ble_eq_true rfl) (Nat.le_of_ble_eq_true rfl) (Nat.le_of_ble_eq_true rfl) rfl ?_
        refine o_istn_2 dX5_readsStatement_224 rfl rfl (Nat.le_of_ble_eq_true rfl) ?_
        refine o_goto (tgt := 250) dX5_readsStatement_225 (by decide) ?_
        refine o_iload_n dX5_readsStatement_250 rfl rfl ?_
        refine o_if_eq (tgt := 263) dX5_readsStatement_251 (by decide) (fun cq => absurd cq (by decide)) (fun _ => ?_)
        refine o_aload_n dX5_readsStatement_254 rfl rfl ?_
        refine o_callVr (is := [0, 1, 2, 3, 4, 5, 6, 7, 8, 9]) (tX5_here (p := s + 2) (by omega) hL) ⟨rfl, rfl⟩ dX5_readsStatement_255 wd745 cvX5_here rfl ⟨(Nat.le_of_ble_eq_true rfl), (Nat.le_of_ble_eq_true rfl)⟩ hcX5 rfl rfl rfl rfl (Nat.le_of_ble_eq_true rfl) (Nat.le_of_ble_eq_true rfl) (Nat.le_of_ble_eq_true rfl) ?_
        refine o_bipush dX5_readsStatement_258 bp_59 ?_
        refine o_icmp_eq (tgt := 265) dX5_readsStatement_260 (by decide) (fun c_260 => ?_) (fun c_260 => ?_)
        · have f2 : ftB 116 2 (hrF lt L (s + 2)) = true := decide_eq_true c_260
          refine o_aload_n dX5_readsStatement_265 rfl rfl ?_
          refine o_dup dX5_readsStatement_266 rfl ?_
          refine o_getf (j := 11) dX5_readsStatement_267 rfl hcX5 inX5 (Nat.le_of_ble_eq_true rfl) wd697 rfl rfl ?_
          refine o_iconst dX5_readsStatement_270 ic_1 ?_
          refine o_iadd dX5_readsStatement_271 ?_
          refine o_putf (j := 11) tyX5 dX5_readsStatement_272 rfl hcX5 inX5 tyX5_ok nmX5 (Nat.le_of_ble_eq_true rfl) wd697 rfl rfl (fun _ => vp_nar_int _) (fun _ => rfl) (Nat.le_of_ble_eq_true rfl) rfl ?_
          refine o_iconst dX5_readsStatement_275 ic_1 ?_
          refine o_iret dX5_readsStatement_276 rfl (by first | exact nz_b _ | decide) (Nat.le_of_ble_eq_true rfl) (Nat.le_of_ble_eq_true rfl) ?_
          have eb : bdJ lt L s = 3 := by
            rw [bdJ, hsw]
            show fjS lt L s 116 2 1 = 3
            rw [fjS, if_pos f1, fjS, if_pos f2, fjS]
          have eg : gdB lt L s = true := by rw [gdB, eb, hsw]; rfl
          exact RSP.mk (by rw [eg]; rfl) (by rw [eb, nI_1]) (fun _ j hj => by
            rw [hsw] at hj
            rw [nuV, hsw]
            have hj : j < 1 := hj
            match j, hj with
            | 0, _ => rfl)
        · have f2 : ftB 116 2 (hrF lt L (s + 2)) = false := decide_eq_false c_260
          refine o_iconst dX5_readsStatement_263 ic_0 ?_
          refine o_iret dX5_readsStatement_264 rfl (by first | exact nz_b _ | decide) (Nat.le_of_ble_eq_true rfl) (Nat.le_of_ble_eq_true rfl) ?_
          have eb : bdJ lt L s = 2 := by
            rw [bdJ, hsw]
            show fjS lt L s 116 2 1 = 2
            rw [fjS, if_pos f1, fjS, f2]
            rfl
          have eg : gdB lt L s = false := by rw [gdB, eb, hsw]; rfl
          exact RSP.mk (by rw [eg]; rfl) (by rw [eb]) (fun h => absurd (eg.symm.trans h) (by decide))
      · rw [hsw] at f1
        refine o_aload_n dX5_readsStatement_218 rfl rfl ?_
        refine o_iconst dX5_readsStatement_219 ic_0 ?_
        refine o_iconst dX5_readsStatement_220 ic_1 ?_
        refine o_callVd (w2 := mW r m im wa fr hi lt rw rf (nI L) (nI R) (nI (s + 1)) ((upd nu 0 0)) sd) (is := [0, 1, 2, 3, 4, 5, 6, 7, 8, 9]) (rn1_no (k := 0) (p := s + 1) hL (by omega) (by omega) f1) ⟨rfl, rfl⟩ dX5_readsStatement_221 wd756 cvX5_readsNumber rfl ⟨(Nat.le_of_ble_eq_true rfl), (Nat.le_of_ble_eq_true rfl)⟩ hcX5 rfl rfl rfl rfl (Nat.le_of_ble_eq_true rfl) (Nat.le_of_ble_eq_true rfl) (Nat.le_of_ble_eq_true rfl) rfl ?_
        refine o_istn_2 dX5_readsStatement_224 rfl rfl (Nat.le_of_ble_eq_true rfl) ?_
        refine o_goto (tgt := 250) dX5_readsStatement_225 (by decide) ?_
        refine o_iload_n dX5_readsStatement_250 rfl rfl ?_
        refine o_if_eq (tgt := 263) dX5_readsStatement_251 (by decide) (fun _ => ?_) (fun cq => absurd (by decide) cq)
        refine o_iconst dX5_readsStatement_263 ic_0 ?_
        refine o_iret dX5_readsStatement_264 rfl (by first | exact nz_b _ | decide) (Nat.le_of_ble_eq_true rfl) (Nat.le_of_ble_eq_true rfl) ?_
        have eb : bdJ lt L s = 1 := by
          rw [bdJ, hsw]
          show fjS lt L s 116 2 1 = 1
          rw [fjS, f1]
          rfl
        have eg : gdB lt L s = false := by rw [gdB, eb, hsw]; rfl
        exact RSP.mk (by rw [eg]; rfl) (by rw [eb]) (fun h => absurd (eg.symm.trans h) (by decide))
    | 17, _, hsw =>
      refine o_tabInE (tgt := 238) (off := 222) dX5_readsStatement_16 hsw (by decide) (by decide) (by decide) (by decide) ?_
      have hsw := sw_eq (l := 117) hsw (by decide)
      refine o_aload_n dX5_readsStatement_238 rfl rfl ?_
      refine o_dup dX5_readsStatement_239 rfl ?_
      refine o_getf (j := 11) dX5_readsStatement_240 rfl hcX5 inX5 (Nat.le_of_ble_eq_true rfl) wd697 rfl rfl ?_
      refine o_iconst dX5_readsStatement_243 ic_1 ?_
      refine o_isub dX5_readsStatement_244 ?_
      refine o_putf (j := 11) tyX5 dX5_readsStatement_245 rfl hcX5 inX5 tyX5_ok nmX5 (Nat.le_of_ble_eq_true rfl) wd697 rfl rfl (fun _ => vp_nar_int _) (fun _ => rfl) (Nat.le_of_ble_eq_true rfl) rfl ?_
      refine o_iconst dX5_readsStatement_248 ic_0 ?_
      refine o_iret dX5_readsStatement_249 rfl (by first | exact nz_b _ | decide) (Nat.le_of_ble_eq_true rfl) (Nat.le_of_ble_eq_true rfl) ?_
      have e0 : lenC (hrF lt L s) = 0 := by first | (rw [hsw]; rfl) | (rw [lenC, if_neg (sw_ne hsw 100 (by decide)), if_neg (sw_ne hsw 112 (by decide)), if_neg (fun h => by rcases h with h | h | h <;> exact sw_ne hsw _ (by decide) h), if_neg (fun h => by rcases h with h | h <;> exact sw_ne hsw _ (by decide) h)])
      have eb : bdJ lt L s = 0 := by rw [bdJ, if_pos e0]
      have eg : gdB lt L s = false := by rw [gdB, decide_eq_true e0]; rfl
      exact RSP.mk (by rw [eg]; rfl) (by rw [eb, nI_pred, Nat.add_zero]) (fun h => absurd (eg.symm.trans h) (by decide))
    | 18, _, hsw =>
      refine o_tabInE (tgt := 238) (off := 222) dX5_readsStatement_16 hsw (by decide) (by decide) (by decide) (by decide) ?_
      have hsw := sw_eq (l := 118) hsw (by decide)
      refine o_aload_n dX5_readsStatement_238 rfl rfl ?_
      refine o_dup dX5_readsStatement_239 rfl ?_
      refine o_getf (j := 11) dX5_readsStatement_240 rfl hcX5 inX5 (Nat.le_of_ble_eq_true rfl) wd697 rfl rfl ?_
      refine o_iconst dX5_readsStatement_243 ic_1 ?_
      refine o_isub dX5_readsStatement_244 ?_
      refine o_putf (j := 11) tyX5 dX5_readsStatement_245 rfl hcX5 inX5 tyX5_ok nmX5 (Nat.le_of_ble_eq_true rfl) wd697 rfl rfl (fun _ => vp_nar_int _) (fun _ => rfl) (Nat.le_of_ble_eq_true rfl) rfl ?_
      refine o_iconst dX5_readsStatement_248 ic_0 ?_
      refine o_iret dX5_readsStatement_249 rfl (by first | exact nz_b _ | decide) (Nat.le_of_ble_eq_true rfl) (Nat.le_of_ble_eq_true rfl) ?_
      have e0 : lenC (hrF lt L s) = 0 := by first | (rw [hsw]; rfl) | (rw [lenC, if_neg (sw_ne hsw 100 (by decide)), if_neg (sw_ne hsw 112 (by decide)), if_neg (fun h => by rcases h with h | h | h <;> exact sw_ne hsw _ (by decide) h), if_neg (fun h => by rcases h with h | h <;> exact sw_ne hsw _ (by decide) h)])
      have eb : bdJ lt L s = 0 := by rw [bdJ, if_pos e0]
      have eg : gdB lt L s = false := by rw [gdB, decide_eq_true e0]; rfl
      exact RSP.mk (by rw [eg]; rfl) (by rw [eb, nI_pred, Nat.add_zero]) (fun h => absurd (eg.symm.trans h) (by decide))
    | 19, _, hsw =>
      refine o_tabInE (tgt := 218) (off := 202) dX5_readsStatement_16 hsw (by decide) (by decide) (by decide) (by decide) ?_
      have hsw := sw_eq (l := 119) hsw (by decide)
      refine o_case (b := ftB (hrF lt L s) 1 (hrF lt L (s + 1))) (fun f1 => ?_) (fun f1 => ?_)
      · rw [hsw] at f1
        refine o_aload_n dX5_readsStatement_218 rfl rfl ?_
        refine o_iconst dX5_readsStatement_219 ic_0 ?_
        refine o_iconst dX5_readsStatement_220 ic_1 ?_
        refine o_callVd (w2 := mW r m im wa fr hi lt rw rf (nI L) (nI R) (nI (s + 2)) ((upd (upd nu 0 0) 0 (hrF lt L (s + 1) - 48))) sd) (is := [0, 1, 2, 3, 4, 5, 6, 7, 8, 9]) (rn1_yes (k := 0) (p := s + 1) hL (by omega) (by omega) f1) ⟨rfl, rfl⟩ dX5_readsStatement_221 wd756 cvX5_readsNumber rfl ⟨(Nat.le_of_ble_eq_true rfl), (Nat.le_of_ble_eq_true rfl)⟩ hcX5 rfl rfl rfl rfl (Nat.le_of_ble_eq_true rfl) (Nat.le_of_ble_eq_true rfl) (Nat.le_of_ble_eq_true rfl) rfl ?_
        refine o_istn_2 dX5_readsStatement_224 rfl rfl (Nat.le_of_ble_eq_true rfl) ?_
        refine o_goto (tgt := 250) dX5_readsStatement_225 (by decide) ?_
        refine o_iload_n dX5_readsStatement_250 rfl rfl ?_
        refine o_if_eq (tgt := 263) dX5_readsStatement_251 (by decide) (fun cq => absurd cq (by decide)) (fun _ => ?_)
        refine o_aload_n dX5_readsStatement_254 rfl rfl ?_
        refine o_callVr (is := [0, 1, 2, 3, 4, 5, 6, 7, 8, 9]) (tX5_here (p := s + 2) (by omega) hL) ⟨rfl, rfl⟩ dX5_readsStatement_255 wd745 cvX5_here rfl ⟨(Nat.le_of_ble_eq_true rfl), (Nat.le_of_ble_eq_true rfl)⟩ hcX5 rfl rfl rfl rfl (Nat.le_of_ble_eq_true rfl) (Nat.le_of_ble_eq_true rfl) (Nat.le_of_ble_eq_true rfl) ?_
        refine o_bipush dX5_readsStatement_258 bp_59 ?_
        refine o_icmp_eq (tgt := 265) dX5_readsStatement_260 (by decide) (fun c_260 => ?_) (fun c_260 => ?_)
        · have f2 : ftB 119 2 (hrF lt L (s + 2)) = true := decide_eq_true c_260
          refine o_aload_n dX5_readsStatement_265 rfl rfl ?_
          refine o_dup dX5_readsStatement_266 rfl ?_
          refine o_getf (j := 11) dX5_readsStatement_267 rfl hcX5 inX5 (Nat.le_of_ble_eq_true rfl) wd697 rfl rfl ?_
          refine o_iconst dX5_readsStatement_270 ic_1 ?_
          refine o_iadd dX5_readsStatement_271 ?_
          refine o_putf (j := 11) tyX5 dX5_readsStatement_272 rfl hcX5 inX5 tyX5_ok nmX5 (Nat.le_of_ble_eq_true rfl) wd697 rfl rfl (fun _ => vp_nar_int _) (fun _ => rfl) (Nat.le_of_ble_eq_true rfl) rfl ?_
          refine o_iconst dX5_readsStatement_275 ic_1 ?_
          refine o_iret dX5_readsStatement_276 rfl (by first | exact nz_b _ | decide) (Nat.le_of_ble_eq_true rfl) (Nat.le_of_ble_eq_true rfl) ?_
          have eb : bdJ lt L s = 3 := by
            rw [bdJ, hsw]
            show fjS lt L s 119 2 1 = 3
            rw [fjS, if_pos f1, fjS, if_pos f2, fjS]
          have eg : gdB lt L s = true := by rw [gdB, eb, hsw]; rfl
          exact RSP.mk (by rw [eg]; rfl) (by rw [eb, nI_1]) (fun _ j hj => by
            rw [hsw] at hj
            rw [nuV, hsw]
            have hj : j < 1 := hj
            match j, hj with
            | 0, _ => rfl)
        · have f2 : ftB 119 2 (hrF lt L (s + 2)) = false := decide_eq_false c_260
          refine o_iconst dX5_readsStatement_263 ic_0 ?_
          refine o_iret dX5_readsStatement_264 rfl (by first | exact nz_b _ | decide) (Nat.le_of_ble_eq_true rfl) (Nat.le_of_ble_eq_true rfl) ?_
          have eb : bdJ lt L s = 2 := by
            rw [bdJ, hsw]
            show fjS lt L s 119 2 1 = 2
            rw [fjS, if_pos f1, fjS, f2]
            rfl
          have eg : gdB lt L s = false := by rw [gdB, eb, hsw]; rfl
          exact RSP.mk (by rw [eg]; rfl) (by rw [eb]) (fun h => absurd (eg.symm.trans h) (by decide))
      · rw [hsw] at f1
        refine o_aload_n dX5_readsStatement_218 rfl rfl ?_
        refine o_iconst dX5_readsStatement_219 ic_0 ?_
        refine o_iconst dX5_readsStatement_220 ic_1 ?_
        refine o_callVd (w2 := mW r m im wa fr hi lt rw rf (nI L) (nI R) (nI (s + 1)) ((upd nu 0 0)) sd) (is := [0, 1, 2, 3, 4, 5, 6, 7, 8, 9]) (rn1_no (k := 0) (p := s + 1) hL (by omega) (by omega) f1) ⟨rfl, rfl⟩ dX5_readsStatement_221 wd756 cvX5_readsNumber rfl ⟨(Nat.le_of_ble_eq_true rfl), (Nat.le_of_ble_eq_true rfl)⟩ hcX5 rfl rfl rfl rfl (Nat.le_of_ble_eq_true rfl) (Nat.le_of_ble_eq_true rfl) (Nat.le_of_ble_eq_true rfl) rfl ?_
        refine o_istn_2 dX5_readsStatement_224 rfl rfl (Nat.le_of_ble_eq_true rfl) ?_
        refine o_goto (tgt := 250) dX5_readsStatement_225 (by decide) ?_
        refine o_iload_n dX5_readsStatement_250 rfl rfl ?_
        refine o_if_eq (tgt := 263) dX5_readsStatement_251 (by decide) (fun _ => ?_) (fun cq => absurd (by decide) cq)
        refine o_iconst dX5_readsStatement_263 ic_0 ?_
        refine o_iret dX5_readsStatement_264 rfl (by first | exact nz_b _ | decide) (Nat.le_of_ble_eq_true rfl) (Nat.le_of_ble_eq_true rfl) ?_
        have eb : bdJ lt L s = 1 := by
          rw [bdJ, hsw]
          show fjS lt L s 119 2 1 = 1
          rw [fjS, f1]
          rfl
        have eg : gdB lt L s = false := by rw [gdB, eb, hsw]; rfl
        exact RSP.mk (by rw [eg]; rfl) (by rw [eb]) (fun h => absurd (eg.symm.trans h) (by decide))
    | j + 20, hj, _ => exact absurd hj (by omega)
