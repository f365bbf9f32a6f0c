section ST13
variable {M : MI} {S : Scr} {pc : Nat} {st : List Value} {w : PW} {k n : Nat} {P : Option Value → PW → Prop}
theorem o_istg_13 {x : Int32} {a0 a1 a2 a3 a4 a5 a6 a7 a8 a9 a10 a11 a12 a13 : Option Value} {r : List (Option Value)} (hd : decode (mC M) pc = .ok (.istore 13, 2)) (hc : lcl (a0 :: a1 :: a2 :: a3 :: a4 :: a5 :: a6 :: a7 :: a8 :: a9 :: a10 :: a11 :: a12 :: a13 :: r) 13 = (a0 :: a1 :: a2 :: a3 :: a4 :: a5 :: a6 :: a7 :: a8 :: a9 :: a10 :: a11 :: a12 :: a13 :: r)) (hn : 13 < mL M) (h : Ok M S (pc + 2) (a0 :: a1 :: a2 :: a3 :: a4 :: a5 :: a6 :: a7 :: a8 :: a9 :: a10 :: a11 :: a12 :: some (.int x) :: r) st w k n P) : Ok M S pc (a0 :: a1 :: a2 :: a3 :: a4 :: a5 :: a6 :: a7 :: a8 :: a9 :: a10 :: a11 :: a12 :: a13 :: r) (.int x :: st) w k n P := o_istore hd hn (by unfold st1; rw [hc]; rfl) h
theorem o_inc_13 {a : Int} {x v : Int32} {a0 a1 a2 a3 a4 a5 a6 a7 a8 a9 a10 a11 a12 : Option Value} {r : List (Option Value)} (hd : decode (mC M) pc = .ok (.iinc 13 a, 3)) (hc : lcl (a0 :: a1 :: a2 :: a3 :: a4 :: a5 :: a6 :: a7 :: a8 :: a9 :: a10 :: a11 :: a12 :: some (.int x) :: r) 13 = (a0 :: a1 :: a2 :: a3 :: a4 :: a5 :: a6 :: a7 :: a8 :: a9 :: a10 :: a11 :: a12 :: some (.int x) :: r)) (hv : Int32.ofInt a = v) (hn : 13 < mL M) (h : Ok M S (pc + 3) (a0 :: a1 :: a2 :: a3 :: a4 :: a5 :: a6 :: a7 :: a8 :: a9 :: a10 :: a11 :: a12 :: some (.int (x + v)) :: r) st w k n P) : Ok M S pc (a0 :: a1 :: a2 :: a3 :: a4 :: a5 :: a6 :: a7 :: a8 :: a9 :: a10 :: a11 :: a12 :: some (.int x) :: r) st w k n P := o_iinc hd rfl (by rw [hv]) hn (by unfold st1; rw [hc]; rfl) h
end ST13
theorem lX5_hourBy {r im wa lt rw rf nu : Nat → Int32} {hi pl sd : Int32} {L R : Nat} {g : Nat → Nat} {b : Bool} {D N h : Nat} {m : Nat → Int32} (hm : MOk m D N h) {P : Option Value → PW → Prop} (hP : ∀ i2, Ok mX5_hourBy none 46 [some (.ref 0), some (.int (bI b)), some (.int i2)] [] (mW r (wgR r m b D) im wa (nF g) hi lt rw rf (nI L) (nI R) pl nu sd) 0 0 P) : ∀ (q k : Nat), D - k < q → k ≤ D → Ok mX5_hourBy none 2 [some (.ref 0), some (.int (bI b)), some (.int (nI k))] [] (mW r (wgR r m b k) im wa (nF g) hi lt rw rf (nI L) (nI R) pl nu sd) 0 0 (P) := by
  intro q
  induction q with
  | zero => intro k hq hk; omega
  | succ q ih =>
  intro k hq hk
  have hD9 := hm.1.2.1
  have e0 := (hm.wg (r := r) (fire := b) k hk).1.1
  refine o_iload_n dX5_hourBy_2 rfl rfl ?_
  refine o_aload_n dX5_hourBy_3 rfl rfl ?_
  refine o_getf (j := 1) dX5_hourBy_4 rfl hcX5 inX5 (Nat.le_of_ble_eq_true rfl) wd687 rfl rfl ?_
  refine o_iconst dX5_hourBy_7 ic_0 ?_
  refine o_ialp (i := 0) dX5_hourBy_8 rfl (rfl) (by decide) ?_
  refine o_icmp_ge (tgt := 46) dX5_hourBy_9 (by decide) (fun c_9 => ?_) (fun c_9 => ?_)
  · rw [e0] at c_9
    have hkN : k = D := Nat.le_antisymm hk (geI (by omega) (by omega) c_9)
    subst hkN
    exact hP _
  · rw [e0] at c_9
    have hkN : k < D := ltI (by omega) (by omega) c_9
    refine o_aload_n dX5_hourBy_12 rfl rfl ?_
    refine o_getf (j := 1) dX5_hourBy_13 rfl hcX5 inX5 (Nat.le_of_ble_eq_true rfl) wd687 rfl rfl ?_
    refine o_iload_n dX5_hourBy_16 rfl rfl ?_
    refine o_iconst dX5_hourBy_17 ic_4 ?_
    refine o_callSr (is := []) (ofD4) ⟨rfl, rfl⟩ dX5_hourBy_18 wd777 csX5_ofD rfl ⟨(Nat.le_of_ble_eq_true rfl), (Nat.le_of_ble_eq_true rfl)⟩ rfl rfl rfl (Nat.le_of_ble_eq_true rfl) (Nat.le_of_ble_eq_true rfl) (Nat.le_of_ble_eq_true rfl) ?_
    refine o_iload_n dX5_hourBy_21 rfl rfl ?_
    refine o_if_eq (tgt := 29) dX5_hourBy_22 (by decide) (fun c_22 => ?_) (fun c_22 => ?_)
    · have eb := bI_0.mp c_22
      refine o_aload_n dX5_hourBy_29 rfl rfl ?_
      refine o_getf (j := 0) dX5_hourBy_30 rfl hcX5 inX5 (Nat.le_of_ble_eq_true rfl) wd686 rfl rfl ?_
      refine o_iload_n dX5_hourBy_33 rfl rfl ?_
      refine o_iconst dX5_hourBy_34 ic_4 ?_
      refine o_callSr (is := []) (ofD4) ⟨rfl, rfl⟩ dX5_hourBy_35 wd777 csX5_ofD rfl ⟨(Nat.le_of_ble_eq_true rfl), (Nat.le_of_ble_eq_true rfl)⟩ rfl rfl rfl (Nat.le_of_ble_eq_true rfl) (Nat.le_of_ble_eq_true rfl) (Nat.le_of_ble_eq_true rfl) ?_
      refine o_ialp (i := 9 + 5 * k) dX5_hourBy_38 rfl (rfl) (by omega) ?_
      refine o_iasp (i := 9 + 5 * k) dX5_hourBy_39 rfl (rfl) (by omega) rfl ?_
      refine o_inc_2 dX5_hourBy_40 rfl ic_1 (Nat.le_of_ble_eq_true rfl) ?_
      refine o_goto (tgt := 2) dX5_hourBy_43 (by decide) ?_
      exact o_eqa (by rw [nI_1]) (by rw [wgR, eb]; rfl) (ih (k + 1) (by omega) (by omega))
    · have eb := bI_ne c_22
      refine o_iconst dX5_hourBy_25 ic_1 ?_
      refine o_goto (tgt := 39) dX5_hourBy_26 (by decide) ?_
      refine o_iasp (i := 9 + 5 * k) dX5_hourBy_39 rfl (rfl) (by omega) rfl ?_
      refine o_inc_2 dX5_hourBy_40 rfl ic_1 (Nat.le_of_ble_eq_true rfl) ?_
      refine o_goto (tgt := 2) dX5_hourBy_43 (by decide) ?_
      exact o_eqa (by rw [nI_1]) (by rw [wgR, eb]; rfl) (ih (k + 1) (by omega) (by omega))
theorem tX5_hourBy {r m im wa lt rw rf nu : Nat → Int32} {hi pl sd : Int32} {L R : Nat} {g : Nat → Nat} {b : Bool} {D N h : Nat} (hg : ∀ i, g i ≤ 99) (hm : MOk m D N h) (hh : h + 1 < 2147483648) : PD mX5_hourBy [.ref 0, .int (bI b)] (mW r m im wa (nF g) hi lt rw rf (nI L) (nI R) pl nu sd) (none) (mW r (hourM g D N (wgR r m b D)) im wa (nF g) hi lt rw rf (nI L) (nI R) pl nu sd) := by
  refine PM.ofp 1 (by decide) (Nat.le_of_ble_eq_true rfl) ?_
  show Ok mX5_hourBy none 0 [some (.ref 0), some (.int (bI b)), none] [] (mW r m im wa (nF g) hi lt rw rf (nI L) (nI R) pl nu sd) 0 0 _
  refine o_iconst dX5_hourBy_0 ic_0 ?_
  refine o_istn_2 dX5_hourBy_1 rfl rfl (Nat.le_of_ble_eq_true rfl) ?_
  refine o_eqa (by rw [nI_0]) rfl (lX5_hourBy hm (fun i2 => ?_) (D + 1) 0 (by omega) (by omega))
  refine o_aload_n dX5_hourBy_46 rfl rfl ?_
  refine o_aload_n dX5_hourBy_47 rfl rfl ?_
  refine o_getf (j := 1) dX5_hourBy_48 rfl hcX5 inX5 (Nat.le_of_ble_eq_true rfl) wd687 rfl rfl ?_
  refine o_callVd (is := [0, 1, 2, 3, 4, 5, 6, 7, 8, 9]) (tX5_hour_m hg (hm.wg D (Nat.le_refl _)) hh) ⟨rfl, rfl⟩ dX5_hourBy_51 wd808 cvX5_hour rfl ⟨(Nat.le_of_ble_eq_true rfl), (Nat.le_of_ble_eq_true rfl)⟩ hcX5 rfl rfl rfl rfl (Nat.le_of_ble_eq_true rfl) (Nat.le_of_ble_eq_true rfl) (Nat.le_of_ble_eq_true rfl) rfl ?_
  refine o_vret dX5_hourBy_54 rfl (Nat.le_of_ble_eq_true rfl) (Nat.le_of_ble_eq_true rfl) ?_
  exact ⟨rfl, rfl⟩
theorem t_l {T : Nat} (h1 : 2 ≤ T) (h2 : T ≤ 20) : (nI T - 1).toInt64 = lN (T - 1) ∧ (nI T).toInt64 = lN T := by
  rw [show nI T - 1 = nI (T - 1) from pk_sub (b := 1) (by omega)]
  exact ⟨nI_l (by omega), nI_l (by omega)⟩
theorem fiW_n {T : Nat} {set : Int32} (h1 : 2 ≤ T) (h2 : T ≤ 20) : ∀ k, ∃ v, v ≤ 20 ^ k ∧ fiW (nI T) set k = lN v
  | 0 => ⟨1, Nat.le_refl _, rfl⟩
  | k + 1 => by
    obtain ⟨v, h3, h4⟩ := fiW_n (set := set) h1 h2 k
    rw [fiW, h4]
    have h20 : (20 : Nat) ^ (k + 1) = 20 * 20 ^ k := by rw [Nat.pow_succ, Nat.mul_comm]
    split
    · exact ⟨v, by omega, by rw [show (1 : Int64) = lN 1 from rfl, lN_mul, Nat.mul_one]⟩
    · refine ⟨v * (T - 1), ?_, by rw [(t_l h1 h2).1, lN_mul]⟩
      calc v * (T - 1) ≤ 20 ^ k * 20 := Nat.mul_le_mul h3 (by omega)
        _ = 20 ^ (k + 1) := (Nat.pow_succ 20 k).symm
theorem faS_n {r : Nat → Int32} {p T n : Nat} {x : Int32} (h1 : 2 ≤ T) (h2 : T ≤ 20) : ∀ s, ∃ v, v ≤ s * 20 ^ n ∧ faS r p x (nI T) n s = lN v
  | 0 => ⟨0, by omega, rfl⟩
  | s + 1 => by
    obtain ⟨v, h3, h4⟩ := faS_n (r := r) (p := p) (x := x) (n := n) h1 h2 s
    obtain ⟨u, h5, h6⟩ := fiW_n (set := nI s) h1 h2 n
    rw [faS, h4, h6]
    have e : (s + 1) * 20 ^ n = s * 20 ^ n + 20 ^ n := Nat.succ_mul _ _
    split
    · exact ⟨v + u, by omega, by rw [lN_add]⟩
    · exact ⟨v, by omega, by rw [show (0 : Int64) = lN 0 from rfl, lN_add, Nat.add_zero]⟩
theorem powL_n {T : Nat} (h1 : 2 ≤ T) (h2 : T ≤ 20) : ∀ k, powL (nI T).toInt64 k = lN (T ^ k)
  | 0 => rfl
  | k + 1 => by rw [powL, powL_n h1 h2 k, (t_l h1 h2).2, lN_mul, Nat.pow_succ]
theorem fire_gcd {r : Nat → Int32} {p T n : Nat} {x : Int32} (h1 : 2 ≤ T) (h2 : T ≤ 20) (hn : n ≤ 7) : gcdE 200 (faS r p x (nI T) n (2 ^ n)) (powL (nI T).toInt64 n) ∧ gcdS 200 (faS r p x (nI T) n (2 ^ n)) (powL (nI T).toInt64 n) ≠ 0 := by
  obtain ⟨v, h3, h4⟩ := faS_n (r := r) (p := p) (x := x) (n := n) h1 h2 (2 ^ n)
  have k1 : 2 ^ n * 20 ^ n ≤ 2 ^ 7 * 20 ^ 7 := Nat.mul_le_mul (Nat.pow_le_pow_right (by omega) hn) (Nat.pow_le_pow_right (by omega) hn)
  have k2 : T ^ n ≤ 20 ^ 7 := Nat.le_trans (Nat.pow_le_pow_left h2 n) (Nat.pow_le_pow_right (by omega) hn)
  have k3 : 0 < T ^ n := Nat.pow_pos (by omega)
  have k4 : (2 : Nat) ^ 7 * 20 ^ 7 < 2 ^ 62 := by decide
  have k5 : (20 : Nat) ^ 7 < 2 ^ 40 := by decide
  rw [h4, powL_n h1 h2]
  obtain ⟨g1, g2, g3⟩ := gcd_ok (a := v) (b := T ^ n) (by omega) (by omega) (Or.inr (by omega))
  exact ⟨g1, g3⟩
theorem lX5_fire1 {r m im wa fr lt rw rf nu : Nat → Int32} {hi pl sd : Int32} {L R : Nat} (hS : SOk r) {d n T : Nat} {x w : Int32} (hn : n ≤ 7) {P : Option Value → PW → Prop} (hP : ∀ i10, Ok mX5_fire none 98 [some (.ref 0), some (.int (nI d)), some (.int x), some (.int (nI n)), some (.int (nI T)), some (.int w), some (.long 0), none, some (.long (powL (nI T).toInt64 n)), none, some (.int i10), none, none, none] [] (mW r m im wa fr hi lt rw rf (nI L) (nI R) pl nu sd) 0 0 P) : ∀ (q k : Nat), n - k < q → k ≤ n → Ok mX5_fire none 78 [some (.ref 0), some (.int (nI d)), some (.int x), some (.int (nI n)), some (.int (nI T)), some (.int w), some (.long 0), none, some (.long (powL (nI T).toInt64 k)), none, some (.int (nI k)), none, none, none] [] (mW r m im wa fr hi lt rw rf (nI L) (nI R) pl nu sd) 0 0 (P) := by
  intro q
  induction q with
  | zero => intro k hq hk; omega
  | succ q ih =>
  intro k hq hk
  refine o_iload dX5_fire_78 rfl ?_
  refine o_iload_n dX5_fire_80 rfl rfl ?_
  refine o_icmp_ge (tgt := 98) dX5_fire_81 (by decide) (fun c_81 => ?_) (fun c_81 => ?_)
  · have hkN : k = n := Nat.le_antisymm hk (geI (by omega) (by omega) c_81)
    subst hkN
    exact hP _
  · have hkN : k < n := ltI (by omega) (by omega) c_81
    refine o_lload dX5_fire_84 rfl ?_
    refine o_iload dX5_fire_86 rfl ?_
    refine o_i2l dX5_fire_88 ?_
    refine o_lmul dX5_fire_89 ?_
    refine o_lstg_8 dX5_fire_90 rfl (Nat.le_of_ble_eq_true rfl) ?_
    refine o_inc_10 dX5_fire_92 rfl ic_1 (Nat.le_of_ble_eq_true rfl) ?_
    refine o_goto (tgt := 78) dX5_fire_95 (by decide) ?_
    exact o_eqa (by rw [nI_1, powL]) rfl (ih (k + 1) (by omega) (by omega))
theorem lX5_fire3 {r im wa lt rw rf nu : Nat → Int32} {hi pl sd : Int32} {L R : Nat} (hS : SOk r) {d n T : Nat} {x w : Int32} {s : Nat} {A : Int64} (hn : n ≤ 7) {P : Option Value → PW → Prop} (hP : ∀ i13, Ok mX5_fire none 167 [some (.ref 0), some (.int (nI d)), some (.int x), some (.int (nI n)), some (.int (nI T)), some (.int w), some (.long A), none, some (.long (powL (nI T).toInt64 n)), none, some (.int (nI s)), some (.long (fiW (nI T) (nI s) n)), none, some (.int i13)] [] (mW r (fiR r (nI s) n) im wa (nF (farOf r)) hi lt rw rf (nI L) (nI R) pl nu sd) 0 0 P) : ∀ (q k : Nat), n - k < q → k ≤ n → Ok mX5_fire none 120 [some (.ref 0), some (.int (nI d)), some (.int x), some (.int (nI n)), some (.int (nI T)), some (.int w), some (.long A), none, some (.long (powL (nI T).toInt64 n)), none, some (.int (nI s)), some (.long (fiW (nI T) (nI s) k)), none, some (.int (nI k))] [] (mW r (fiR r (nI s) k) im wa (nF (farOf r)) hi lt rw rf (nI L) (nI R) pl nu sd) 0 0 (P) := by
  intro q
  induction q with
  | zero => intro k hq hk; omega
  | succ q ih =>
  intro k hq hk
  have h6 := hS.n6
  have h9 := hS.d9
  have h99 := hS.h9
  refine o_iload dX5_fire_120 rfl ?_
  refine o_iload_n dX5_fire_122 rfl rfl ?_
  refine o_icmp_ge (tgt := 167) dX5_fire_123 (by decide) (fun c_123 => ?_) (fun c_123 => ?_)
  · have hkN : k = n := Nat.le_antisymm hk (geI (by omega) (by omega) c_123)
    subst hkN
    exact hP _
  · have hkN : k < n := ltI (by omega) (by omega) c_123
    refine o_lload dX5_fire_126 rfl ?_
    refine o_iload dX5_fire_128 rfl ?_
    refine o_iload dX5_fire_130 rfl ?_
    refine o_callSr (is := []) (tX5_has) ⟨rfl, rfl⟩ dX5_fire_132 wd812 csX5_has rfl ⟨(Nat.le_of_ble_eq_true rfl), (Nat.le_of_ble_eq_true rfl)⟩ rfl rfl rfl (Nat.le_of_ble_eq_true rfl) (Nat.le_of_ble_eq_true rfl) (Nat.le_of_ble_eq_true rfl) ?_
    refine o_if_eq (tgt := 142) dX5_fire_135 (by decide) (fun c_135 => ?_) (fun c_135 => ?_)
    · have ew : fiW (nI T) (nI s) (k + 1) = fiW (nI T) (nI s) k * (nI T - 1).toInt64 := by rw [fiW, bI_0.mp c_135]; rfl
      refine o_iload dX5_fire_142 rfl ?_
      refine o_iconst dX5_fire_144 ic_1 ?_
      refine o_isub dX5_fire_145 ?_
      refine o_i2l dX5_fire_146 ?_
      refine o_lmul dX5_fire_147 ?_
      refine o_lstg_11 dX5_fire_148 rfl (Nat.le_of_ble_eq_true rfl) ?_
      refine o_aload_n dX5_fire_150 rfl rfl ?_
      refine o_iload dX5_fire_151 rfl ?_
      refine o_iload dX5_fire_153 rfl ?_
      refine o_callSr (is := []) (tX5_has) ⟨rfl, rfl⟩ dX5_fire_155 wd812 csX5_has rfl ⟨(Nat.le_of_ble_eq_true rfl), (Nat.le_of_ble_eq_true rfl)⟩ rfl rfl rfl (Nat.le_of_ble_eq_true rfl) (Nat.le_of_ble_eq_true rfl) (Nat.le_of_ble_eq_true rfl) ?_
      refine o_callVd (w2 := mW r (fiR r (nI s) (k + 1)) im wa (nF (farOf r)) hi lt rw rf (nI L) (nI R) pl nu sd) (is := [0, 1, 2, 3, 4, 5, 6, 7, 8, 9]) (tX5_hourBy farOf_le (fiR_ok hS.M k) (by omega)) ⟨rfl, rfl⟩ dX5_fire_158 wd1010 cvX5_hourBy rfl ⟨(Nat.le_of_ble_eq_true rfl), (Nat.le_of_ble_eq_true rfl)⟩ hcX5 rfl rfl rfl rfl (Nat.le_of_ble_eq_true rfl) (Nat.le_of_ble_eq_true rfl) (Nat.le_of_ble_eq_true rfl) rfl ?_
      refine o_inc_13 dX5_fire_161 rfl ic_1 (Nat.le_of_ble_eq_true rfl) ?_
      refine o_goto (tgt := 120) dX5_fire_164 (by decide) ?_
      exact o_eqa (by rw [nI_1, ew]) rfl (ih (k + 1) (by omega) (by omega))
    · have ew : fiW (nI T) (nI s) (k + 1) = fiW (nI T) (nI s) k * 1 := by rw [fiW, bI_ne c_135]; rfl
      refine o_lconst dX5_fire_138 lc_1 ?_
      refine o_goto (tgt := 147) dX5_fire_139 (by decide) ?_
      refine o_lmul dX5_fire_147 ?_
      refine o_lstg_11 dX5_fire_148 rfl (Nat.le_of_ble_eq_true rfl) ?_
      refine o_aload_n dX5_fire_150 rfl rfl ?_
      refine o_iload dX5_fire_151 rfl ?_
      refine o_iload dX5_fire_153 rfl ?_
      refine o_callSr (is := []) (tX5_has) ⟨rfl, rfl⟩ dX5_fire_155 wd812 csX5_has rfl ⟨(Nat.le_of_ble_eq_true rfl), (Nat.le_of_ble_eq_true rfl)⟩ rfl rfl rfl (Nat.le_of_ble_eq_true rfl) (Nat.le_of_ble_eq_true rfl) (Nat.le_of_ble_eq_true rfl) ?_
      refine o_callVd (w2 := mW r (fiR r (nI s) (k + 1)) im wa (nF (farOf r)) hi lt rw rf (nI L) (nI R) pl nu sd) (is := [0, 1, 2, 3, 4, 5, 6, 7, 8, 9]) (tX5_hourBy farOf_le (fiR_ok hS.M k) (by omega)) ⟨rfl, rfl⟩ dX5_fire_158 wd1010 cvX5_hourBy rfl ⟨(Nat.le_of_ble_eq_true rfl), (Nat.le_of_ble_eq_true rfl)⟩ hcX5 rfl rfl rfl rfl (Nat.le_of_ble_eq_true rfl) (Nat.le_of_ble_eq_true rfl) (Nat.le_of_ble_eq_true rfl) rfl ?_
      refine o_inc_13 dX5_fire_161 rfl ic_1 (Nat.le_of_ble_eq_true rfl) ?_
      refine o_goto (tgt := 120) dX5_fire_164 (by decide) ?_
      exact o_eqa (by rw [nI_1, ew]) rfl (ih (k + 1) (by omega) (by omega))
theorem lX5_fire2 {r im wa lt rw rf nu : Nat → Int32} {hi pl sd : Int32} {L R : Nat} (hS : SOk r) {d n T : Nat} {x w : Int32} (hd : d < nN r) (hn : n ≤ 7) (h1 : 2 ≤ T) (h2 : T ≤ 20) : ∀ (q k : Nat) (m fr : Nat → Int32) (x11 x12 x13 : Option Value), 2 ^ n - k < q → k ≤ 2 ^ n → Ok mX5_fire none 101 [some (.ref 0), some (.int (nI d)), some (.int x), some (.int (nI n)), some (.int (nI T)), some (.int w), some (.long (faS r d x (nI T) n k)), none, some (.long (powL (nI T).toInt64 n)), none, some (.int (nI k)), x11, x12, x13] [] (mW r m im wa fr hi lt rw rf (nI L) (nI R) pl nu sd) 0 0 (fun v w2 => v = some (.long (partM (faS r d x (nI T) n (2 ^ n)) (powL (nI T).toInt64 n) w)) ∧ ∃ m2 fr2, w2 = mW r m2 im wa fr2 hi lt rw rf (nI L) (nI R) pl nu sd) := by
  intro q
  induction q with
  | zero => intro k m fr x11 x12 x13 hq hk; omega
  | succ q ih =>
  intro k m fr x11 x12 x13 hq hk
  have h6 := hS.n6
  have h9 := hS.d9
  have hp : 2 ^ n ≤ 128 := Nat.pow_le_pow_right (n := 2) (by omega) hn
  refine o_iload dX5_fire_101 rfl ?_
  refine o_iconst dX5_fire_103 ic_1 ?_
  refine o_iload_n dX5_fire_104 rfl rfl ?_
  refine o_ishl dX5_fire_105 ?_
  refine o_icmp_ge (tgt := 198) dX5_fire_106 (by decide) (fun c_106 => ?_) (fun c_106 => ?_)
  · rw [sh1 hn] at c_106
    have hkN : k = 2 ^ n := Nat.le_antisymm hk (geI (by omega) (by omega) c_106)
    subst hkN
    refine o_lload dX5_fire_198 rfl ?_
    refine o_lload dX5_fire_200 rfl ?_
    refine o_iload dX5_fire_202 rfl ?_
    refine o_callSr (is := []) (tX5_partOf (fire_gcd h1 h2 hn).1 (fun _ => (fire_gcd h1 h2 hn).2)) ⟨rfl, rfl⟩ dX5_fire_204 wd1014 csX5_partOf rfl ⟨(Nat.le_of_ble_eq_true rfl), (Nat.le_of_ble_eq_true rfl)⟩ rfl rfl rfl (Nat.le_of_ble_eq_true rfl) (Nat.le_of_ble_eq_true rfl) (Nat.le_of_ble_eq_true rfl) ?_
    refine o_lret dX5_fire_207 rfl (Nat.le_of_ble_eq_true rfl) (Nat.le_of_ble_eq_true rfl) ?_
    exact ⟨rfl, _, _, rfl⟩
  · rw [sh1 hn] at c_106
    have hkN : k < 2 ^ n := ltI (by omega) (by omega) c_106
    refine o_lconst dX5_fire_109 lc_1 ?_
    refine o_lstg_11 dX5_fire_110 rfl (Nat.le_of_ble_eq_true rfl) ?_
    refine o_aload_n dX5_fire_112 rfl rfl ?_
    refine o_iconst dX5_fire_113 ic_0 ?_
    refine o_callVd (w2 := mW r r im wa (nF (farOf r)) hi lt rw rf (nI L) (nI R) pl nu sd) (is := [0, 1, 2, 3, 4, 5, 6, 7, 8, 9]) (tX5_takes (n := 0) hS (by omega)) ⟨rfl, rfl⟩ dX5_fire_114 wd893 cvX5_takes rfl ⟨(Nat.le_of_ble_eq_true rfl), (Nat.le_of_ble_eq_true rfl)⟩ hcX5 rfl rfl rfl rfl (Nat.le_of_ble_eq_true rfl) (Nat.le_of_ble_eq_true rfl) (Nat.le_of_ble_eq_true rfl) rfl ?_
    refine o_iconst dX5_fire_117 ic_0 ?_
    refine o_istg_13 dX5_fire_118 rfl (Nat.le_of_ble_eq_true rfl) ?_
    refine o_eqa (by rw [nI_0]; rfl) rfl (lX5_fire3 (d := d) (n := n) (T := T) (x := x) (w := w) (s := k) (A := faS r d x (nI T) n k) hS hn (fun i13 => ?_) (n + 1) 0 (by omega) (by omega))
    refine o_lload dX5_fire_167 rfl ?_
    refine o_aload_n dX5_fire_169 rfl rfl ?_
    refine o_getf (j := 1) dX5_fire_170 rfl hcX5 inX5 (Nat.le_of_ble_eq_true rfl) wd687 rfl rfl ?_
    refine o_iload_n dX5_fire_173 rfl rfl ?_
    refine o_iconst dX5_fire_174 ic_0 ?_
    refine o_callSr (is := []) (ofP0) ⟨rfl, rfl⟩ dX5_fire_175 wd783 csX5_ofP rfl ⟨(Nat.le_of_ble_eq_true rfl), (Nat.le_of_ble_eq_true rfl)⟩ rfl rfl rfl (Nat.le_of_ble_eq_true rfl) (Nat.le_of_ble_eq_true rfl) (Nat.le_of_ble_eq_true rfl) ?_
    refine o_ialp (i := 50 + 3 * d) dX5_fire_178 rfl (rfl) (by omega) ?_
    refine o_iload_n dX5_fire_179 rfl rfl ?_
    refine o_icmp_ne (tgt := 188) dX5_fire_180 (by decide) (fun c_180 => ?_) (fun c_180 => ?_)
    · skip
      refine o_lconst dX5_fire_188 lc_0 ?_
      refine o_ladd dX5_fire_189 ?_
      refine o_lstg_6 dX5_fire_190 rfl (Nat.le_of_ble_eq_true rfl) ?_
      refine o_inc_10 dX5_fire_192 rfl ic_1 (Nat.le_of_ble_eq_true rfl) ?_
      refine o_goto (tgt := 101) dX5_fire_195 (by decide) ?_
      exact o_eqa (by rw [nI_1, faS, if_neg c_180]) rfl (ih (k + 1) _ _ _ _ _ (by omega) (by omega))
    · skip
      refine o_lload dX5_fire_183 rfl ?_
      refine o_goto (tgt := 189) dX5_fire_185 (by decide) ?_
      refine o_ladd dX5_fire_189 ?_
      refine o_lstg_6 dX5_fire_190 rfl (Nat.le_of_ble_eq_true rfl) ?_
      refine o_inc_10 dX5_fire_192 rfl ic_1 (Nat.le_of_ble_eq_true rfl) ?_
      refine o_goto (tgt := 101) dX5_fire_195 (by decide) ?_
      exact o_eqa (by rw [nI_1, faS, if_pos c_180]) rfl (ih (k + 1) _ _ _ _ _ (by omega) (by omega))
theorem tX5_fire {r m im wa fr lt rw rf nu : Nat → Int32} {hi pl sd : Int32} {L R : Nat} (hS : SOk r) {p x n t w : Int32} : PM mX5_fire [.ref 0, .int p, .int x, .int n, .int t, .int w] (mW r m im wa fr hi lt rw rf (nI L) (nI R) pl nu sd) (MP (s_fire p x n t w (r, im, hi, lt, L, rw, R, rf))) := by
  refine PM.ofp 8 (by decide) (Nat.le_of_ble_eq_true rfl) ?_
  show Ok mX5_fire none 0 [some (.ref 0), some (.int p), some (.int x), some (.int n), some (.int t), some (.int w), none, none, none, none, none, none, none, none] [] (mW r m im wa fr hi lt rw rf (nI L) (nI R) pl nu sd) 0 0 _
  refine o_aload_n dX5_fire_0 rfl rfl ?_
  refine o_iload_n dX5_fire_1 rfl rfl ?_
  refine o_iload_n dX5_fire_2 rfl rfl ?_
  refine o_callVr (is := [0, 1, 2, 3, 4, 5, 6, 7, 8, 9]) (tX5_areWrong hS) ⟨rfl, rfl⟩ dX5_fire_3 wd860 cvX5_areWrong rfl ⟨(Nat.le_of_ble_eq_true rfl), (Nat.le_of_ble_eq_true rfl)⟩ hcX5 rfl rfl rfl rfl (Nat.le_of_ble_eq_true rfl) (Nat.le_of_ble_eq_true rfl) (Nat.le_of_ble_eq_true rfl) ?_
  refine o_if_eq (tgt := 15) dX5_fire_6 (by decide) (fun c_6 => ?_) (fun c_6 => ?_)
  · have hyes := bI_n0 c_6
    have hy2 := hyes
    simp only [Bool.and_eq_true] at hy2
    obtain ⟨d, hd, rfl⟩ := inR_yes (by have := hS.n6; omega) hy2.1
    have h9 := hS.n6
    have ec := cN_nI (d := d) (by omega)
    refine o_iload_n dX5_fire_15 rfl rfl ?_
    refine o_if_lt (tgt := 25) dX5_fire_16 (by decide) (fun c_16 => ?_) (fun c_16 => ?_)
    · have q1 : n < 0 ∨ t < 2 := Or.inl c_16
      refine o_aload_n dX5_fire_25 rfl rfl ?_
      refine o_bipush dX5_fire_26 bp_m4 ?_
      refine o_callVd (is := [0, 1, 2, 3, 4, 5, 6, 7, 8, 9]) (tX5_noWide (c := 4) rfl (by decide)) ⟨rfl, rfl⟩ dX5_fire_28 wd1005 cvX5_noWide rfl ⟨(Nat.le_of_ble_eq_true rfl), (Nat.le_of_ble_eq_true rfl)⟩ hcX5 rfl rfl rfl rfl (Nat.le_of_ble_eq_true rfl) (Nat.le_of_ble_eq_true rfl) (Nat.le_of_ble_eq_true rfl) rfl ?_
      refine o_lret dX5_fire_31 rfl (Nat.le_of_ble_eq_true rfl) (Nat.le_of_ble_eq_true rfl) ?_
      exact MP.mk (σ := (r, im, hi, lt, L, rw, R, rfu rf 4)) (by simp only [s_fire, hyes, if_true, if_pos q1]; rfl)
    · skip
      refine o_iload dX5_fire_19 rfl ?_
      refine o_iconst dX5_fire_21 ic_2 ?_
      refine o_icmp_ge (tgt := 32) dX5_fire_22 (by decide) (fun c_22 => ?_) (fun c_22 => ?_)
      · have q1 : ¬ (n < 0 ∨ t < 2) := fun h => h.elim c_16 (Int32.not_lt.mpr c_22)
        refine o_iload_n dX5_fire_32 rfl rfl ?_
        refine o_bipush dX5_fire_33 bp_7 ?_
        refine o_icmp_gt (tgt := 45) dX5_fire_35 (by decide) (fun c_35 => ?_) (fun c_35 => ?_)
        · have q2 : 7 < n ∨ 20 < t := Or.inl c_35
          refine o_aload_n dX5_fire_45 rfl rfl ?_
          refine o_bipush dX5_fire_46 bp_m6 ?_
          refine o_callVd (is := [0, 1, 2, 3, 4, 5, 6, 7, 8, 9]) (tX5_noWide (c := 6) rfl (by decide)) ⟨rfl, rfl⟩ dX5_fire_48 wd1005 cvX5_noWide rfl ⟨(Nat.le_of_ble_eq_true rfl), (Nat.le_of_ble_eq_true rfl)⟩ hcX5 rfl rfl rfl rfl (Nat.le_of_ble_eq_true rfl) (Nat.le_of_ble_eq_true rfl) (Nat.le_of_ble_eq_true rfl) rfl ?_
          refine o_lret dX5_fire_51 rfl (Nat.le_of_ble_eq_true rfl) (Nat.le_of_ble_eq_true rfl) ?_
          exact MP.mk (σ := (r, im, hi, lt, L, rw, R, rfu rf 6)) (by simp only [s_fire, hyes, if_true, if_neg q1, if_pos q2]; rfl)
        · skip
          refine o_iload dX5_fire_38 rfl ?_
          refine o_bipush dX5_fire_40 bp_20 ?_
          refine o_icmp_le (tgt := 52) dX5_fire_42 (by decide) (fun c_42 => ?_) (fun c_42 => ?_)
          · have q2 : ¬ (7 < n ∨ 20 < t) := fun h => h.elim c_35 (Int32.not_lt.mpr c_42)
            refine o_iload dX5_fire_52 rfl ?_
            refine o_iconst dX5_fire_54 ic_0 ?_
            refine o_iconst dX5_fire_55 ic_1 ?_
            refine o_callSr (is := []) (tX5_isIn) ⟨rfl, rfl⟩ dX5_fire_56 wd760 csX5_isIn rfl ⟨(Nat.le_of_ble_eq_true rfl), (Nat.le_of_ble_eq_true rfl)⟩ rfl rfl rfl (Nat.le_of_ble_eq_true rfl) (Nat.le_of_ble_eq_true rfl) (Nat.le_of_ble_eq_true rfl) ?_
            refine o_if_ne (tgt := 69) dX5_fire_59 (by decide) (fun c_59 => ?_) (fun c_59 => ?_)
            · have hww : inR 2 w = true := by rw [← isInB_eq 1 (by omega)]; exact bI_ne c_59
              obtain ⟨e, he, rfl⟩ := rng (b := 7) (by omega) c_16 c_35
              obtain ⟨T, hT1, hT2, rfl⟩ := rng1 (b := 20) (by omega) (fun h => absurd (Int32.lt_iff_toInt_lt.mpr (Int.lt_trans (Int32.lt_iff_toInt_lt.mp h) (by decide))) (Int32.not_lt.mpr c_22)) (Int32.not_lt.mpr c_42)
              have hT3 : 2 ≤ T := Nat.not_lt.mp (fun h => absurd c_22 (nI_ge (b := 2) h (by omega)))
              have ee := cN_nI (d := e) (by omega)
              refine o_lconst dX5_fire_69 lc_0 ?_
              refine o_lstg_6 dX5_fire_70 rfl (Nat.le_of_ble_eq_true rfl) ?_
              refine o_lconst dX5_fire_72 lc_1 ?_
              refine o_lstg_8 dX5_fire_73 rfl (Nat.le_of_ble_eq_true rfl) ?_
              refine o_iconst dX5_fire_75 ic_0 ?_
              refine o_istg_10 dX5_fire_76 rfl (Nat.le_of_ble_eq_true rfl) ?_
              refine o_eqa (by rw [nI_0]; rfl) rfl (lX5_fire1 (d := d) (n := e) (T := T) (x := x) (w := w) hS he (fun i10 => ?_) (e + 1) 0 (by omega) (by omega))
              refine o_iconst dX5_fire_98 ic_0 ?_
              refine o_istg_10 dX5_fire_99 rfl (Nat.le_of_ble_eq_true rfl) ?_
              exact o_post (fun a w2 h => by obtain ⟨rfl, m2, fr2, rfl⟩ := h; exact MP.mk (σ := (r, im, hi, lt, L, rw, R, rf)) (by simp only [s_fire, hyes, if_true, if_neg q1, if_neg q2, hww, ee, ec])) (o_eqa (by rw [nI_0]; rfl) rfl (lX5_fire2 (d := d) (n := e) (T := T) (x := x) (w := w) hS hd he hT3 hT2 (2 ^ e + 1) 0 m fr _ _ _ (Nat.lt_succ_of_le (Nat.sub_le _ _)) (Nat.zero_le _)))
            · have hww : inR 2 w = false := by rw [← isInB_eq 1 (by omega)]; exact bI_0.mp c_59
              refine o_aload_n dX5_fire_62 rfl rfl ?_
              refine o_bipush dX5_fire_63 bp_m2 ?_
              refine o_callVd (is := [0, 1, 2, 3, 4, 5, 6, 7, 8, 9]) (tX5_noWide (c := 2) rfl (by decide)) ⟨rfl, rfl⟩ dX5_fire_65 wd1005 cvX5_noWide rfl ⟨(Nat.le_of_ble_eq_true rfl), (Nat.le_of_ble_eq_true rfl)⟩ hcX5 rfl rfl rfl rfl (Nat.le_of_ble_eq_true rfl) (Nat.le_of_ble_eq_true rfl) (Nat.le_of_ble_eq_true rfl) rfl ?_
              refine o_lret dX5_fire_68 rfl (Nat.le_of_ble_eq_true rfl) (Nat.le_of_ble_eq_true rfl) ?_
              exact MP.mk (σ := (r, im, hi, lt, L, rw, R, rfu rf 2)) (by simp only [s_fire, hyes, if_true, if_neg q1, if_neg q2, hww]; rfl)
          · have q2 : 7 < n ∨ 20 < t := Or.inr (Int32.not_le.mp c_42)
            refine o_aload_n dX5_fire_45 rfl rfl ?_
            refine o_bipush dX5_fire_46 bp_m6 ?_
            refine o_callVd (is := [0, 1, 2, 3, 4, 5, 6, 7, 8, 9]) (tX5_noWide (c := 6) rfl (by decide)) ⟨rfl, rfl⟩ dX5_fire_48 wd1005 cvX5_noWide rfl ⟨(Nat.le_of_ble_eq_true rfl), (Nat.le_of_ble_eq_true rfl)⟩ hcX5 rfl rfl rfl rfl (Nat.le_of_ble_eq_true rfl) (Nat.le_of_ble_eq_true rfl) (Nat.le_of_ble_eq_true rfl) rfl ?_
            refine o_lret dX5_fire_51 rfl (Nat.le_of_ble_eq_true rfl) (Nat.le_of_ble_eq_true rfl) ?_
            exact MP.mk (σ := (r, im, hi, lt, L, rw, R, rfu rf 6)) (by simp only [s_fire, hyes, if_true, if_neg q1, if_pos q2]; rfl)
      · have q1 : n < 0 ∨ t < 2 := Or.inr (Int32.not_le.mp c_22)
        refine o_aload_n dX5_fire_25 rfl rfl ?_
        refine o_bipush dX5_fire_26 bp_m4 ?_
        refine o_callVd (is := [0, 1, 2, 3, 4, 5, 6, 7, 8, 9]) (tX5_noWide (c := 4) rfl (by decide)) ⟨rfl, rfl⟩ dX5_fire_28 wd1005 cvX5_noWide rfl ⟨(Nat.le_of_ble_eq_true rfl), (Nat.le_of_ble_eq_true rfl)⟩ hcX5 rfl rfl rfl rfl (Nat.le_of_ble_eq_true rfl) (Nat.le_of_ble_eq_true rfl) (Nat.le_of_ble_eq_true rfl) rfl ?_
        refine o_lret dX5_fire_31 rfl (Nat.le_of_ble_eq_true rfl) (Nat.le_of_ble_eq_true rfl) ?_
        exact MP.mk (σ := (r, im, hi, lt, L, rw, R, rfu rf 4)) (by simp only [s_fire, hyes, if_true, if_pos q1]; rfl)
  · have hno := bI_nt c_6
    refine o_aload_n dX5_fire_9 rfl rfl ?_
    refine o_iconst dX5_fire_10 ic_m1 ?_
    refine o_callVd (is := [0, 1, 2, 3, 4, 5, 6, 7, 8, 9]) (tX5_noWide (c := 1) rfl (by decide)) ⟨rfl, rfl⟩ dX5_fire_11 wd1005 cvX5_noWide rfl ⟨(Nat.le_of_ble_eq_true rfl), (Nat.le_of_ble_eq_true rfl)⟩ hcX5 rfl rfl rfl rfl (Nat.le_of_ble_eq_true rfl) (Nat.le_of_ble_eq_true rfl) (Nat.le_of_ble_eq_true rfl) rfl ?_
    refine o_lret dX5_fire_14 rfl (Nat.le_of_ble_eq_true rfl) (Nat.le_of_ble_eq_true rfl) ?_
    exact MP.mk (σ := (r, im, hi, lt, L, rw, R, rfu rf 1)) (by simp only [s_fire, hno]; rfl)
