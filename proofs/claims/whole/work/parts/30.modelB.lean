def lpR (r : Nat → Int32) (z : Int32) : Nat → (Nat → Int32) × Int32
  | 0 => (r, z)
  | k + 1 => (upd (upd (lpR r z k).1 (50 + 3 * k) (drawF (seedF (lpR r z k).2))) (51 + 3 * k) (drawF (seedF (seedF (lpR r z k).2))), seedF (seedF (lpR r z k).2))
def ltV (r : Nat → Int32) (w z : Int32) : Nat → Int32 × Int32
  | 0 => (0, z)
  | k + 1 => ((ltV r w z k).1 + (if w = 0 then bitsM (homeM (hrs (lpR r (ltV r w z k).2 (nN r)).1 8) (nN r)) 9 else hrs (lpR r (ltV r w z k).2 (nN r)).1 8 3 - r 3), (lpR r (ltV r w z k).2 (nN r)).2)
def s_lots (n z w : Int32) (σ : St) : Res := if n < 1 then noR σ 4 else if 20 < n then noR σ 6 else if inR 2 w then (some (.int (ltV σ.1 w z (cN n)).1), σ) else noR σ 2
theorem draw_R (x : Int32) : RmI (drawF x) := by
  obtain ⟨j, hj, e⟩ := pk_andE x (m := 2147483647) 31 (by decide)
  unfold drawF
  rw [e, show (256 : Int32) = nI 256 from rfl, pk_div (by omega) (by omega) (by omega), show (8 : Int32) = nI 8 from rfl, pk_rem (by omega) (by omega) (by omega)]
  exact ⟨_, Nat.mod_lt _ (by omega), rfl⟩
theorem MOk.lp {r : Nat → Int32} {D N h : Nat} {z : Int32} (hM : MOk r D N h) : ∀ k, k ≤ N → MOk (lpR r z k).1 D N h
  | 0, _ => hM
  | k + 1, hk => ((MOk.lp (z := z) hM k (by omega)).room (by omega) (draw_R _)).goal (by omega) (draw_R _)
def wgR (r : Nat → Int32) (m : Nat → Int32) (fire : Bool) : Nat → (Nat → Int32)
  | 0 => m
  | d + 1 => upd (wgR r m fire d) (9 + 5 * d) (if fire then 1 else r (9 + 5 * d))
theorem MOk.wg {r m : Nat → Int32} {D N h : Nat} {fire : Bool} (hM : MOk m D N h) : ∀ k, k ≤ D → MOk (wgR r m fire k) D N h
  | 0, _ => hM
  | k + 1, hk => (MOk.wg (r := r) (fire := fire) hM k (by omega)).wedge (by have := hM.1.2.1; omega)
def fiR (r : Nat → Int32) (set : Int32) : Nat → (Nat → Int32)
  | 0 => r
  | k + 1 => hourM (farOf r) (dN r) (nN r) (wgR r (fiR r set k) (hasB set (nI k)) (dN r))
theorem fiR_ok {r : Nat → Int32} {set : Int32} (hM : MS r) : ∀ k, MOk (fiR r set k) (dN r) (nN r) (cN (r 2) + k)
  | 0 => hM
  | k + 1 => ((fiR_ok (set := set) hM k).wg (r := r) (fire := hasB set (nI k)) (dN r) (Nat.le_refl _)).hour.hstep (nN r) (Nat.le_refl _)
def fiW (t : Int32) (set : Int32) : Nat → Int64
  | 0 => 1
  | k + 1 => fiW t set k * (if hasB set (nI k) then 1 else (t - 1).toInt64)
def faS (r : Nat → Int32) (p : Nat) (x t : Int32) (n : Nat) : Nat → Int64
  | 0 => 0
  | s + 1 => faS r p x t n s + (if fiR r (nI s) n (50 + 3 * p) = x then fiW t (nI s) n else 0)
def s_fire (p x n t w : Int32) (σ : St) : Res := if inR (nN σ.1) p && inR 8 x then (if n < 0 ∨ t < 2 then noL σ 4 else if 7 < n ∨ 20 < t then noL σ 6 else if inR 2 w then (some (.long (partM (faS σ.1 (cN p) x t (cN n) (2 ^ cN n)) (powL t.toInt64 (cN n)) w)), σ) else noL σ 2) else noL σ 1
def wiR (r : Nat → Int32) (i k : Nat) : Nat → (Nat → Int32)
  | 0 => upd r i (nI k)
  | j + 1 => hourM (farOf r) (dN r) (nN r) (wiR r i k j)
def wiB (r rw : Nat → Int32) (p i k : Nat) : Nat → Bool
  | 0 => true
  | j + 1 => wiB r rw p i k j && decide (wiR r i k j (50 + 3 * p) = rw j)
def wiS (r rw : Nat → Int32) (p i R : Nat) : Nat → Int32
  | 0 => 0
  | k + 1 => wiS r rw p i R k ||| (if wiB r rw p i k R then 1 <<< (nI k &&& 31) else 0)
def s_whatIs (p d w : Int32) (σ : St) : Res := match σ with
  | (r, im, hi, lt, L, rw, R, rf) => if inR (nN r) p && inR (dN r) d then (if inR 2 w then (some (.int (if w = 0 then wiS r rw (cN p) (5 + 5 * cN d) R 6 else wiS r rw (cN p) (51 + 3 * cN p) R 8)), σ) else noR σ 2) else noR σ 1
theorem tX5_drawn {r m im wa fr lt rw rf nu : Nat → Int32} {hi pl sd : Int32} {L R : Nat} : PD mX5_drawn [.ref 0, .int 8] (mW r m im wa fr hi lt rw rf (nI L) (nI R) pl nu sd) (some (.int (drawF (seedF sd)))) (mW r m im wa fr hi lt rw rf (nI L) (nI R) pl nu (seedF sd)) := by
  refine PM.ofp 0 (by decide) (Nat.le_of_ble_eq_true rfl) ?_
  show Ok mX5_drawn none 0 [some (.ref 0), some (.int 8)] [] (mW r m im wa fr hi lt rw rf (nI L) (nI R) pl nu sd) 0 0 _
  refine o_aload_n dX5_drawn_0 rfl rfl ?_
  refine o_aload_n dX5_drawn_1 rfl rfl ?_
  refine o_getf (j := 13) dX5_drawn_2 rfl hcX5 inX5 (Nat.le_of_ble_eq_true rfl) wd699 rfl rfl ?_
  refine o_ldc dX5_drawn_5 wd1052 ?_
  refine o_imul dX5_drawn_7 ?_
  refine o_ldc dX5_drawn_8 wd1053 ?_
  refine o_iadd dX5_drawn_10 ?_
  refine o_putf (j := 13) tyX5 dX5_drawn_11 rfl hcX5 inX5 tyX5_ok nmX5 (Nat.le_of_ble_eq_true rfl) wd699 rfl rfl (fun _ => vp_nar_int _) (fun _ => rfl) (Nat.le_of_ble_eq_true rfl) rfl ?_
  refine o_aload_n dX5_drawn_14 rfl rfl ?_
  refine o_getf (j := 13) dX5_drawn_15 rfl hcX5 inX5 (Nat.le_of_ble_eq_true rfl) wd699 rfl rfl ?_
  refine o_ldc dX5_drawn_18 wd1054 ?_
  refine o_iand dX5_drawn_20 ?_
  refine o_sipush dX5_drawn_21 sp_256 ?_
  refine o_idiv dX5_drawn_24 (by decide) ?_
  refine o_iload_n dX5_drawn_25 rfl rfl ?_
  refine o_irem dX5_drawn_26 (by decide) ?_
  refine o_iret dX5_drawn_27 rfl (vp_nar_int _) (Nat.le_of_ble_eq_true rfl) (Nat.le_of_ble_eq_true rfl) ?_
  exact ⟨rfl, rfl⟩
theorem lX5_lots2 {r im wa fr lt rw rf nu : Nat → Int32} {hi pl : Int32} {L R : Nat} (hS : SOk r) {n : Nat} {z w v sd : Int32} {k : Nat} {P : Option Value → PW → Prop} (hP : ∀ i6, Ok mX5_lots none 123 [some (.ref 0), some (.int (nI n)), some (.int z), some (.int w), some (.int v), some (.int (nI k)), some (.int i6)] [] (mW r ((lpR r sd (nN r)).1) im wa fr hi lt rw rf (nI L) (nI R) pl nu ((lpR r sd (nN r)).2)) 0 0 P) : ∀ (q j : Nat), nN r - j < q → j ≤ nN r → Ok mX5_lots none 72 [some (.ref 0), some (.int (nI n)), some (.int z), some (.int w), some (.int v), some (.int (nI k)), some (.int (nI j))] [] (mW r ((lpR r sd j).1) im wa fr hi lt rw rf (nI L) (nI R) pl nu ((lpR r sd j).2)) 0 0 (P) := by
  have h6 := hS.n6
  intro q
  induction q with
  | zero => intro j hq hj; omega
  | succ q ih =>
  intro j hq hj
  refine o_iload dX5_lots_72 rfl ?_
  refine o_aload_n dX5_lots_74 rfl rfl ?_
  refine o_getf (j := 0) dX5_lots_75 rfl hcX5 inX5 (Nat.le_of_ble_eq_true rfl) wd686 rfl rfl ?_
  refine o_iconst dX5_lots_78 ic_1 ?_
  refine o_ialp (i := 1) dX5_lots_79 rfl (rfl) (by decide) ?_
  refine o_icmp_ge (tgt := 123) dX5_lots_80 (by decide) (fun c_80 => ?_) (fun c_80 => ?_)
  · rw [hS.e1] at c_80
    have hjN : j = nN r := Nat.le_antisymm hj (geI (by omega) (by omega) c_80)
    exact o_eqa rfl (by rw [hjN]) (hP _)
  · rw [hS.e1] at c_80
    have hjN : j < nN r := ltI (by omega) (by omega) c_80
    refine o_aload_n dX5_lots_83 rfl rfl ?_
    refine o_getf (j := 1) dX5_lots_84 rfl hcX5 inX5 (Nat.le_of_ble_eq_true rfl) wd687 rfl rfl ?_
    refine o_iload dX5_lots_87 rfl ?_
    refine o_iconst dX5_lots_89 ic_0 ?_
    refine o_callSr (is := []) (ofP0) ⟨rfl, rfl⟩ dX5_lots_90 wd783 csX5_ofP rfl ⟨(Nat.le_of_ble_eq_true rfl), (Nat.le_of_ble_eq_true rfl)⟩ rfl rfl rfl (Nat.le_of_ble_eq_true rfl) (Nat.le_of_ble_eq_true rfl) (Nat.le_of_ble_eq_true rfl) ?_
    refine o_aload_n dX5_lots_93 rfl rfl ?_
    refine o_bipush dX5_lots_94 bp_8 ?_
    refine o_callVd (w2 := mW r ((lpR r sd j).1) im wa fr hi lt rw rf (nI L) (nI R) pl nu (seedF (lpR r sd j).2)) (is := [0, 1, 2, 3, 4, 5, 6, 7, 8, 9]) (tX5_drawn) ⟨rfl, rfl⟩ dX5_lots_96 wd1048 cvX5_drawn rfl ⟨(Nat.le_of_ble_eq_true rfl), (Nat.le_of_ble_eq_true rfl)⟩ hcX5 rfl rfl rfl rfl (Nat.le_of_ble_eq_true rfl) (Nat.le_of_ble_eq_true rfl) (Nat.le_of_ble_eq_true rfl) rfl ?_
    refine o_iasp (i := 50 + 3 * j) dX5_lots_99 rfl (rfl) (by omega) rfl ?_
    refine o_aload_n dX5_lots_100 rfl rfl ?_
    refine o_getf (j := 1) dX5_lots_101 rfl hcX5 inX5 (Nat.le_of_ble_eq_true rfl) wd687 rfl rfl ?_
    refine o_iload dX5_lots_104 rfl ?_
    refine o_iconst dX5_lots_106 ic_1 ?_
    refine o_callSr (is := []) (ofP1) ⟨rfl, rfl⟩ dX5_lots_107 wd783 csX5_ofP rfl ⟨(Nat.le_of_ble_eq_true rfl), (Nat.le_of_ble_eq_true rfl)⟩ rfl rfl rfl (Nat.le_of_ble_eq_true rfl) (Nat.le_of_ble_eq_true rfl) (Nat.le_of_ble_eq_true rfl) ?_
    refine o_aload_n dX5_lots_110 rfl rfl ?_
    refine o_bipush dX5_lots_111 bp_8 ?_
    refine o_callVd (w2 := mW r (upd (lpR r sd j).1 (50 + 3 * j) (drawF (seedF (lpR r sd j).2))) im wa fr hi lt rw rf (nI L) (nI R) pl nu (seedF (seedF (lpR r sd j).2))) (is := [0, 1, 2, 3, 4, 5, 6, 7, 8, 9]) (tX5_drawn) ⟨rfl, rfl⟩ dX5_lots_113 wd1048 cvX5_drawn rfl ⟨(Nat.le_of_ble_eq_true rfl), (Nat.le_of_ble_eq_true rfl)⟩ hcX5 rfl rfl rfl rfl (Nat.le_of_ble_eq_true rfl) (Nat.le_of_ble_eq_true rfl) (Nat.le_of_ble_eq_true rfl) rfl ?_
    refine o_iasp (i := 51 + 3 * j) dX5_lots_116 rfl (rfl) (by omega) rfl ?_
    refine o_inc_6 dX5_lots_117 rfl ic_1 (Nat.le_of_ble_eq_true rfl) ?_
    refine o_goto (tgt := 72) dX5_lots_120 (by decide) ?_
    exact o_eqa (by rw [nI_1]) (by rw [lpR]; rfl) (ih (j + 1) (by omega) (by omega))
theorem lX5_lots1 {r im wa lt rw rf nu : Nat → Int32} {hi pl : Int32} {L R : Nat} (hS : SOk r) {n : Nat} {z w : Int32} (hn : n ≤ 20) : ∀ (q k : Nat) (m fr : Nat → Int32) (x6 : Option Value), n - k < q → k ≤ n → Ok mX5_lots none 52 [some (.ref 0), some (.int (nI n)), some (.int z), some (.int w), some (.int (ltV r w z k).1), some (.int (nI k)), x6] [] (mW r m im wa fr hi lt rw rf (nI L) (nI R) pl nu ((ltV r w z k).2)) 0 0 (fun a w2 => a = some (.int (ltV r w z n).1) ∧ ∃ m2 fr2 sd2, w2 = mW r m2 im wa fr2 hi lt rw rf (nI L) (nI R) pl nu sd2) := by
  intro q
  induction q with
  | zero => intro k m fr x6 hq hk; omega
  | succ q ih =>
  intro k m fr x6 hq hk
  have h6 := hS.n6
  have h9 := hS.d9
  have h99 := hS.h9
  refine o_iload dX5_lots_52 rfl ?_
  refine o_iload_n dX5_lots_54 rfl rfl ?_
  refine o_icmp_ge (tgt := 174) dX5_lots_55 (by decide) (fun c_55 => ?_) (fun c_55 => ?_)
  · have hkN : k = n := Nat.le_antisymm hk (geI (by omega) (by omega) c_55)
    subst hkN
    refine o_iload dX5_lots_174 rfl ?_
    refine o_iret dX5_lots_176 rfl (vp_nar_int _) (Nat.le_of_ble_eq_true rfl) (Nat.le_of_ble_eq_true rfl) ?_
    exact ⟨rfl, _, _, _, rfl⟩
  · have hkN : k < n := ltI (by omega) (by omega) c_55
    refine o_aload_n dX5_lots_58 rfl rfl ?_
    refine o_getf (j := 0) dX5_lots_59 rfl hcX5 inX5 (Nat.le_of_ble_eq_true rfl) wd686 rfl rfl ?_
    refine o_aload_n dX5_lots_62 rfl rfl ?_
    refine o_getf (j := 1) dX5_lots_63 rfl hcX5 inX5 (Nat.le_of_ble_eq_true rfl) wd687 rfl rfl ?_
    refine o_callSd (w2 := mW r r im wa fr hi lt rw rf (nI L) (nI R) pl nu ((ltV r w z k).2)) (is := [1, 2]) (tX5_copies) ⟨rfl, rfl⟩ dX5_lots_66 wd763 csX5_copies rfl ⟨(Nat.le_of_ble_eq_true rfl), (Nat.le_of_ble_eq_true rfl)⟩ rfl rfl rfl (Nat.le_of_ble_eq_true rfl) (Nat.le_of_ble_eq_true rfl) (Nat.le_of_ble_eq_true rfl) rfl ?_
    refine o_iconst dX5_lots_69 ic_0 ?_
    refine o_istg_6 dX5_lots_70 rfl (Nat.le_of_ble_eq_true rfl) ?_
    refine o_eqa (by rw [nI_0]) rfl (lX5_lots2 (n := n) (z := z) (w := w) (v := (ltV r w z k).1) (k := k) (sd := (ltV r w z k).2) hS (fun i6 => ?_) (nN r + 1) 0 (by omega) (by omega))
    obtain ⟨hm, em1, em2, em3⟩ := (MOk.lp (z := (ltV r w z k).2) hS.M (nN r) (Nat.le_refl _)).self (by omega)
    have h7 := MS.n hm 8
    rw [em2] at h7
    refine o_aload_n dX5_lots_123 rfl rfl ?_
    refine o_aload_n dX5_lots_124 rfl rfl ?_
    refine o_getf (j := 1) dX5_lots_125 rfl hcX5 inX5 (Nat.le_of_ble_eq_true rfl) wd687 rfl rfl ?_
    refine o_bipush dX5_lots_128 bp_8 ?_
    refine o_callVd (w2 := mW r (hrs (lpR r (ltV r w z k).2 (nN r)).1 8) im wa (nF (farOf (lpR r (ltV r w z k).2 (nN r)).1)) hi lt rw rf (nI L) (nI R) pl nu ((lpR r (ltV r w z k).2 (nN r)).2)) (is := [0, 1, 2, 3, 4, 5, 6, 7, 8, 9]) (ho_m (n := 8) hm (by omega)) ⟨rfl, rfl⟩ dX5_lots_130 wd797 cvX5_hoursOn rfl ⟨(Nat.le_of_ble_eq_true rfl), (Nat.le_of_ble_eq_true rfl)⟩ hcX5 rfl rfl rfl rfl (Nat.le_of_ble_eq_true rfl) (Nat.le_of_ble_eq_true rfl) (Nat.le_of_ble_eq_true rfl) rfl ?_
    refine o_iload dX5_lots_133 rfl ?_
    refine o_iload_n dX5_lots_135 rfl rfl ?_
    refine o_if_ne (tgt := 152) dX5_lots_136 (by decide) (fun c_136 => ?_) (fun c_136 => ?_)
    · skip
      refine o_aload_n dX5_lots_152 rfl rfl ?_
      refine o_getf (j := 1) dX5_lots_153 rfl hcX5 inX5 (Nat.le_of_ble_eq_true rfl) wd687 rfl rfl ?_
      refine o_iconst dX5_lots_156 ic_3 ?_
      refine o_ialp (i := 3) dX5_lots_157 rfl (rfl) (by decide) ?_
      refine o_aload_n dX5_lots_158 rfl rfl ?_
      refine o_getf (j := 0) dX5_lots_159 rfl hcX5 inX5 (Nat.le_of_ble_eq_true rfl) wd686 rfl rfl ?_
      refine o_iconst dX5_lots_162 ic_3 ?_
      refine o_ialp (i := 3) dX5_lots_163 rfl (rfl) (by decide) ?_
      refine o_isub dX5_lots_164 ?_
      refine o_iadd dX5_lots_165 ?_
      refine o_istg_4 dX5_lots_166 rfl (Nat.le_of_ble_eq_true rfl) ?_
      refine o_inc_5 dX5_lots_168 rfl ic_1 (Nat.le_of_ble_eq_true rfl) ?_
      refine o_goto (tgt := 52) dX5_lots_171 (by decide) ?_
      exact o_eqa (by rw [nI_1, ltV, if_neg c_136]) (by rw [ltV]) (ih (k + 1) _ _ _ (by omega) (by omega))
    · skip
      refine o_aload_n dX5_lots_139 rfl rfl ?_
      refine o_getf (j := 1) dX5_lots_140 rfl hcX5 inX5 (Nat.le_of_ble_eq_true rfl) wd687 rfl rfl ?_
      refine o_callSr (is := [2]) (tX5_homeIn (by omega) h7) ⟨rfl, rfl⟩ dX5_lots_143 wd883 csX5_homeIn rfl ⟨(Nat.le_of_ble_eq_true rfl), (Nat.le_of_ble_eq_true rfl)⟩ rfl rfl rfl (Nat.le_of_ble_eq_true rfl) (Nat.le_of_ble_eq_true rfl) (Nat.le_of_ble_eq_true rfl) ?_
      refine o_callSr (is := []) (tX5_bits) ⟨rfl, rfl⟩ dX5_lots_146 wd886 csX5_bits rfl ⟨(Nat.le_of_ble_eq_true rfl), (Nat.le_of_ble_eq_true rfl)⟩ rfl rfl rfl (Nat.le_of_ble_eq_true rfl) (Nat.le_of_ble_eq_true rfl) (Nat.le_of_ble_eq_true rfl) ?_
      refine o_goto (tgt := 165) dX5_lots_149 (by decide) ?_
      refine o_iadd dX5_lots_165 ?_
      refine o_istg_4 dX5_lots_166 rfl (Nat.le_of_ble_eq_true rfl) ?_
      refine o_inc_5 dX5_lots_168 rfl ic_1 (Nat.le_of_ble_eq_true rfl) ?_
      refine o_goto (tgt := 52) dX5_lots_171 (by decide) ?_
      exact o_eqa (by rw [nI_1, ltV, if_pos c_136]) (by rw [ltV]) (ih (k + 1) _ _ _ (by omega) (by omega))
theorem tX5_lots {r m im wa fr lt rw rf nu : Nat → Int32} {hi pl sd : Int32} {L R : Nat} (hS : SOk r) {x z w : Int32} : PM mX5_lots [.ref 0, .int x, .int z, .int w] (mW r m im wa fr hi lt rw rf (nI L) (nI R) pl nu sd) (MP (s_lots x z w (r, im, hi, lt, L, rw, R, rf))) := by
  refine PM.ofp 3 (by decide) (Nat.le_of_ble_eq_true rfl) ?_
  show Ok mX5_lots none 0 [some (.ref 0), some (.int x), some (.int z), some (.int w), none, none, none] [] (mW r m im wa fr hi lt rw rf (nI L) (nI R) pl nu sd) 0 0 _
  refine o_iload_n dX5_lots_0 rfl rfl ?_
  refine o_iconst dX5_lots_1 ic_1 ?_
  refine o_icmp_ge (tgt := 12) dX5_lots_2 (by decide) (fun c_2 => ?_) (fun c_2 => ?_)
  · have q1 : ¬ x < 1 := Int32.not_lt.mpr c_2
    refine o_iload_n dX5_lots_12 rfl rfl ?_
    refine o_bipush dX5_lots_13 bp_20 ?_
    refine o_icmp_le (tgt := 25) dX5_lots_15 (by decide) (fun c_15 => ?_) (fun c_15 => ?_)
    · have q2 : ¬ 20 < x := Int32.not_lt.mpr c_15
      obtain ⟨q, hq1, hq, rfl⟩ := rng1 (b := 20) (by omega) q1 q2
      have eq := cN_nI (d := q) (by omega)
      refine o_iload_n dX5_lots_25 rfl rfl ?_
      refine o_iconst dX5_lots_26 ic_0 ?_
      refine o_iconst dX5_lots_27 ic_1 ?_
      refine o_callSr (is := []) (tX5_isIn) ⟨rfl, rfl⟩ dX5_lots_28 wd760 csX5_isIn rfl ⟨(Nat.le_of_ble_eq_true rfl), (Nat.le_of_ble_eq_true rfl)⟩ rfl rfl rfl (Nat.le_of_ble_eq_true rfl) (Nat.le_of_ble_eq_true rfl) (Nat.le_of_ble_eq_true rfl) ?_
      refine o_if_ne (tgt := 41) dX5_lots_31 (by decide) (fun c_31 => ?_) (fun c_31 => ?_)
      · have hww : inR 2 w = true := by rw [← isInB_eq 1 (by omega)]; exact bI_ne c_31
        refine o_aload_n dX5_lots_41 rfl rfl ?_
        refine o_iload_n dX5_lots_42 rfl rfl ?_
        refine o_putf (j := 13) tyX5 dX5_lots_43 rfl hcX5 inX5 tyX5_ok nmX5 (Nat.le_of_ble_eq_true rfl) wd699 rfl rfl (fun _ => vp_nar_int _) (fun _ => rfl) (Nat.le_of_ble_eq_true rfl) rfl ?_
        refine o_iconst dX5_lots_46 ic_0 ?_
        refine o_istg_4 dX5_lots_47 rfl (Nat.le_of_ble_eq_true rfl) ?_
        refine o_iconst dX5_lots_49 ic_0 ?_
        refine o_istg_5 dX5_lots_50 rfl (Nat.le_of_ble_eq_true rfl) ?_
        exact o_post (fun a w2 h => by obtain ⟨rfl, m2, fr2, sd2, rfl⟩ := h; exact MP.mk (σ := (r, im, hi, lt, L, rw, R, rf)) (by simp only [s_lots, if_neg q1, if_neg q2, hww, if_true, eq])) (o_eqa (by rw [nI_0]; rfl) rfl (lX5_lots1 (z := z) (w := w) (n := q) hS hq (q + 1) 0 m fr _ (by omega) (by omega)))
      · have hww : inR 2 w = false := by rw [← isInB_eq 1 (by omega)]; exact bI_0.mp c_31
        refine o_aload_n dX5_lots_34 rfl rfl ?_
        refine o_bipush dX5_lots_35 bp_m2 ?_
        refine o_callVd (is := [0, 1, 2, 3, 4, 5, 6, 7, 8, 9]) (tX5_no (c := 2) rfl (by decide)) ⟨rfl, rfl⟩ dX5_lots_37 wd733 cvX5_no rfl ⟨(Nat.le_of_ble_eq_true rfl), (Nat.le_of_ble_eq_true rfl)⟩ hcX5 rfl rfl rfl rfl (Nat.le_of_ble_eq_true rfl) (Nat.le_of_ble_eq_true rfl) (Nat.le_of_ble_eq_true rfl) rfl ?_
        refine o_iret dX5_lots_40 rfl (vp_nar_int _) (Nat.le_of_ble_eq_true rfl) (Nat.le_of_ble_eq_true rfl) ?_
        exact MP.mk (σ := (r, im, hi, lt, L, rw, R, rfu rf 2)) (by simp only [s_lots, if_neg q1, if_neg q2, hww]; rfl)
    · have q2 : 20 < x := Int32.not_le.mp c_15
      refine o_aload_n dX5_lots_18 rfl rfl ?_
      refine o_bipush dX5_lots_19 bp_m6 ?_
      refine o_callVd (is := [0, 1, 2, 3, 4, 5, 6, 7, 8, 9]) (tX5_no (c := 6) rfl (by decide)) ⟨rfl, rfl⟩ dX5_lots_21 wd733 cvX5_no rfl ⟨(Nat.le_of_ble_eq_true rfl), (Nat.le_of_ble_eq_true rfl)⟩ hcX5 rfl rfl rfl rfl (Nat.le_of_ble_eq_true rfl) (Nat.le_of_ble_eq_true rfl) (Nat.le_of_ble_eq_true rfl) rfl ?_
      refine o_iret dX5_lots_24 rfl (vp_nar_int _) (Nat.le_of_ble_eq_true rfl) (Nat.le_of_ble_eq_true rfl) ?_
      exact MP.mk (σ := (r, im, hi, lt, L, rw, R, rfu rf 6)) (by simp only [s_lots, if_neg q1, if_pos q2]; rfl)
  · have q1 : x < 1 := Int32.not_le.mp c_2
    refine o_aload_n dX5_lots_5 rfl rfl ?_
    refine o_bipush dX5_lots_6 bp_m4 ?_
    refine o_callVd (is := [0, 1, 2, 3, 4, 5, 6, 7, 8, 9]) (tX5_no (c := 4) rfl (by decide)) ⟨rfl, rfl⟩ dX5_lots_8 wd733 cvX5_no rfl ⟨(Nat.le_of_ble_eq_true rfl), (Nat.le_of_ble_eq_true rfl)⟩ hcX5 rfl rfl rfl rfl (Nat.le_of_ble_eq_true rfl) (Nat.le_of_ble_eq_true rfl) (Nat.le_of_ble_eq_true rfl) rfl ?_
    refine o_iret dX5_lots_11 rfl (vp_nar_int _) (Nat.le_of_ble_eq_true rfl) (Nat.le_of_ble_eq_true rfl) ?_
    exact MP.mk (σ := (r, im, hi, lt, L, rw, R, rfu rf 4)) (by simp only [s_lots, if_pos q1]; rfl)
