theorem RmI.nI {a : Nat} (h : a < 8) : RmI (nI a) := ⟨a, h, rfl⟩
theorem xwayN {r fs : Nat → Int32} {a b : Nat} (ha : a < 8) (hb : b < 8) : PD mX0_wayBetween [.ref 0, .int (nI a), .int (nI b)] (dW r (wsO r) fs) (some (.int (nI (wyT (fA r) (fB r) (dN r) (a * 8 + b))))) (dW r (wsO r) fs) := tX0_wayBetween ha hb
theorem told_eq {r : Nat → Int32} (hS : SOk r) {a b : Nat} (ha : a < 8) (hb : b < 8) : toldW (nI (wyT (fA r) (fB r) (dN r) (a * 8 + b))) = if 99 ≤ farOf r (8 * a + b) then -9 else nI (farOf r (8 * a + b)) := by
  unfold toldW
  rcases wy_c hS ha hb with ⟨q1, q2⟩ | ⟨q1, q2⟩
  · rw [q2, if_neg (show ¬ 99 ≤ farOf r (8 * a + b) by omega), if_pos (show nI (farOf r (8 * a + b)) < 1000 from (nI_ltI (b := 1000) (by omega) (by omega)).mpr (by omega))]
  · rw [q2, if_pos (show 99 ≤ farOf r (8 * a + b) by omega)]; decide
theorem on_far {r : Nat → Int32} {g : Nat → Nat} {D a b : Nat} (h : 99 ≤ g (8 * a + b)) : dfS (fun d => onM r g d a b) D 0 = -9 := dfS_none D 0 (fun j _ _ => by
  show onM r g j a b = false
  unfold onM
  rw [decide_eq_false (show ¬ g (8 * a + b) < 99 by omega), Bool.and_false, Bool.false_and])
def rcN (r : Nat → Int32) (a : Nat) : Nat → Nat
  | 0 => 1000
  | k + 1 => if r (7 + 5 * k) = nI a then min (rcN r a k) (1 + wyT (fA r) (fB r) (dN r) (fB r k * 8 + a)) else rcN r a k
theorem rcN_le {r : Nat → Int32} {a : Nat} : ∀ k, rcN r a k ≤ 1000
  | 0 => Nat.le_refl _
  | k + 1 => by
    rw [rcN]
    split
    · exact Nat.le_trans (Nat.min_le_left _ _) (rcN_le k)
    · exact rcN_le k
theorem rc_rn {r : Nat → Int32} (hS : SOk r) {a : Nat} (ha : a < 8) : ∀ k, k ≤ dN r → (rnN r (farOf r) a k ≤ 8 ∧ rcN r a k = rnN r (farOf r) a k) ∨ (rnN r (farOf r) a k = 99 ∧ rcN r a k = 1000)
  | 0, _ => Or.inr ⟨rfl, rfl⟩
  | k + 1, hk => by
    have ih := rc_rn hS ha k (by omega)
    have hb := (hS.R.h9 k (by omega)).2.1
    have hw := wy_c hS hb ha
    rw [rnN, rcN]
    split
    · rcases ih with ⟨h1, h2⟩ | ⟨h1, h2⟩ <;> rcases hw with ⟨h3, h4⟩ | ⟨h3, h4⟩ <;> rw [h2, h4] <;> omega
    · exact ih
theorem min_nI {a b : Nat} (ha : a < 2147483648) (hb : b < 2147483648) : (if nI b < nI a then nI b else nI a) = nI (min a b) := by
  by_cases h : b < a
  · rw [if_pos ((nI_ltI hb ha).mpr h), Nat.min_eq_right (by omega)]
  · rw [if_neg (fun q => h ((nI_ltI hb ha).mp q)), Nat.min_eq_left (by omega)]
theorem xopen {r ws fs : Nat → Int32} {d : Nat} {h : Int32} (hS : SOk r) (hd : d < 9) : PD mX3_opens [.ref 0, .int (nI d), .int h] (tW r ws fs) (some (.int (bI (opM r (nN r) d (-9) h)))) (tW r ws fs) := (tX3_opens (by have := hS.n6; omega) hS.e1 hd).mono (by rw [op_eq (who := -9) hS.e4 (by have := hS.n6; omega) (fun k hk e => absurd e (nI_m9 (by have := hS.n6; omega)))])
theorem xfirst {r ws : Nat → Int32} {a b : Nat} (ha : a < 8) (hb : b < 8) : PD mX0_firstDoors [.ref 0, .int (nI a), .int (nI b)] (dW r ws (fsO r)) (some (.int (fsO r (a * 8 + b)))) (dW r ws (fsO r)) := tX0_firstDoors ha hb
theorem lX4_way {r m mw mf im lt rw rf ga : Nat → Int32} {hi : Int32} {L R : Nat} (hS : SOk r) {w : Int32} {a b : Nat} (ha : a < 8) (hb : b < 8) {P : Option Value → PW → Prop} (hP : P (some (.int (dfS (fun d => onM r (farOf r) d a b) (dN r) 0))) (xW r (wsO r) (fsO r) m mw mf im (wsO im) (fsO im) lt rw rf ga hi (nI L) (nI R))) : ∀ (q k : Nat), k + q = dN r → dfS (fun d => onM r (farOf r) d a b) q k = dfS (fun d => onM r (farOf r) d a b) (dN r) 0 → Ok mX4_way none 71 [some (.ref 0), some (.int (nI a)), some (.int (nI b)), some (.int w), some (.int (fsO r (a * 8 + b))), some (.int (nI k))] [] (xW r (wsO r) (fsO r) m mw mf im (wsO im) (fsO im) lt rw rf ga hi (nI L) (nI R)) 0 0 (P) := by
  have h9 := hS.d9
  intro q
  induction q with
  | zero =>
    intro k hk hR
    have hk : k = dN r := by omega
    subst hk
    refine o_iload dX4_way_71 rfl ?_
    refine o_aload_n dX4_way_73 rfl rfl ?_
    refine o_getf (j := 0) dX4_way_74 rfl hcX4 inX4 (Nat.le_of_ble_eq_true rfl) wd204 rfl rfl ?_
    refine o_getf (j := 0) dX4_way_77 rfl hcX3 inX3 (Nat.le_of_ble_eq_true rfl) wd138 rfl rfl ?_
    refine o_getf (j := 7) dX4_way_80 rfl hcX0 inX0 (Nat.le_of_ble_eq_true rfl) wd118 rfl rfl ?_
    refine o_eqs (by rw [hS.e0]) ?_
    refine o_icmp_ge (tgt := 105) dX4_way_83 (by decide) (fun _ => ?_) (fun c => absurd (Int32.le_refl _) c)
    refine o_bipush dX4_way_105 bp_m9 ?_
    refine o_iret dX4_way_107 rfl (vp_nar_int _) (Nat.le_of_ble_eq_true rfl) (Nat.le_of_ble_eq_true rfl) ?_
    have hR : (-9 : Int32) = dfS (fun d => onM r (farOf r) d a b) (dN r) 0 := hR
    rw [hR]; exact hP
  | succ q ih =>
  intro k hk hR
  refine o_iload dX4_way_71 rfl ?_
  refine o_aload_n dX4_way_73 rfl rfl ?_
  refine o_getf (j := 0) dX4_way_74 rfl hcX4 inX4 (Nat.le_of_ble_eq_true rfl) wd204 rfl rfl ?_
  refine o_getf (j := 0) dX4_way_77 rfl hcX3 inX3 (Nat.le_of_ble_eq_true rfl) wd138 rfl rfl ?_
  refine o_getf (j := 7) dX4_way_80 rfl hcX0 inX0 (Nat.le_of_ble_eq_true rfl) wd118 rfl rfl ?_
  refine o_eqs (by rw [hS.e0]) ?_
  refine o_icmp_ge (tgt := 105) dX4_way_83 (by decide) (fun c_83 => ?_) (fun c_83 => ?_)
  · exact absurd (geI (by omega) (by omega) c_83) (by omega)
  · skip
    refine o_iload dX4_way_86 rfl ?_
    refine o_iload dX4_way_88 rfl ?_
    refine o_callSr (is := []) (tX4_hasBit) ⟨rfl, rfl⟩ dX4_way_90 wd486 csX4_hasBit rfl ⟨(Nat.le_of_ble_eq_true rfl), (Nat.le_of_ble_eq_true rfl)⟩ rfl rfl rfl (Nat.le_of_ble_eq_true rfl) (Nat.le_of_ble_eq_true rfl) (Nat.le_of_ble_eq_true rfl) ?_
    refine o_if_eq (tgt := 99) dX4_way_93 (by decide) (fun c_93 => ?_) (fun c_93 => ?_)
    · have hb2 : onM r (farOf r) k a b = false := by rw [← hS.on.1 a b k ha hb (by omega)]; exact bI_0.mp c_93
      refine o_inc_5 dX4_way_99 rfl ic_1 (Nat.le_of_ble_eq_true rfl) ?_
      refine o_goto (tgt := 71) dX4_way_102 (by decide) ?_
      exact o_eqa (by rw [nI_1]) rfl (ih (k + 1) (by omega) (by rw [dfS, hb2] at hR; exact hR))
    · have hb2 : onM r (farOf r) k a b = true := by rw [← hS.on.1 a b k ha hb (by omega)]; exact bI_ne c_93
      refine o_iload dX4_way_96 rfl ?_
      refine o_iret dX4_way_98 rfl (vp_nar_int _) (Nat.le_of_ble_eq_true rfl) (Nat.le_of_ble_eq_true rfl) ?_
      rw [dfS, if_pos hb2] at hR
      rw [hR]; exact hP
theorem tX4_way {r m mw mf im lt rw rf ga : Nat → Int32} {hi : Int32} {L R : Nat} (hS : SOk r) {x y w : Int32} : PM mX4_way [.ref 0, .int x, .int y, .int w] (xW r (wsO r) (fsO r) m mw mf im (wsO im) (fsO im) lt rw rf ga hi (nI L) (nI R)) (CP (s_way x y w (r, im, hi, lt, L, rw, R, rf))) := by
  refine PM.ofp 2 (by decide) (Nat.le_of_ble_eq_true rfl) ?_
  show Ok mX4_way none 0 [some (.ref 0), some (.int x), some (.int y), some (.int w), none, none] [] (xW r (wsO r) (fsO r) m mw mf im (wsO im) (fsO im) lt rw rf ga hi (nI L) (nI R)) 0 0 _
  refine o_iload_n dX4_way_0 rfl rfl ?_
  refine o_callSr (is := []) (tX4_isRoom) ⟨rfl, rfl⟩ dX4_way_1 wd400 csX4_isRoom rfl ⟨(Nat.le_of_ble_eq_true rfl), (Nat.le_of_ble_eq_true rfl)⟩ rfl rfl rfl (Nat.le_of_ble_eq_true rfl) (Nat.le_of_ble_eq_true rfl) (Nat.le_of_ble_eq_true rfl) ?_
  refine o_if_eq (tgt := 14) dX4_way_4 (by decide) (fun c_4 => ?_) (fun c_4 => ?_)
  · have hnx : inR 8 x = false := bI_0.mp c_4
    refine o_aload_n dX4_way_14 rfl rfl ?_
    refine o_iconst dX4_way_15 ic_m1 ?_
    refine o_callVd (w2 := xW r (wsO r) (fsO r) m mw mf im (wsO im) (fsO im) lt rw (rfu rf 1) ga hi (nI L) (nI R)) (is := [0, 1, 2, 3, 4, 5, 6, 7, 8, 9, 10, 11, 12, 13, 14, 15, 16, 17, 18, 19, 20, 21, 22, 23, 24, 25, 26, 27, 28, 29, 30, 31, 32, 33, 34, 35, 36, 37, 38, 39, 40, 41, 42, 43]) (tX4_refused (c := 1) rfl (by decide)) ⟨rfl, rfl⟩ dX4_way_16 wd233 cvX4_refused rfl ⟨(Nat.le_of_ble_eq_true rfl), (Nat.le_of_ble_eq_true rfl)⟩ hcX4 rfl rfl rfl rfl (Nat.le_of_ble_eq_true rfl) (Nat.le_of_ble_eq_true rfl) (Nat.le_of_ble_eq_true rfl) (pb_seg 0 (Nat.le_of_ble_eq_true rfl) rfl rfl rfl) ?_
    refine o_iret dX4_way_19 rfl (vp_nar_int _) (Nat.le_of_ble_eq_true rfl) (Nat.le_of_ble_eq_true rfl) ?_
    exact CP.mk (by simp only [s_way, hnx, Bool.false_and]; rfl)
  · obtain ⟨a, ha, rfl⟩ := inR_yes (D := 8) (by omega) (bI_ne c_4)
    have hia := inR_nI (D := 8) (by omega) ha
    have ea := cN_nI (d := a) (by omega)
    refine o_iload_n dX4_way_7 rfl rfl ?_
    refine o_callSr (is := []) (tX4_isRoom) ⟨rfl, rfl⟩ dX4_way_8 wd400 csX4_isRoom rfl ⟨(Nat.le_of_ble_eq_true rfl), (Nat.le_of_ble_eq_true rfl)⟩ rfl rfl rfl (Nat.le_of_ble_eq_true rfl) (Nat.le_of_ble_eq_true rfl) (Nat.le_of_ble_eq_true rfl) ?_
    refine o_if_ne (tgt := 20) dX4_way_11 (by decide) (fun c_11 => ?_) (fun c_11 => ?_)
    · obtain ⟨b, hb, rfl⟩ := inR_yes (D := 8) (by omega) (bI_ne c_11)
      have hib := inR_nI (D := 8) (by omega) hb
      have eb := cN_nI (d := b) (by omega)
      refine o_iload_n dX4_way_20 rfl rfl ?_
      refine o_callSr (is := []) (tX4_isHalf) ⟨rfl, rfl⟩ dX4_way_21 wd443 csX4_isHalf rfl ⟨(Nat.le_of_ble_eq_true rfl), (Nat.le_of_ble_eq_true rfl)⟩ rfl rfl rfl (Nat.le_of_ble_eq_true rfl) (Nat.le_of_ble_eq_true rfl) (Nat.le_of_ble_eq_true rfl) ?_
      refine o_if_ne (tgt := 34) dX4_way_24 (by decide) (fun c_24 => ?_) (fun c_24 => ?_)
      · have hww : inR 2 w = true := by rw [← isHalf_eq]; exact bI_ne c_24
        refine o_iload_n dX4_way_34 rfl rfl ?_
        refine o_if_ne (tgt := 54) dX4_way_35 (by decide) (fun c_35 => ?_) (fun c_35 => ?_)
        · skip
          refine o_aload_n dX4_way_54 rfl rfl ?_
          refine o_getf (j := 0) dX4_way_55 rfl hcX4 inX4 (Nat.le_of_ble_eq_true rfl) wd204 rfl rfl ?_
          refine o_getf (j := 0) dX4_way_58 rfl hcX3 inX3 (Nat.le_of_ble_eq_true rfl) wd138 rfl rfl ?_
          refine o_iload_n dX4_way_61 rfl rfl ?_
          refine o_iload_n dX4_way_62 rfl rfl ?_
          refine o_callVr (is := [3, 4, 5, 6, 7, 8, 9, 10]) (xfirst ha hb) ⟨rfl, rfl⟩ dX4_way_63 wd485 cvX0_firstDoors rfl ⟨(Nat.le_of_ble_eq_true rfl), (Nat.le_of_ble_eq_true rfl)⟩ hcX0 rfl rfl rfl rfl (Nat.le_of_ble_eq_true rfl) (Nat.le_of_ble_eq_true rfl) (Nat.le_of_ble_eq_true rfl) ?_
          refine o_istg_4 dX4_way_66 rfl (Nat.le_of_ble_eq_true rfl) ?_
          refine o_iconst dX4_way_68 ic_0 ?_
          refine o_istg_5 dX4_way_69 rfl (Nat.le_of_ble_eq_true rfl) ?_
          exact o_eqa (by rw [nI_0]) rfl (lX4_way hS ha hb (CP.mk (by
            simp only [s_way, hia, hib, Bool.and_self, if_true, hww, ea, eb, if_neg c_35]
            by_cases hf : 99 ≤ farOf r (8 * a + b)
            · rw [if_pos hf, on_far hf]
            · rw [if_neg hf])) (dN r) 0 (by omega) rfl)
        · skip
          refine o_aload_n dX4_way_38 rfl rfl ?_
          refine o_getf (j := 0) dX4_way_39 rfl hcX4 inX4 (Nat.le_of_ble_eq_true rfl) wd204 rfl rfl ?_
          refine o_getf (j := 0) dX4_way_42 rfl hcX3 inX3 (Nat.le_of_ble_eq_true rfl) wd138 rfl rfl ?_
          refine o_iload_n dX4_way_45 rfl rfl ?_
          refine o_iload_n dX4_way_46 rfl rfl ?_
          refine o_callVr (is := [3, 4, 5, 6, 7, 8, 9, 10]) (xwayN ha hb) ⟨rfl, rfl⟩ dX4_way_47 wd470 cvX0_wayBetween rfl ⟨(Nat.le_of_ble_eq_true rfl), (Nat.le_of_ble_eq_true rfl)⟩ hcX0 rfl rfl rfl rfl (Nat.le_of_ble_eq_true rfl) (Nat.le_of_ble_eq_true rfl) (Nat.le_of_ble_eq_true rfl) ?_
          refine o_callSr (is := []) (tX4_toldWay) ⟨rfl, rfl⟩ dX4_way_50 wd482 csX4_toldWay rfl ⟨(Nat.le_of_ble_eq_true rfl), (Nat.le_of_ble_eq_true rfl)⟩ rfl rfl rfl (Nat.le_of_ble_eq_true rfl) (Nat.le_of_ble_eq_true rfl) (Nat.le_of_ble_eq_true rfl) ?_
          refine o_iret dX4_way_53 rfl (vp_nar_int _) (Nat.le_of_ble_eq_true rfl) (Nat.le_of_ble_eq_true rfl) ?_
          exact CP.mk (by rw [told_eq hS ha hb]; simp only [s_way, hia, hib, Bool.and_self, if_true, hww, ea, eb, if_pos c_35])
      · have hww : inR 2 w = false := by rw [← isHalf_eq]; exact bI_0.mp c_24
        refine o_aload_n dX4_way_27 rfl rfl ?_
        refine o_bipush dX4_way_28 bp_m2 ?_
        refine o_callVd (w2 := xW r (wsO r) (fsO r) m mw mf im (wsO im) (fsO im) lt rw (rfu rf 2) ga hi (nI L) (nI R)) (is := [0, 1, 2, 3, 4, 5, 6, 7, 8, 9, 10, 11, 12, 13, 14, 15, 16, 17, 18, 19, 20, 21, 22, 23, 24, 25, 26, 27, 28, 29, 30, 31, 32, 33, 34, 35, 36, 37, 38, 39, 40, 41, 42, 43]) (tX4_refused (c := 2) rfl (by decide)) ⟨rfl, rfl⟩ dX4_way_30 wd233 cvX4_refused rfl ⟨(Nat.le_of_ble_eq_true rfl), (Nat.le_of_ble_eq_true rfl)⟩ hcX4 rfl rfl rfl rfl (Nat.le_of_ble_eq_true rfl) (Nat.le_of_ble_eq_true rfl) (Nat.le_of_ble_eq_true rfl) (pb_seg 0 (Nat.le_of_ble_eq_true rfl) rfl rfl rfl) ?_
        refine o_iret dX4_way_33 rfl (vp_nar_int _) (Nat.le_of_ble_eq_true rfl) (Nat.le_of_ble_eq_true rfl) ?_
        exact CP.mk (by simp only [s_way, hia, hib, Bool.and_self, if_true, hww]; rfl)
    · have hny : inR 8 y = false := bI_0.mp c_11
      refine o_aload_n dX4_way_14 rfl rfl ?_
      refine o_iconst dX4_way_15 ic_m1 ?_
      refine o_callVd (w2 := xW r (wsO r) (fsO r) m mw mf im (wsO im) (fsO im) lt rw (rfu rf 1) ga hi (nI L) (nI R)) (is := [0, 1, 2, 3, 4, 5, 6, 7, 8, 9, 10, 11, 12, 13, 14, 15, 16, 17, 18, 19, 20, 21, 22, 23, 24, 25, 26, 27, 28, 29, 30, 31, 32, 33, 34, 35, 36, 37, 38, 39, 40, 41, 42, 43]) (tX4_refused (c := 1) rfl (by decide)) ⟨rfl, rfl⟩ dX4_way_16 wd233 cvX4_refused rfl ⟨(Nat.le_of_ble_eq_true rfl), (Nat.le_of_ble_eq_true rfl)⟩ hcX4 rfl rfl rfl rfl (Nat.le_of_ble_eq_true rfl) (Nat.le_of_ble_eq_true rfl) (Nat.le_of_ble_eq_true rfl) (pb_seg 0 (Nat.le_of_ble_eq_true rfl) rfl rfl rfl) ?_
      refine o_iret dX4_way_19 rfl (vp_nar_int _) (Nat.le_of_ble_eq_true rfl) (Nat.le_of_ble_eq_true rfl) ?_
      exact CP.mk (by simp only [s_way, hia, hny, Bool.and_false]; rfl)
theorem lX4_round {r m mw mf im lt rw rf ga : Nat → Int32} {hi : Int32} {L R : Nat} (hS : SOk r) {a : Nat} (ha : a < 8) : ∀ (q k : Nat), dN r - k < q → k ≤ dN r → Ok mX4_round none 19 [some (.ref 0), some (.int (nI a)), some (.int (nI (rcN r a k))), some (.int (nI k))] [] (xW r (wsO r) (fsO r) m mw mf im (wsO im) (fsO im) lt rw rf ga hi (nI L) (nI R)) 0 0 (CP (s_round (nI a) (r, im, hi, lt, L, rw, R, rf))) := by
  intro q
  induction q with
  | zero => intro k hq hk; omega
  | succ q ih =>
  intro k hq hk
  have h9 := hS.d9
  have hrl := rcN_le (r := r) (a := a) k
  refine o_iload_n dX4_round_19 rfl rfl ?_
  refine o_aload_n dX4_round_20 rfl rfl ?_
  refine o_getf (j := 0) dX4_round_21 rfl hcX4 inX4 (Nat.le_of_ble_eq_true rfl) wd204 rfl rfl ?_
  refine o_getf (j := 0) dX4_round_24 rfl hcX3 inX3 (Nat.le_of_ble_eq_true rfl) wd138 rfl rfl ?_
  refine o_getf (j := 7) dX4_round_27 rfl hcX0 inX0 (Nat.le_of_ble_eq_true rfl) wd118 rfl rfl ?_
  refine o_eqs (by rw [hS.e0]) ?_
  refine o_icmp_ge (tgt := 89) dX4_round_30 (by decide) (fun c_30 => ?_) (fun c_30 => ?_)
  · have hkN : k = dN r := Nat.le_antisymm hk (geI (by omega) (by omega) c_30)
    subst hkN
    refine o_iload_n dX4_round_89 rfl rfl ?_
    refine o_callSr (is := []) (tX4_toldWay) ⟨rfl, rfl⟩ dX4_round_90 wd482 csX4_toldWay rfl ⟨(Nat.le_of_ble_eq_true rfl), (Nat.le_of_ble_eq_true rfl)⟩ rfl rfl rfl (Nat.le_of_ble_eq_true rfl) (Nat.le_of_ble_eq_true rfl) (Nat.le_of_ble_eq_true rfl) ?_
    refine o_iret dX4_round_93 rfl (vp_nar_int _) (Nat.le_of_ble_eq_true rfl) (Nat.le_of_ble_eq_true rfl) ?_
    exact CP.mk (by
      simp only [s_round, inR_nI (D := 8) (show 8 < 2147483648 by omega) ha, if_true, cN_nI (show a < 2147483648 by omega), toldW]
      rcases rc_rn hS ha (dN r) (Nat.le_refl _) with ⟨q1, q2⟩ | ⟨q1, q2⟩
      · rw [q2, if_neg (show ¬ 99 ≤ rnN r (farOf r) a (dN r) by omega), if_pos (show nI (rnN r (farOf r) a (dN r)) < 1000 from (nI_ltI (b := 1000) (by omega) (by omega)).mpr (by omega))]
      · rw [q2, q1]; rfl)
  · have hkN : k < dN r := ltI (by omega) (by omega) c_30
    obtain ⟨t1, t2⟩ := hS.T.2.2.2.2.2 k hkN
    have hwl := wyT_le (fa := fA r) (fb := fB r) (D := dN r) (fB r k * 8 + a)
    refine o_aload_n dX4_round_33 rfl rfl ?_
    refine o_getf (j := 0) dX4_round_34 rfl hcX4 inX4 (Nat.le_of_ble_eq_true rfl) wd204 rfl rfl ?_
    refine o_getf (j := 0) dX4_round_37 rfl hcX3 inX3 (Nat.le_of_ble_eq_true rfl) wd138 rfl rfl ?_
    refine o_getf (j := 2) dX4_round_40 rfl hcX0 inX0 (Nat.le_of_ble_eq_true rfl) wd107 rfl rfl ?_
    refine o_iload_n dX4_round_43 rfl rfl ?_
    refine o_callSr (is := [6]) (at_p (b := 7) (s := 5) (n := 9) (by decide) (by omega)) ⟨rfl, rfl⟩ dX4_round_44 wd237 csX4_at rfl ⟨(Nat.le_of_ble_eq_true rfl), (Nat.le_of_ble_eq_true rfl)⟩ rfl rfl rfl (Nat.le_of_ble_eq_true rfl) (Nat.le_of_ble_eq_true rfl) (Nat.le_of_ble_eq_true rfl) ?_
    refine o_iload_n dX4_round_47 rfl rfl ?_
    refine o_icmp_ne (tgt := 83) dX4_round_48 (by decide) (fun c_48 => ?_) (fun c_48 => ?_)
    · skip
      refine o_inc_3 dX4_round_83 rfl ic_1 (Nat.le_of_ble_eq_true rfl) ?_
      refine o_goto (tgt := 19) dX4_round_86 (by decide) ?_
      exact o_eqa (by rw [nI_1, rcN, if_neg c_48]) rfl (ih (k + 1) (by omega) (by omega))
    · skip
      refine o_iload_n dX4_round_51 rfl rfl ?_
      refine o_iconst dX4_round_52 ic_1 ?_
      refine o_aload_n dX4_round_53 rfl rfl ?_
      refine o_getf (j := 0) dX4_round_54 rfl hcX4 inX4 (Nat.le_of_ble_eq_true rfl) wd204 rfl rfl ?_
      refine o_getf (j := 0) dX4_round_57 rfl hcX3 inX3 (Nat.le_of_ble_eq_true rfl) wd138 rfl rfl ?_
      refine o_aload_n dX4_round_60 rfl rfl ?_
      refine o_getf (j := 0) dX4_round_61 rfl hcX4 inX4 (Nat.le_of_ble_eq_true rfl) wd204 rfl rfl ?_
      refine o_getf (j := 0) dX4_round_64 rfl hcX3 inX3 (Nat.le_of_ble_eq_true rfl) wd138 rfl rfl ?_
      refine o_getf (j := 3) dX4_round_67 rfl hcX0 inX0 (Nat.le_of_ble_eq_true rfl) wd109 rfl rfl ?_
      refine o_iload_n dX4_round_70 rfl rfl ?_
      refine o_callSr (is := [7]) (at_p (b := 8) (s := 5) (n := 9) (by decide) (by omega)) ⟨rfl, rfl⟩ dX4_round_71 wd237 csX4_at rfl ⟨(Nat.le_of_ble_eq_true rfl), (Nat.le_of_ble_eq_true rfl)⟩ rfl rfl rfl (Nat.le_of_ble_eq_true rfl) (Nat.le_of_ble_eq_true rfl) (Nat.le_of_ble_eq_true rfl) ?_
      refine o_iload_n dX4_round_74 rfl rfl ?_
      refine o_callVr (is := [3, 4, 5, 6, 7, 8, 9, 10]) (xway t2 (RmI.nI ha)) ⟨rfl, rfl⟩ dX4_round_75 wd470 cvX0_wayBetween rfl ⟨(Nat.le_of_ble_eq_true rfl), (Nat.le_of_ble_eq_true rfl)⟩ hcX0 rfl rfl rfl rfl (Nat.le_of_ble_eq_true rfl) (Nat.le_of_ble_eq_true rfl) (Nat.le_of_ble_eq_true rfl) ?_
      refine o_eqs (by rw [cN_nI (show a < 2147483648 by omega)]) ?_
      refine o_iadd dX4_round_78 ?_
      refine o_eqs (by rw [nI_1a]) ?_
      refine o_mmin dX4_round_79 wd284 wd285 wd60 wd286 (Nat.le_of_ble_eq_true rfl) (Nat.le_of_ble_eq_true rfl) (Nat.le_of_ble_eq_true rfl) (Nat.le_of_ble_eq_true rfl) ?_
      refine o_istn_2 dX4_round_82 rfl rfl (Nat.le_of_ble_eq_true rfl) ?_
      refine o_inc_3 dX4_round_83 rfl ic_1 (Nat.le_of_ble_eq_true rfl) ?_
      refine o_goto (tgt := 19) dX4_round_86 (by decide) ?_
      exact o_eqa (by rw [nI_1, rcN, if_pos c_48, min_nI (by omega) (by show 1 + wyT (fA r) (fB r) (dN r) (fB r k * 8 + a) < 2147483648; omega)]; rfl) rfl (ih (k + 1) (by omega) (by omega))
theorem tX4_round {r m mw mf im lt rw rf ga : Nat → Int32} {hi : Int32} {L R : Nat} (hS : SOk r) {x : Int32} : PM mX4_round [.ref 0, .int x] (xW r (wsO r) (fsO r) m mw mf im (wsO im) (fsO im) lt rw rf ga hi (nI L) (nI R)) (CP (s_round x (r, im, hi, lt, L, rw, R, rf))) := by
  refine PM.ofp 2 (by decide) (Nat.le_of_ble_eq_true rfl) ?_
  show Ok mX4_round none 0 [some (.ref 0), some (.int x), none, none] [] (xW r (wsO r) (fsO r) m mw mf im (wsO im) (fsO im) lt rw rf ga hi (nI L) (nI R)) 0 0 _
  refine o_iload_n dX4_round_0 rfl rfl ?_
  refine o_callSr (is := []) (tX4_isRoom) ⟨rfl, rfl⟩ dX4_round_1 wd400 csX4_isRoom rfl ⟨(Nat.le_of_ble_eq_true rfl), (Nat.le_of_ble_eq_true rfl)⟩ rfl rfl rfl (Nat.le_of_ble_eq_true rfl) (Nat.le_of_ble_eq_true rfl) (Nat.le_of_ble_eq_true rfl) ?_
  refine o_if_ne (tgt := 13) dX4_round_4 (by decide) (fun c_4 => ?_) (fun c_4 => ?_)
  · obtain ⟨a, ha, rfl⟩ := inR_yes (D := 8) (by omega) (bI_ne c_4)
    have hia := inR_nI (D := 8) (by omega) ha
    have ea := cN_nI (d := a) (by omega)
    refine o_sipush dX4_round_13 sp_1000 ?_
    refine o_istn_2 dX4_round_16 rfl rfl (Nat.le_of_ble_eq_true rfl) ?_
    refine o_iconst dX4_round_17 ic_0 ?_
    refine o_istn_3 dX4_round_18 rfl rfl (Nat.le_of_ble_eq_true rfl) ?_
    exact o_eqa (by rw [nI_0]; rfl) rfl (lX4_round hS ha (dN r + 1) 0 (by omega) (by omega))
  · have hnx : inR 8 x = false := bI_0.mp c_4
    refine o_aload_n dX4_round_7 rfl rfl ?_
    refine o_iconst dX4_round_8 ic_m1 ?_
    refine o_callVd (w2 := xW r (wsO r) (fsO r) m mw mf im (wsO im) (fsO im) lt rw (rfu rf 1) ga hi (nI L) (nI R)) (is := [0, 1, 2, 3, 4, 5, 6, 7, 8, 9, 10, 11, 12, 13, 14, 15, 16, 17, 18, 19, 20, 21, 22, 23, 24, 25, 26, 27, 28, 29, 30, 31, 32, 33, 34, 35, 36, 37, 38, 39, 40, 41, 42, 43]) (tX4_refused (c := 1) rfl (by decide)) ⟨rfl, rfl⟩ dX4_round_9 wd233 cvX4_refused rfl ⟨(Nat.le_of_ble_eq_true rfl), (Nat.le_of_ble_eq_true rfl)⟩ hcX4 rfl rfl rfl rfl (Nat.le_of_ble_eq_true rfl) (Nat.le_of_ble_eq_true rfl) (Nat.le_of_ble_eq_true rfl) (pb_seg 0 (Nat.le_of_ble_eq_true rfl) rfl rfl rfl) ?_
    refine o_iret dX4_round_12 rfl (vp_nar_int _) (Nat.le_of_ble_eq_true rfl) (Nat.le_of_ble_eq_true rfl) ?_
    exact CP.mk (by simp only [s_round, hnx]; rfl)
theorem lX4_reach {r m mw mf im lt rw rf ga : Nat → Int32} {hi : Int32} {L R : Nat} (hS : SOk r) {a : Nat} (ha : a < 8) : ∀ (q k : Nat), 8 - k < q → k ≤ 8 → Ok mX4_reach none 17 [some (.ref 0), some (.int (nI a)), some (.int (reS (farOf r) a k)), some (.int (nI k))] [] (xW r (wsO r) (fsO r) m mw mf im (wsO im) (fsO im) lt rw rf ga hi (nI L) (nI R)) 0 0 (CP (s_reach (nI a) (r, im, hi, lt, L, rw, R, rf))) := by
  intro q
  induction q with
  | zero => intro k hq hk; omega
  | succ q ih =>
  intro k hq hk
  refine o_iload_n dX4_reach_17 rfl rfl ?_
  refine o_bipush dX4_reach_18 bp_8 ?_
  refine o_icmp_ge (tgt := 53) dX4_reach_20 (by decide) (fun c_20 => ?_) (fun c_20 => ?_)
  · have hkN : k = 8 := Nat.le_antisymm hk (geI (b := 8) (by omega) (by omega) c_20)
    subst hkN
    refine o_iload_n dX4_reach_53 rfl rfl ?_
    refine o_iret dX4_reach_54 rfl (vp_nar_int _) (Nat.le_of_ble_eq_true rfl) (Nat.le_of_ble_eq_true rfl) ?_
    exact CP.mk (by simp only [s_reach, inR_nI (D := 8) (show 8 < 2147483648 by omega) ha, if_true, cN_nI (show a < 2147483648 by omega)])
  · have hkN : k < 8 := ltI (b := 8) (by omega) (by omega) c_20
    refine o_aload_n dX4_reach_23 rfl rfl ?_
    refine o_getf (j := 0) dX4_reach_24 rfl hcX4 inX4 (Nat.le_of_ble_eq_true rfl) wd204 rfl rfl ?_
    refine o_getf (j := 0) dX4_reach_27 rfl hcX3 inX3 (Nat.le_of_ble_eq_true rfl) wd138 rfl rfl ?_
    refine o_iload_n dX4_reach_30 rfl rfl ?_
    refine o_iload_n dX4_reach_31 rfl rfl ?_
    refine o_callVr (is := [3, 4, 5, 6, 7, 8, 9, 10]) (xwayN ha hkN) ⟨rfl, rfl⟩ dX4_reach_32 wd470 cvX0_wayBetween rfl ⟨(Nat.le_of_ble_eq_true rfl), (Nat.le_of_ble_eq_true rfl)⟩ hcX0 rfl rfl rfl rfl (Nat.le_of_ble_eq_true rfl) (Nat.le_of_ble_eq_true rfl) (Nat.le_of_ble_eq_true rfl) ?_
    refine o_sipush dX4_reach_35 sp_1000 ?_
    refine o_icmp_eq (tgt := 47) dX4_reach_38 (by decide) (fun c_38 => ?_) (fun c_38 => ?_)
    · have q9 : ¬ farOf r (8 * a + k) < 99 := Nat.not_lt.mpr ((wy_1000 hS ha hkN).mp c_38)
      refine o_inc_3 dX4_reach_47 rfl ic_1 (Nat.le_of_ble_eq_true rfl) ?_
      refine o_goto (tgt := 17) dX4_reach_50 (by decide) ?_
      exact o_eqa (by rw [nI_1, reS, if_neg q9, Int32.or_zero]) rfl (ih (k + 1) (by omega) (by omega))
    · have q9 : farOf r (8 * a + k) < 99 := Nat.lt_of_not_le (fun z => c_38 ((wy_1000 hS ha hkN).mpr z))
      refine o_iload_n dX4_reach_41 rfl rfl ?_
      refine o_iconst dX4_reach_42 ic_1 ?_
      refine o_iload_n dX4_reach_43 rfl rfl ?_
      refine o_ishl dX4_reach_44 ?_
      refine o_ior dX4_reach_45 ?_
      refine o_istn_2 dX4_reach_46 rfl rfl (Nat.le_of_ble_eq_true rfl) ?_
      refine o_inc_3 dX4_reach_47 rfl ic_1 (Nat.le_of_ble_eq_true rfl) ?_
      refine o_goto (tgt := 17) dX4_reach_50 (by decide) ?_
      exact o_eqa (by rw [nI_1, reS, if_pos q9]) rfl (ih (k + 1) (by omega) (by omega))
theorem tX4_reach {r m mw mf im lt rw rf ga : Nat → Int32} {hi : Int32} {L R : Nat} (hS : SOk r) {x : Int32} : PM mX4_reach [.ref 0, .int x] (xW r (wsO r) (fsO r) m mw mf im (wsO im) (fsO im) lt rw rf ga hi (nI L) (nI R)) (CP (s_reach x (r, im, hi, lt, L, rw, R, rf))) := by
  refine PM.ofp 2 (by decide) (Nat.le_of_ble_eq_true rfl) ?_
  show Ok mX4_reach none 0 [some (.ref 0), some (.int x), none, none] [] (xW r (wsO r) (fsO r) m mw mf im (wsO im) (fsO im) lt rw rf ga hi (nI L) (nI R)) 0 0 _
  refine o_iload_n dX4_reach_0 rfl rfl ?_
  refine o_callSr (is := []) (tX4_isRoom) ⟨rfl, rfl⟩ dX4_reach_1 wd400 csX4_isRoom rfl ⟨(Nat.le_of_ble_eq_true rfl), (Nat.le_of_ble_eq_true rfl)⟩ rfl rfl rfl (Nat.le_of_ble_eq_true rfl) (Nat.le_of_ble_eq_true rfl) (Nat.le_of_ble_eq_true rfl) ?_
  refine o_if_ne (tgt := 13) dX4_reach_4 (by decide) (fun c_4 => ?_) (fun c_4 => ?_)
  · obtain ⟨a, ha, rfl⟩ := inR_yes (D := 8) (by omega) (bI_ne c_4)
    have hia := inR_nI (D := 8) (by omega) ha
    have ea := cN_nI (d := a) (by omega)
    refine o_iconst dX4_reach_13 ic_0 ?_
    refine o_istn_2 dX4_reach_14 rfl rfl (Nat.le_of_ble_eq_true rfl) ?_
    refine o_iconst dX4_reach_15 ic_0 ?_
    refine o_istn_3 dX4_reach_16 rfl rfl (Nat.le_of_ble_eq_true rfl) ?_
    exact o_eqa (by rw [nI_0]; rfl) rfl (lX4_reach hS ha 9 0 (by omega) (by omega))
  · have hnx : inR 8 x = false := bI_0.mp c_4
    refine o_aload_n dX4_reach_7 rfl rfl ?_
    refine o_iconst dX4_reach_8 ic_m1 ?_
    refine o_callVd (w2 := xW r (wsO r) (fsO r) m mw mf im (wsO im) (fsO im) lt rw (rfu rf 1) ga hi (nI L) (nI R)) (is := [0, 1, 2, 3, 4, 5, 6, 7, 8, 9, 10, 11, 12, 13, 14, 15, 16, 17, 18, 19, 20, 21, 22, 23, 24, 25, 26, 27, 28, 29, 30, 31, 32, 33, 34, 35, 36, 37, 38, 39, 40, 41, 42, 43]) (tX4_refused (c := 1) rfl (by decide)) ⟨rfl, rfl⟩ dX4_reach_9 wd233 cvX4_refused rfl ⟨(Nat.le_of_ble_eq_true rfl), (Nat.le_of_ble_eq_true rfl)⟩ hcX4 rfl rfl rfl rfl (Nat.le_of_ble_eq_true rfl) (Nat.le_of_ble_eq_true rfl) (Nat.le_of_ble_eq_true rfl) (pb_seg 0 (Nat.le_of_ble_eq_true rfl) rfl rfl rfl) ?_
    refine o_iret dX4_reach_12 rfl (vp_nar_int _) (Nat.le_of_ble_eq_true rfl) (Nat.le_of_ble_eq_true rfl) ?_
    exact CP.mk (by simp only [s_reach, hnx]; rfl)
theorem lX4_open {r m mw mf im lt rw rf ga : Nat → Int32} {hi : Int32} {L R : Nat} (hS : SOk r) : ∀ (q k : Nat), dN r - k < q → k ≤ dN r → Ok mX4_open none 4 [some (.ref 0), some (.int (opS r k)), some (.int (nI k))] [] (xW r (wsO r) (fsO r) m mw mf im (wsO im) (fsO im) lt rw rf ga hi (nI L) (nI R)) 0 0 (CP (s_open (r, im, hi, lt, L, rw, R, rf))) := by
  intro q
  induction q with
  | zero => intro k hq hk; omega
  | succ q ih =>
  intro k hq hk
  have h9 := hS.d9
  refine o_iload_n dX4_open_4 rfl rfl ?_
  refine o_aload_n dX4_open_5 rfl rfl ?_
  refine o_getf (j := 0) dX4_open_6 rfl hcX4 inX4 (Nat.le_of_ble_eq_true rfl) wd204 rfl rfl ?_
  refine o_getf (j := 0) dX4_open_9 rfl hcX3 inX3 (Nat.le_of_ble_eq_true rfl) wd138 rfl rfl ?_
  refine o_getf (j := 7) dX4_open_12 rfl hcX0 inX0 (Nat.le_of_ble_eq_true rfl) wd118 rfl rfl ?_
  refine o_eqs (by rw [hS.e0]) ?_
  refine o_icmp_ge (tgt := 50) dX4_open_15 (by decide) (fun c_15 => ?_) (fun c_15 => ?_)
  · have hkN : k = dN r := Nat.le_antisymm hk (geI (by omega) (by omega) c_15)
    subst hkN
    refine o_iload_n dX4_open_50 rfl rfl ?_
    refine o_iret dX4_open_51 rfl (vp_nar_int _) (Nat.le_of_ble_eq_true rfl) (Nat.le_of_ble_eq_true rfl) ?_
    exact CP.mk (rfl)
  · have hkN : k < dN r := ltI (by omega) (by omega) c_15
    refine o_aload_n dX4_open_18 rfl rfl ?_
    refine o_getf (j := 0) dX4_open_19 rfl hcX4 inX4 (Nat.le_of_ble_eq_true rfl) wd204 rfl rfl ?_
    refine o_iload_n dX4_open_22 rfl rfl ?_
    refine o_aload_n dX4_open_23 rfl rfl ?_
    refine o_getf (j := 0) dX4_open_24 rfl hcX4 inX4 (Nat.le_of_ble_eq_true rfl) wd204 rfl rfl ?_
    refine o_getf (j := 5) dX4_open_27 rfl hcX3 inX3 (Nat.le_of_ble_eq_true rfl) wd152 rfl rfl ?_
    refine o_iconst dX4_open_30 ic_1 ?_
    refine o_iadd dX4_open_31 ?_
    refine o_callVr (is := [2, 3, 4, 5, 6, 7, 8, 9, 10, 11, 12, 13]) (xopen hS (by omega)) ⟨rfl, rfl⟩ dX4_open_32 wd499 cvX3_opens rfl ⟨(Nat.le_of_ble_eq_true rfl), (Nat.le_of_ble_eq_true rfl)⟩ hcX3 rfl rfl rfl rfl (Nat.le_of_ble_eq_true rfl) (Nat.le_of_ble_eq_true rfl) (Nat.le_of_ble_eq_true rfl) ?_
    refine o_if_eq (tgt := 44) dX4_open_35 (by decide) (fun c_35 => ?_) (fun c_35 => ?_)
    · skip
      refine o_inc_2 dX4_open_44 rfl ic_1 (Nat.le_of_ble_eq_true rfl) ?_
      refine o_goto (tgt := 4) dX4_open_47 (by decide) ?_
      exact o_eqa (by rw [nI_1, opS, bI_0.mp c_35, if_neg (by decide), Int32.or_zero]) rfl (ih (k + 1) (by omega) (by omega))
    · skip
      refine o_iload_n dX4_open_38 rfl rfl ?_
      refine o_iconst dX4_open_39 ic_1 ?_
      refine o_iload_n dX4_open_40 rfl rfl ?_
      refine o_ishl dX4_open_41 ?_
      refine o_ior dX4_open_42 ?_
      refine o_istn_1 dX4_open_43 rfl rfl (Nat.le_of_ble_eq_true rfl) ?_
      refine o_inc_2 dX4_open_44 rfl ic_1 (Nat.le_of_ble_eq_true rfl) ?_
      refine o_goto (tgt := 4) dX4_open_47 (by decide) ?_
      exact o_eqa (by rw [nI_1, opS, if_pos (bI_ne c_35)]) rfl (ih (k + 1) (by omega) (by omega))
theorem tX4_open {r m mw mf im lt rw rf ga : Nat → Int32} {hi : Int32} {L R : Nat} (hS : SOk r) : PM mX4_open [.ref 0] (xW r (wsO r) (fsO r) m mw mf im (wsO im) (fsO im) lt rw rf ga hi (nI L) (nI R)) (CP (s_open (r, im, hi, lt, L, rw, R, rf))) := by
  refine PM.ofp 2 (by decide) (Nat.le_of_ble_eq_true rfl) ?_
  show Ok mX4_open none 0 [some (.ref 0), none, none] [] (xW r (wsO r) (fsO r) m mw mf im (wsO im) (fsO im) lt rw rf ga hi (nI L) (nI R)) 0 0 _
  refine o_iconst dX4_open_0 ic_0 ?_
  refine o_istn_1 dX4_open_1 rfl rfl (Nat.le_of_ble_eq_true rfl) ?_
  refine o_iconst dX4_open_2 ic_0 ?_
  refine o_istn_2 dX4_open_3 rfl rfl (Nat.le_of_ble_eq_true rfl) ?_
  exact o_eqa (by rw [nI_0]; rfl) rfl (lX4_open hS (dN r + 1) 0 (by omega) (by omega))
