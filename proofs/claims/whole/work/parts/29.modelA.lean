def hbR (r : Nat → Int32) (a : Nat) (X : Int32) (b : Nat) (Y : Int32) : Nat → Int32 := if Y = 1 then upd (if X = 1 then upd r (51 + 3 * a) (r (50 + 3 * a)) else r) (51 + 3 * b) (r (50 + 3 * b)) else (if X = 1 then upd r (51 + 3 * a) (r (50 + 3 * a)) else r)
def hbF (r : Nat → Int32) (c a : Nat) (X : Int32) (b : Nat) (Y : Int32) (n : Nat) : Int32 := if hrs (hbR r a X b Y) n (50 + 3 * c) = r (51 + 3 * c) then 3 else hrs (hbR r a X b Y) n (52 + 3 * c) / 4
theorem MOk.hb {r : Nat → Int32} {D N h a b : Nat} {X Y : Int32} (hM : MOk r D N h) (ha : a < N) (hb : b < N) : MOk (hbR r a X b Y) D N h := by
  unfold hbR
  have h1 : MOk (if X = 1 then upd r (51 + 3 * a) (r (50 + 3 * a)) else r) D N h := by
    split
    · exact hM.goal ha (hM.1.2.2.2.2.1 a ha).1
    · exact hM
  split
  · exact h1.goal hb (hM.1.2.2.2.2.1 b hb).1
  · exact h1
def twT (r : Nat → Int32) (a b n k : Nat) : Bool := !decide (hbF r a a (nI (k / 2)) b (nI (k % 2)) n < hbF r a a (nI (1 - k / 2)) b (nI (k % 2)) n) && !decide (hbF r b a (nI (k / 2)) b (nI (k % 2)) n < hbF r b a (nI (k / 2)) b (nI (1 - k % 2)) n)
def twS (t : Nat → Bool) : Nat → Nat → Int32
  | 0, _ => -9
  | q + 1, k => if t k then 10 * nI (k / 2) + nI (k % 2) else twS t q (k + 1)
def s_two (x y n : Int32) (σ : St) : Res := if inR (nN σ.1) x && inR (nN σ.1) y && !decide (x = y) then wrB n 30 σ (some (.int (twS (twT σ.1 (cN x) (cN y) (cN n)) 4 0)), σ) else noR σ 1
theorem sub1n {k : Nat} (h : k ≤ 1) : 1 - nI k = nI (1 - k) := pk_sub (a := 1) h
theorem dv2 {k : Nat} (h : k < 1000) : nI k / 2 = nI (k / 2) := pk_div (d := 2) (by omega) (by omega) (by omega)
theorem rm2 {k : Nat} (h : k < 1000) : nI k - nI k / 2 * 2 = nI (k % 2) := pk_rem (d := 2) (by omega) (by omega) (by omega)
theorem tX5_hasBy {r m im wa fr lt rw rf nu : Nat → Int32} {hi pl sd : Int32} {L R : Nat} (hS : SOk r) {c a b n : Nat} {X Y : Int32} (hc : c < nN r) (ha : a < nN r) (hb : b < nN r) (hn : n ≤ 30) : PD mX5_hasBy [.ref 0, .int (nI c), .int (nI a), .int X, .int (nI b), .int Y, .int (nI n)] (mW r m im wa fr hi lt rw rf (nI L) (nI R) pl nu sd) (some (.int (hbF r c a X b Y n))) (mW r (hrs (hbR r a X b Y) n) im wa (nF (farOf (hbR r a X b Y))) hi lt rw rf (nI L) (nI R) pl nu sd) := by
  refine PM.ofp 0 (by decide) (Nat.le_of_ble_eq_true rfl) ?_
  show Ok mX5_hasBy none 0 [some (.ref 0), some (.int (nI c)), some (.int (nI a)), some (.int X), some (.int (nI b)), some (.int Y), some (.int (nI n))] [] (mW r m im wa fr hi lt rw rf (nI L) (nI R) pl nu sd) 0 0 _
  have h6 := hS.n6
  have h99 := hS.h9
  obtain ⟨hm, em1, em2, em3⟩ := (MOk.hb (X := X) (Y := Y) hS.M ha hb).self (by omega)
  refine o_aload_n dX5_hasBy_0 rfl rfl ?_
  refine o_getf (j := 0) dX5_hasBy_1 rfl hcX5 inX5 (Nat.le_of_ble_eq_true rfl) wd686 rfl rfl ?_
  refine o_aload_n dX5_hasBy_4 rfl rfl ?_
  refine o_getf (j := 1) dX5_hasBy_5 rfl hcX5 inX5 (Nat.le_of_ble_eq_true rfl) wd687 rfl rfl ?_
  refine o_callSd (is := [1, 2]) (tX5_copies) ⟨rfl, rfl⟩ dX5_hasBy_8 wd763 csX5_copies rfl ⟨(Nat.le_of_ble_eq_true rfl), (Nat.le_of_ble_eq_true rfl)⟩ rfl rfl rfl (Nat.le_of_ble_eq_true rfl) (Nat.le_of_ble_eq_true rfl) (Nat.le_of_ble_eq_true rfl) rfl ?_
  refine o_iload_n dX5_hasBy_11 rfl rfl ?_
  refine o_iconst dX5_hasBy_12 ic_1 ?_
  refine o_icmp_ne (tgt := 36) dX5_hasBy_13 (by decide) (fun c_13 => ?_) (fun c_13 => ?_)
  · have e13 : ∀ u v : Nat → Int32, (if X = 1 then u else v) = v := fun u v => if_neg c_13
    refine o_iload dX5_hasBy_36 rfl ?_
    refine o_iconst dX5_hasBy_38 ic_1 ?_
    refine o_icmp_ne (tgt := 64) dX5_hasBy_39 (by decide) (fun c_39 => ?_) (fun c_39 => ?_)
    · have e39 : ∀ u v : Nat → Int32, (if Y = 1 then u else v) = v := fun u v => if_neg c_39
      refine o_eqw (w2 := mW r (hbR r a X b Y) im wa fr hi lt rw rf (nI L) (nI R) pl nu sd) (by unfold hbR; rw [e39, e13]; rfl) ?_
      refine o_aload_n dX5_hasBy_64 rfl rfl ?_
      refine o_aload_n dX5_hasBy_65 rfl rfl ?_
      refine o_getf (j := 1) dX5_hasBy_66 rfl hcX5 inX5 (Nat.le_of_ble_eq_true rfl) wd687 rfl rfl ?_
      refine o_iload dX5_hasBy_69 rfl ?_
      refine o_callVd (is := [0, 1, 2, 3, 4, 5, 6, 7, 8, 9]) (ho_m hm (by omega)) ⟨rfl, rfl⟩ dX5_hasBy_71 wd797 cvX5_hoursOn rfl ⟨(Nat.le_of_ble_eq_true rfl), (Nat.le_of_ble_eq_true rfl)⟩ hcX5 rfl rfl rfl rfl (Nat.le_of_ble_eq_true rfl) (Nat.le_of_ble_eq_true rfl) (Nat.le_of_ble_eq_true rfl) rfl ?_
      refine o_aload_n dX5_hasBy_74 rfl rfl ?_
      refine o_getf (j := 1) dX5_hasBy_75 rfl hcX5 inX5 (Nat.le_of_ble_eq_true rfl) wd687 rfl rfl ?_
      refine o_iload_n dX5_hasBy_78 rfl rfl ?_
      refine o_iconst dX5_hasBy_79 ic_0 ?_
      refine o_callSr (is := []) (ofP0) ⟨rfl, rfl⟩ dX5_hasBy_80 wd783 csX5_ofP rfl ⟨(Nat.le_of_ble_eq_true rfl), (Nat.le_of_ble_eq_true rfl)⟩ rfl rfl rfl (Nat.le_of_ble_eq_true rfl) (Nat.le_of_ble_eq_true rfl) (Nat.le_of_ble_eq_true rfl) ?_
      refine o_ialp (i := 50 + 3 * c) dX5_hasBy_83 rfl (rfl) (by omega) ?_
      refine o_aload_n dX5_hasBy_84 rfl rfl ?_
      refine o_getf (j := 0) dX5_hasBy_85 rfl hcX5 inX5 (Nat.le_of_ble_eq_true rfl) wd686 rfl rfl ?_
      refine o_iload_n dX5_hasBy_88 rfl rfl ?_
      refine o_iconst dX5_hasBy_89 ic_1 ?_
      refine o_callSr (is := []) (ofP1) ⟨rfl, rfl⟩ dX5_hasBy_90 wd783 csX5_ofP rfl ⟨(Nat.le_of_ble_eq_true rfl), (Nat.le_of_ble_eq_true rfl)⟩ rfl rfl rfl (Nat.le_of_ble_eq_true rfl) (Nat.le_of_ble_eq_true rfl) (Nat.le_of_ble_eq_true rfl) ?_
      refine o_ialp (i := 51 + 3 * c) dX5_hasBy_93 rfl (rfl) (by omega) ?_
      refine o_icmp_ne (tgt := 101) dX5_hasBy_94 (by decide) (fun c_94 => ?_) (fun c_94 => ?_)
      · skip
        refine o_aload_n dX5_hasBy_101 rfl rfl ?_
        refine o_getf (j := 1) dX5_hasBy_102 rfl hcX5 inX5 (Nat.le_of_ble_eq_true rfl) wd687 rfl rfl ?_
        refine o_iload_n dX5_hasBy_105 rfl rfl ?_
        refine o_iconst dX5_hasBy_106 ic_2 ?_
        refine o_callSr (is := []) (ofP2) ⟨rfl, rfl⟩ dX5_hasBy_107 wd783 csX5_ofP rfl ⟨(Nat.le_of_ble_eq_true rfl), (Nat.le_of_ble_eq_true rfl)⟩ rfl rfl rfl (Nat.le_of_ble_eq_true rfl) (Nat.le_of_ble_eq_true rfl) (Nat.le_of_ble_eq_true rfl) ?_
        refine o_ialp (i := 52 + 3 * c) dX5_hasBy_110 rfl (rfl) (by omega) ?_
        refine o_iconst dX5_hasBy_111 ic_4 ?_
        refine o_idiv dX5_hasBy_112 (by decide) ?_
        refine o_iret dX5_hasBy_113 rfl (vp_nar_int _) (Nat.le_of_ble_eq_true rfl) (Nat.le_of_ble_eq_true rfl) ?_
        exact ⟨by rw [hbF, if_neg c_94], rfl⟩
      · skip
        refine o_iconst dX5_hasBy_97 ic_3 ?_
        refine o_goto (tgt := 113) dX5_hasBy_98 (by decide) ?_
        refine o_iret dX5_hasBy_113 rfl (vp_nar_int _) (Nat.le_of_ble_eq_true rfl) (Nat.le_of_ble_eq_true rfl) ?_
        exact ⟨by rw [hbF, if_pos c_94], rfl⟩
    · have e39 : ∀ u v : Nat → Int32, (if Y = 1 then u else v) = u := fun u v => if_pos c_39
      refine o_aload_n dX5_hasBy_42 rfl rfl ?_
      refine o_getf (j := 1) dX5_hasBy_43 rfl hcX5 inX5 (Nat.le_of_ble_eq_true rfl) wd687 rfl rfl ?_
      refine o_iload dX5_hasBy_46 rfl ?_
      refine o_iconst dX5_hasBy_48 ic_1 ?_
      refine o_callSr (is := []) (ofP1) ⟨rfl, rfl⟩ dX5_hasBy_49 wd783 csX5_ofP rfl ⟨(Nat.le_of_ble_eq_true rfl), (Nat.le_of_ble_eq_true rfl)⟩ rfl rfl rfl (Nat.le_of_ble_eq_true rfl) (Nat.le_of_ble_eq_true rfl) (Nat.le_of_ble_eq_true rfl) ?_
      refine o_aload_n dX5_hasBy_52 rfl rfl ?_
      refine o_getf (j := 0) dX5_hasBy_53 rfl hcX5 inX5 (Nat.le_of_ble_eq_true rfl) wd686 rfl rfl ?_
      refine o_iload dX5_hasBy_56 rfl ?_
      refine o_iconst dX5_hasBy_58 ic_0 ?_
      refine o_callSr (is := []) (ofP0) ⟨rfl, rfl⟩ dX5_hasBy_59 wd783 csX5_ofP rfl ⟨(Nat.le_of_ble_eq_true rfl), (Nat.le_of_ble_eq_true rfl)⟩ rfl rfl rfl (Nat.le_of_ble_eq_true rfl) (Nat.le_of_ble_eq_true rfl) (Nat.le_of_ble_eq_true rfl) ?_
      refine o_ialp (i := 50 + 3 * b) dX5_hasBy_62 rfl (rfl) (by omega) ?_
      refine o_iasp (i := 51 + 3 * b) dX5_hasBy_63 rfl (rfl) (by omega) rfl ?_
      refine o_eqw (w2 := mW r (hbR r a X b Y) im wa fr hi lt rw rf (nI L) (nI R) pl nu sd) (by unfold hbR; rw [e39, e13]; rfl) ?_
      refine o_aload_n dX5_hasBy_64 rfl rfl ?_
      refine o_aload_n dX5_hasBy_65 rfl rfl ?_
      refine o_getf (j := 1) dX5_hasBy_66 rfl hcX5 inX5 (Nat.le_of_ble_eq_true rfl) wd687 rfl rfl ?_
      refine o_iload dX5_hasBy_69 rfl ?_
      refine o_callVd (is := [0, 1, 2, 3, 4, 5, 6, 7, 8, 9]) (ho_m hm (by omega)) ⟨rfl, rfl⟩ dX5_hasBy_71 wd797 cvX5_hoursOn rfl ⟨(Nat.le_of_ble_eq_true rfl), (Nat.le_of_ble_eq_true rfl)⟩ hcX5 rfl rfl rfl rfl (Nat.le_of_ble_eq_true rfl) (Nat.le_of_ble_eq_true rfl) (Nat.le_of_ble_eq_true rfl) rfl ?_
      refine o_aload_n dX5_hasBy_74 rfl rfl ?_
      refine o_getf (j := 1) dX5_hasBy_75 rfl hcX5 inX5 (Nat.le_of_ble_eq_true rfl) wd687 rfl rfl ?_
      refine o_iload_n dX5_hasBy_78 rfl rfl ?_
      refine o_iconst dX5_hasBy_79 ic_0 ?_
      refine o_callSr (is := []) (ofP0) ⟨rfl, rfl⟩ dX5_hasBy_80 wd783 csX5_ofP rfl ⟨(Nat.le_of_ble_eq_true rfl), (Nat.le_of_ble_eq_true rfl)⟩ rfl rfl rfl (Nat.le_of_ble_eq_true rfl) (Nat.le_of_ble_eq_true rfl) (Nat.le_of_ble_eq_true rfl) ?_
      refine o_ialp (i := 50 + 3 * c) dX5_hasBy_83 rfl (rfl) (by omega) ?_
      refine o_aload_n dX5_hasBy_84 rfl rfl ?_
      refine o_getf (j := 0) dX5_hasBy_85 rfl hcX5 inX5 (Nat.le_of_ble_eq_true rfl) wd686 rfl rfl ?_
      refine o_iload_n dX5_hasBy_88 rfl rfl ?_
      refine o_iconst dX5_hasBy_89 ic_1 ?_
      refine o_callSr (is := []) (ofP1) ⟨rfl, rfl⟩ dX5_hasBy_90 wd783 csX5_ofP rfl ⟨(Nat.le_of_ble_eq_true rfl), (Nat.le_of_ble_eq_true rfl)⟩ rfl rfl rfl (Nat.le_of_ble_eq_true rfl) (Nat.le_of_ble_eq_true rfl) (Nat.le_of_ble_eq_true rfl) ?_
      refine o_ialp (i := 51 + 3 * c) dX5_hasBy_93 rfl (rfl) (by omega) ?_
      refine o_icmp_ne (tgt := 101) dX5_hasBy_94 (by decide) (fun c_94 => ?_) (fun c_94 => ?_)
      · skip
        refine o_aload_n dX5_hasBy_101 rfl rfl ?_
        refine o_getf (j := 1) dX5_hasBy_102 rfl hcX5 inX5 (Nat.le_of_ble_eq_true rfl) wd687 rfl rfl ?_
        refine o_iload_n dX5_hasBy_105 rfl rfl ?_
        refine o_iconst dX5_hasBy_106 ic_2 ?_
        refine o_callSr (is := []) (ofP2) ⟨rfl, rfl⟩ dX5_hasBy_107 wd783 csX5_ofP rfl ⟨(Nat.le_of_ble_eq_true rfl), (Nat.le_of_ble_eq_true rfl)⟩ rfl rfl rfl (Nat.le_of_ble_eq_true rfl) (Nat.le_of_ble_eq_true rfl) (Nat.le_of_ble_eq_true rfl) ?_
        refine o_ialp (i := 52 + 3 * c) dX5_hasBy_110 rfl (rfl) (by omega) ?_
        refine o_iconst dX5_hasBy_111 ic_4 ?_
        refine o_idiv dX5_hasBy_112 (by decide) ?_
        refine o_iret dX5_hasBy_113 rfl (vp_nar_int _) (Nat.le_of_ble_eq_true rfl) (Nat.le_of_ble_eq_true rfl) ?_
        exact ⟨by rw [hbF, if_neg c_94], rfl⟩
      · skip
        refine o_iconst dX5_hasBy_97 ic_3 ?_
        refine o_goto (tgt := 113) dX5_hasBy_98 (by decide) ?_
        refine o_iret dX5_hasBy_113 rfl (vp_nar_int _) (Nat.le_of_ble_eq_true rfl) (Nat.le_of_ble_eq_true rfl) ?_
        exact ⟨by rw [hbF, if_pos c_94], rfl⟩
  · have e13 : ∀ u v : Nat → Int32, (if X = 1 then u else v) = u := fun u v => if_pos c_13
    refine o_aload_n dX5_hasBy_16 rfl rfl ?_
    refine o_getf (j := 1) dX5_hasBy_17 rfl hcX5 inX5 (Nat.le_of_ble_eq_true rfl) wd687 rfl rfl ?_
    refine o_iload_n dX5_hasBy_20 rfl rfl ?_
    refine o_iconst dX5_hasBy_21 ic_1 ?_
    refine o_callSr (is := []) (ofP1) ⟨rfl, rfl⟩ dX5_hasBy_22 wd783 csX5_ofP rfl ⟨(Nat.le_of_ble_eq_true rfl), (Nat.le_of_ble_eq_true rfl)⟩ rfl rfl rfl (Nat.le_of_ble_eq_true rfl) (Nat.le_of_ble_eq_true rfl) (Nat.le_of_ble_eq_true rfl) ?_
    refine o_aload_n dX5_hasBy_25 rfl rfl ?_
    refine o_getf (j := 0) dX5_hasBy_26 rfl hcX5 inX5 (Nat.le_of_ble_eq_true rfl) wd686 rfl rfl ?_
    refine o_iload_n dX5_hasBy_29 rfl rfl ?_
    refine o_iconst dX5_hasBy_30 ic_0 ?_
    refine o_callSr (is := []) (ofP0) ⟨rfl, rfl⟩ dX5_hasBy_31 wd783 csX5_ofP rfl ⟨(Nat.le_of_ble_eq_true rfl), (Nat.le_of_ble_eq_true rfl)⟩ rfl rfl rfl (Nat.le_of_ble_eq_true rfl) (Nat.le_of_ble_eq_true rfl) (Nat.le_of_ble_eq_true rfl) ?_
    refine o_ialp (i := 50 + 3 * a) dX5_hasBy_34 rfl (rfl) (by omega) ?_
    refine o_iasp (i := 51 + 3 * a) dX5_hasBy_35 rfl (rfl) (by omega) rfl ?_
    refine o_iload dX5_hasBy_36 rfl ?_
    refine o_iconst dX5_hasBy_38 ic_1 ?_
    refine o_icmp_ne (tgt := 64) dX5_hasBy_39 (by decide) (fun c_39 => ?_) (fun c_39 => ?_)
    · have e39 : ∀ u v : Nat → Int32, (if Y = 1 then u else v) = v := fun u v => if_neg c_39
      refine o_eqw (w2 := mW r (hbR r a X b Y) im wa fr hi lt rw rf (nI L) (nI R) pl nu sd) (by unfold hbR; rw [e39, e13]; rfl) ?_
      refine o_aload_n dX5_hasBy_64 rfl rfl ?_
      refine o_aload_n dX5_hasBy_65 rfl rfl ?_
      refine o_getf (j := 1) dX5_hasBy_66 rfl hcX5 inX5 (Nat.le_of_ble_eq_true rfl) wd687 rfl rfl ?_
      refine o_iload dX5_hasBy_69 rfl ?_
      refine o_callVd (is := [0, 1, 2, 3, 4, 5, 6, 7, 8, 9]) (ho_m hm (by omega)) ⟨rfl, rfl⟩ dX5_hasBy_71 wd797 cvX5_hoursOn rfl ⟨(Nat.le_of_ble_eq_true rfl), (Nat.le_of_ble_eq_true rfl)⟩ hcX5 rfl rfl rfl rfl (Nat.le_of_ble_eq_true rfl) (Nat.le_of_ble_eq_true rfl) (Nat.le_of_ble_eq_true rfl) rfl ?_
      refine o_aload_n dX5_hasBy_74 rfl rfl ?_
      refine o_getf (j := 1) dX5_hasBy_75 rfl hcX5 inX5 (Nat.le_of_ble_eq_true rfl) wd687 rfl rfl ?_
      refine o_iload_n dX5_hasBy_78 rfl rfl ?_
      refine o_iconst dX5_hasBy_79 ic_0 ?_
      refine o_callSr (is := []) (ofP0) ⟨rfl, rfl⟩ dX5_hasBy_80 wd783 csX5_ofP rfl ⟨(Nat.le_of_ble_eq_true rfl), (Nat.le_of_ble_eq_true rfl)⟩ rfl rfl rfl (Nat.le_of_ble_eq_true rfl) (Nat.le_of_ble_eq_true rfl) (Nat.le_of_ble_eq_true rfl) ?_
      refine o_ialp (i := 50 + 3 * c) dX5_hasBy_83 rfl (rfl) (by omega) ?_
      refine o_aload_n dX5_hasBy_84 rfl rfl ?_
      refine o_getf (j := 0) dX5_hasBy_85 rfl hcX5 inX5 (Nat.le_of_ble_eq_true rfl) wd686 rfl rfl ?_
      refine o_iload_n dX5_hasBy_88 rfl rfl ?_
      refine o_iconst dX5_hasBy_89 ic_1 ?_
      refine o_callSr (is := []) (ofP1) ⟨rfl, rfl⟩ dX5_hasBy_90 wd783 csX5_ofP rfl ⟨(Nat.le_of_ble_eq_true rfl), (Nat.le_of_ble_eq_true rfl)⟩ rfl rfl rfl (Nat.le_of_ble_eq_true rfl) (Nat.le_of_ble_eq_true rfl) (Nat.le_of_ble_eq_true rfl) ?_
      refine o_ialp (i := 51 + 3 * c) dX5_hasBy_93 rfl (rfl) (by omega) ?_
      refine o_icmp_ne (tgt := 101) dX5_hasBy_94 (by decide) (fun c_94 => ?_) (fun c_94 => ?_)
      · skip
        refine o_aload_n dX5_hasBy_101 rfl rfl ?_
        refine o_getf (j := 1) dX5_hasBy_102 rfl hcX5 inX5 (Nat.le_of_ble_eq_true rfl) wd687 rfl rfl ?_
        refine o_iload_n dX5_hasBy_105 rfl rfl ?_
        refine o_iconst dX5_hasBy_106 ic_2 ?_
        refine o_callSr (is := []) (ofP2) ⟨rfl, rfl⟩ dX5_hasBy_107 wd783 csX5_ofP rfl ⟨(Nat.le_of_ble_eq_true rfl), (Nat.le_of_ble_eq_true rfl)⟩ rfl rfl rfl (Nat.le_of_ble_eq_true rfl) (Nat.le_of_ble_eq_true rfl) (Nat.le_of_ble_eq_true rfl) ?_
        refine o_ialp (i := 52 + 3 * c) dX5_hasBy_110 rfl (rfl) (by omega) ?_
        refine o_iconst dX5_hasBy_111 ic_4 ?_
        refine o_idiv dX5_hasBy_112 (by decide) ?_
        refine o_iret dX5_hasBy_113 rfl (vp_nar_int _) (Nat.le_of_ble_eq_true rfl) (Nat.le_of_ble_eq_true rfl) ?_
        exact ⟨by rw [hbF, if_neg c_94], rfl⟩
      · skip
        refine o_iconst dX5_hasBy_97 ic_3 ?_
        refine o_goto (tgt := 113) dX5_hasBy_98 (by decide) ?_
        refine o_iret dX5_hasBy_113 rfl (vp_nar_int _) (Nat.le_of_ble_eq_true rfl) (Nat.le_of_ble_eq_true rfl) ?_
        exact ⟨by rw [hbF, if_pos c_94], rfl⟩
    · have e39 : ∀ u v : Nat → Int32, (if Y = 1 then u else v) = u := fun u v => if_pos c_39
      refine o_aload_n dX5_hasBy_42 rfl rfl ?_
      refine o_getf (j := 1) dX5_hasBy_43 rfl hcX5 inX5 (Nat.le_of_ble_eq_true rfl) wd687 rfl rfl ?_
      refine o_iload dX5_hasBy_46 rfl ?_
      refine o_iconst dX5_hasBy_48 ic_1 ?_
      refine o_callSr (is := []) (ofP1) ⟨rfl, rfl⟩ dX5_hasBy_49 wd783 csX5_ofP rfl ⟨(Nat.le_of_ble_eq_true rfl), (Nat.le_of_ble_eq_true rfl)⟩ rfl rfl rfl (Nat.le_of_ble_eq_true rfl) (Nat.le_of_ble_eq_true rfl) (Nat.le_of_ble_eq_true rfl) ?_
      refine o_aload_n dX5_hasBy_52 rfl rfl ?_
      refine o_getf (j := 0) dX5_hasBy_53 rfl hcX5 inX5 (Nat.le_of_ble_eq_true rfl) wd686 rfl rfl ?_
      refine o_iload dX5_hasBy_56 rfl ?_
      refine o_iconst dX5_hasBy_58 ic_0 ?_
      refine o_callSr (is := []) (ofP0) ⟨rfl, rfl⟩ dX5_hasBy_59 wd783 csX5_ofP rfl ⟨(Nat.le_of_ble_eq_true rfl), (Nat.le_of_ble_eq_true rfl)⟩ rfl rfl rfl (Nat.le_of_ble_eq_true rfl) (Nat.le_of_ble_eq_true rfl) (Nat.le_of_ble_eq_true rfl) ?_
      refine o_ialp (i := 50 + 3 * b) dX5_hasBy_62 rfl (rfl) (by omega) ?_
      refine o_iasp (i := 51 + 3 * b) dX5_hasBy_63 rfl (rfl) (by omega) rfl ?_
      refine o_eqw (w2 := mW r (hbR r a X b Y) im wa fr hi lt rw rf (nI L) (nI R) pl nu sd) (by unfold hbR; rw [e39, e13]; rfl) ?_
      refine o_aload_n dX5_hasBy_64 rfl rfl ?_
      refine o_aload_n dX5_hasBy_65 rfl rfl ?_
      refine o_getf (j := 1) dX5_hasBy_66 rfl hcX5 inX5 (Nat.le_of_ble_eq_true rfl) wd687 rfl rfl ?_
      refine o_iload dX5_hasBy_69 rfl ?_
      refine o_callVd (is := [0, 1, 2, 3, 4, 5, 6, 7, 8, 9]) (ho_m hm (by omega)) ⟨rfl, rfl⟩ dX5_hasBy_71 wd797 cvX5_hoursOn rfl ⟨(Nat.le_of_ble_eq_true rfl), (Nat.le_of_ble_eq_true rfl)⟩ hcX5 rfl rfl rfl rfl (Nat.le_of_ble_eq_true rfl) (Nat.le_of_ble_eq_true rfl) (Nat.le_of_ble_eq_true rfl) rfl ?_
      refine o_aload_n dX5_hasBy_74 rfl rfl ?_
      refine o_getf (j := 1) dX5_hasBy_75 rfl hcX5 inX5 (Nat.le_of_ble_eq_true rfl) wd687 rfl rfl ?_
      refine o_iload_n dX5_hasBy_78 rfl rfl ?_
      refine o_iconst dX5_hasBy_79 ic_0 ?_
      refine o_callSr (is := []) (ofP0) ⟨rfl, rfl⟩ dX5_hasBy_80 wd783 csX5_ofP rfl ⟨(Nat.le_of_ble_eq_true rfl), (Nat.le_of_ble_eq_true rfl)⟩ rfl rfl rfl (Nat.le_of_ble_eq_true rfl) (Nat.le_of_ble_eq_true rfl) (Nat.le_of_ble_eq_true rfl) ?_
      refine o_ialp (i := 50 + 3 * c) dX5_hasBy_83 rfl (rfl) (by omega) ?_
      refine o_aload_n dX5_hasBy_84 rfl rfl ?_
      refine o_getf (j := 0) dX5_hasBy_85 rfl hcX5 inX5 (Nat.le_of_ble_eq_true rfl) wd686 rfl rfl ?_
      refine o_iload_n dX5_hasBy_88 rfl rfl ?_
      refine o_iconst dX5_hasBy_89 ic_1 ?_
      refine o_callSr (is := []) (ofP1) ⟨rfl, rfl⟩ dX5_hasBy_90 wd783 csX5_ofP rfl ⟨(Nat.le_of_ble_eq_true rfl), (Nat.le_of_ble_eq_true rfl)⟩ rfl rfl rfl (Nat.le_of_ble_eq_true rfl) (Nat.le_of_ble_eq_true rfl) (Nat.le_of_ble_eq_true rfl) ?_
      refine o_ialp (i := 51 + 3 * c) dX5_hasBy_93 rfl (rfl) (by omega) ?_
      refine o_icmp_ne (tgt := 101) dX5_hasBy_94 (by decide) (fun c_94 => ?_) (fun c_94 => ?_)
      · skip
        refine o_aload_n dX5_hasBy_101 rfl rfl ?_
        refine o_getf (j := 1) dX5_hasBy_102 rfl hcX5 inX5 (Nat.le_of_ble_eq_true rfl) wd687 rfl rfl ?_
        refine o_iload_n dX5_hasBy_105 rfl rfl ?_
        refine o_iconst dX5_hasBy_106 ic_2 ?_
        refine o_callSr (is := []) (ofP2) ⟨rfl, rfl⟩ dX5_hasBy_107 wd783 csX5_ofP rfl ⟨(Nat.le_of_ble_eq_true rfl), (Nat.le_of_ble_eq_true rfl)⟩ rfl rfl rfl (Nat.le_of_ble_eq_true rfl) (Nat.le_of_ble_eq_true rfl) (Nat.le_of_ble_eq_true rfl) ?_
        refine o_ialp (i := 52 + 3 * c) dX5_hasBy_110 rfl (rfl) (by omega) ?_
        refine o_iconst dX5_hasBy_111 ic_4 ?_
        refine o_idiv dX5_hasBy_112 (by decide) ?_
        refine o_iret dX5_hasBy_113 rfl (vp_nar_int _) (Nat.le_of_ble_eq_true rfl) (Nat.le_of_ble_eq_true rfl) ?_
        exact ⟨by rw [hbF, if_neg c_94], rfl⟩
      · skip
        refine o_iconst dX5_hasBy_97 ic_3 ?_
        refine o_goto (tgt := 113) dX5_hasBy_98 (by decide) ?_
        refine o_iret dX5_hasBy_113 rfl (vp_nar_int _) (Nat.le_of_ble_eq_true rfl) (Nat.le_of_ble_eq_true rfl) ?_
        exact ⟨by rw [hbF, if_pos c_94], rfl⟩
theorem lX5_two {r im wa lt rw rf nu : Nat → Int32} {hi pl sd : Int32} {L R : Nat} (hS : SOk r) {a b n : Nat} (ha : a < nN r) (hb : b < nN r) (hn : n ≤ 30) : ∀ (q k : Nat) (m fr : Nat → Int32) (x6 x7 : Option Value) (z4 : Int32), k + q = 4 → twS (twT r a b n) q k = twS (twT r a b n) 4 0 → Ok mX5_two none 49 [some (.ref 0), some (.int (nI a)), some (.int (nI b)), some (.int (nI n)), some (.int z4), some (.int (nI k)), x6, x7] [] (mW r m im wa fr hi lt rw rf (nI L) (nI R) pl nu sd) 0 0 (fun v w2 => v = some (.int (twS (twT r a b n) 4 0)) ∧ ∃ m2 fr2, w2 = mW r m2 im wa fr2 hi lt rw rf (nI L) (nI R) pl nu sd) := by
  intro q
  induction q with
  | zero =>
    intro k m fr x6 x7 z4 hk hR
    have hk : k = 4 := by omega
    subst hk
    refine o_iload dX5_two_49 rfl ?_
    refine o_iconst dX5_two_51 ic_4 ?_
    refine o_icmp_ge (tgt := 140) dX5_two_52 (by decide) (fun _ => ?_) (fun c => absurd (by decide) c)
    refine o_bipush dX5_two_140 bp_m9 ?_
    refine o_iret dX5_two_142 rfl (vp_nar_int _) (Nat.le_of_ble_eq_true rfl) (Nat.le_of_ble_eq_true rfl) ?_
    exact ⟨by rw [← hR]; rfl, _, _, rfl⟩
  | succ q ih =>
  intro k m fr x6 x7 z4 hk hR
  refine o_iload dX5_two_49 rfl ?_
  refine o_iconst dX5_two_51 ic_4 ?_
  refine o_icmp_ge (tgt := 140) dX5_two_52 (by decide) (fun c_52 => ?_) (fun c_52 => ?_)
  · exact absurd (geI (b := 4) (by omega) (by omega) c_52) (by omega)
  · skip
    refine o_iload dX5_two_55 rfl ?_
    refine o_iconst dX5_two_57 ic_2 ?_
    refine o_idiv dX5_two_58 (by decide) ?_
    refine o_eqs (by rw [dv2 (by omega)]) ?_
    refine o_istg_6 dX5_two_59 rfl (Nat.le_of_ble_eq_true rfl) ?_
    refine o_iload dX5_two_61 rfl ?_
    refine o_iconst dX5_two_63 ic_2 ?_
    refine o_irem dX5_two_64 (by decide) ?_
    refine o_eqs (by rw [rm2 (by omega)]) ?_
    refine o_istg_7 dX5_two_65 rfl (Nat.le_of_ble_eq_true rfl) ?_
    refine o_aload_n dX5_two_67 rfl rfl ?_
    refine o_iload_n dX5_two_68 rfl rfl ?_
    refine o_iload_n dX5_two_69 rfl rfl ?_
    refine o_iconst dX5_two_70 ic_1 ?_
    refine o_iload dX5_two_71 rfl ?_
    refine o_isub dX5_two_73 ?_
    refine o_eqs (by rw [sub1n (by omega)]) ?_
    refine o_iload_n dX5_two_74 rfl rfl ?_
    refine o_iload dX5_two_75 rfl ?_
    refine o_iload_n dX5_two_77 rfl rfl ?_
    refine o_callVd (w2 := mW r (hrs (hbR r a (nI (1 - k / 2)) b (nI (k % 2))) n) im wa (nF (farOf (hbR r a (nI (1 - k / 2)) b (nI (k % 2))))) hi lt rw rf (nI L) (nI R) pl nu sd) (is := [0, 1, 2, 3, 4, 5, 6, 7, 8, 9]) ((tX5_hasBy (c := a) (a := a) (b := b) (n := n) (X := nI (1 - k / 2)) (Y := nI (k % 2)) hS (by omega) ha hb hn)) ⟨rfl, rfl⟩ dX5_two_78 wd997 cvX5_hasBy rfl ⟨(Nat.le_of_ble_eq_true rfl), (Nat.le_of_ble_eq_true rfl)⟩ hcX5 rfl rfl rfl rfl (Nat.le_of_ble_eq_true rfl) (Nat.le_of_ble_eq_true rfl) (Nat.le_of_ble_eq_true rfl) rfl ?_
    refine o_aload_n dX5_two_81 rfl rfl ?_
    refine o_iload_n dX5_two_82 rfl rfl ?_
    refine o_iload_n dX5_two_83 rfl rfl ?_
    refine o_iload dX5_two_84 rfl ?_
    refine o_iload_n dX5_two_86 rfl rfl ?_
    refine o_iload dX5_two_87 rfl ?_
    refine o_iload_n dX5_two_89 rfl rfl ?_
    refine o_callVd (w2 := mW r (hrs (hbR r a (nI (k / 2)) b (nI (k % 2))) n) im wa (nF (farOf (hbR r a (nI (k / 2)) b (nI (k % 2))))) hi lt rw rf (nI L) (nI R) pl nu sd) (is := [0, 1, 2, 3, 4, 5, 6, 7, 8, 9]) ((tX5_hasBy (c := a) (a := a) (b := b) (n := n) (X := nI (k / 2)) (Y := nI (k % 2)) hS (by omega) ha hb hn)) ⟨rfl, rfl⟩ dX5_two_90 wd997 cvX5_hasBy rfl ⟨(Nat.le_of_ble_eq_true rfl), (Nat.le_of_ble_eq_true rfl)⟩ hcX5 rfl rfl rfl rfl (Nat.le_of_ble_eq_true rfl) (Nat.le_of_ble_eq_true rfl) (Nat.le_of_ble_eq_true rfl) rfl ?_
    refine o_icmp_gt (tgt := 134) dX5_two_93 (by decide) (fun c_93 => ?_) (fun c_93 => ?_)
    · have et : twT r a b n k = false := by unfold twT; rw [decide_eq_true c_93]; rfl
      refine o_inc_5 dX5_two_134 rfl ic_1 (Nat.le_of_ble_eq_true rfl) ?_
      refine o_goto (tgt := 49) dX5_two_137 (by decide) ?_
      exact o_eqa (by rw [nI_1]) rfl (ih (k + 1) _ _ _ _ _ (by omega) (by rw [← hR, twS, et]; rfl))
    · skip
      refine o_aload_n dX5_two_96 rfl rfl ?_
      refine o_iload_n dX5_two_97 rfl rfl ?_
      refine o_iload_n dX5_two_98 rfl rfl ?_
      refine o_iload dX5_two_99 rfl ?_
      refine o_iload_n dX5_two_101 rfl rfl ?_
      refine o_iconst dX5_two_102 ic_1 ?_
      refine o_iload dX5_two_103 rfl ?_
      refine o_isub dX5_two_105 ?_
      refine o_eqs (by rw [sub1n (by omega)]) ?_
      refine o_iload_n dX5_two_106 rfl rfl ?_
      refine o_callVd (w2 := mW r (hrs (hbR r a (nI (k / 2)) b (nI (1 - k % 2))) n) im wa (nF (farOf (hbR r a (nI (k / 2)) b (nI (1 - k % 2))))) hi lt rw rf (nI L) (nI R) pl nu sd) (is := [0, 1, 2, 3, 4, 5, 6, 7, 8, 9]) ((tX5_hasBy (c := b) (a := a) (b := b) (n := n) (X := nI (k / 2)) (Y := nI (1 - k % 2)) hS (by omega) ha hb hn)) ⟨rfl, rfl⟩ dX5_two_107 wd997 cvX5_hasBy rfl ⟨(Nat.le_of_ble_eq_true rfl), (Nat.le_of_ble_eq_true rfl)⟩ hcX5 rfl rfl rfl rfl (Nat.le_of_ble_eq_true rfl) (Nat.le_of_ble_eq_true rfl) (Nat.le_of_ble_eq_true rfl) rfl ?_
      refine o_aload_n dX5_two_110 rfl rfl ?_
      refine o_iload_n dX5_two_111 rfl rfl ?_
      refine o_iload_n dX5_two_112 rfl rfl ?_
      refine o_iload dX5_two_113 rfl ?_
      refine o_iload_n dX5_two_115 rfl rfl ?_
      refine o_iload dX5_two_116 rfl ?_
      refine o_iload_n dX5_two_118 rfl rfl ?_
      refine o_callVd (w2 := mW r (hrs (hbR r a (nI (k / 2)) b (nI (k % 2))) n) im wa (nF (farOf (hbR r a (nI (k / 2)) b (nI (k % 2))))) hi lt rw rf (nI L) (nI R) pl nu sd) (is := [0, 1, 2, 3, 4, 5, 6, 7, 8, 9]) ((tX5_hasBy (c := b) (a := a) (b := b) (n := n) (X := nI (k / 2)) (Y := nI (k % 2)) hS (by omega) ha hb hn)) ⟨rfl, rfl⟩ dX5_two_119 wd997 cvX5_hasBy rfl ⟨(Nat.le_of_ble_eq_true rfl), (Nat.le_of_ble_eq_true rfl)⟩ hcX5 rfl rfl rfl rfl (Nat.le_of_ble_eq_true rfl) (Nat.le_of_ble_eq_true rfl) (Nat.le_of_ble_eq_true rfl) rfl ?_
      refine o_icmp_gt (tgt := 134) dX5_two_122 (by decide) (fun c_122 => ?_) (fun c_122 => ?_)
      · have et : twT r a b n k = false := by unfold twT; rw [decide_eq_true c_122]; simp
        refine o_inc_5 dX5_two_134 rfl ic_1 (Nat.le_of_ble_eq_true rfl) ?_
        refine o_goto (tgt := 49) dX5_two_137 (by decide) ?_
        exact o_eqa (by rw [nI_1]) rfl (ih (k + 1) _ _ _ _ _ (by omega) (by rw [← hR, twS, et]; rfl))
      · have et : twT r a b n k = true := by unfold twT; rw [decide_eq_false c_93, decide_eq_false c_122]; rfl
        refine o_bipush dX5_two_125 bp_10 ?_
        refine o_iload dX5_two_127 rfl ?_
        refine o_imul dX5_two_129 ?_
        refine o_iload dX5_two_130 rfl ?_
        refine o_iadd dX5_two_132 ?_
        refine o_iret dX5_two_133 rfl (vp_nar_int _) (Nat.le_of_ble_eq_true rfl) (Nat.le_of_ble_eq_true rfl) ?_
        exact ⟨by rw [← hR, twS, if_pos et], _, _, rfl⟩
theorem tX5_two {r m im wa fr lt rw rf nu : Nat → Int32} {hi pl sd : Int32} {L R : Nat} (hS : SOk r) {x y n : Int32} : PM mX5_two [.ref 0, .int x, .int y, .int n] (mW r m im wa fr hi lt rw rf (nI L) (nI R) pl nu sd) (MP (s_two x y n (r, im, hi, lt, L, rw, R, rf))) := by
  refine PM.ofp 4 (by decide) (Nat.le_of_ble_eq_true rfl) ?_
  show Ok mX5_two none 0 [some (.ref 0), some (.int x), some (.int y), some (.int n), none, none, none, none] [] (mW r m im wa fr hi lt rw rf (nI L) (nI R) pl nu sd) 0 0 _
  refine o_aload_n dX5_two_0 rfl rfl ?_
  refine o_iload_n dX5_two_1 rfl rfl ?_
  refine o_callVr (is := [0, 1, 2, 3, 4, 5, 6, 7, 8, 9]) (tX5_isPerson hS) ⟨rfl, rfl⟩ dX5_two_2 wd786 cvX5_isPerson rfl ⟨(Nat.le_of_ble_eq_true rfl), (Nat.le_of_ble_eq_true rfl)⟩ hcX5 rfl rfl rfl rfl (Nat.le_of_ble_eq_true rfl) (Nat.le_of_ble_eq_true rfl) (Nat.le_of_ble_eq_true rfl) ?_
  refine o_if_eq (tgt := 31) dX5_two_5 (by decide) (fun c_5 => ?_) (fun c_5 => ?_)
  · have hno : (inR (nN r) x && inR (nN r) y && !decide (x = y)) = false := by rw [bI_0.mp c_5]; rfl
    refine o_iconst dX5_two_31 ic_m1 ?_
    refine o_istg_4 dX5_two_32 rfl (Nat.le_of_ble_eq_true rfl) ?_
    refine o_iload dX5_two_34 rfl ?_
    refine o_if_eq (tgt := 46) dX5_two_36 (by decide) (fun cq => absurd cq (by decide)) (fun _ => ?_)
    refine o_aload_n dX5_two_39 rfl rfl ?_
    refine o_iload dX5_two_40 rfl ?_
    refine o_callVd (is := [0, 1, 2, 3, 4, 5, 6, 7, 8, 9]) (tX5_no (c := 1) rfl (by decide)) ⟨rfl, rfl⟩ dX5_two_42 wd733 cvX5_no rfl ⟨(Nat.le_of_ble_eq_true rfl), (Nat.le_of_ble_eq_true rfl)⟩ hcX5 rfl rfl rfl rfl (Nat.le_of_ble_eq_true rfl) (Nat.le_of_ble_eq_true rfl) (Nat.le_of_ble_eq_true rfl) rfl ?_
    refine o_iret dX5_two_45 rfl (vp_nar_int _) (Nat.le_of_ble_eq_true rfl) (Nat.le_of_ble_eq_true rfl) ?_
    exact MP.mk (σ := (r, im, hi, lt, L, rw, R, rfu rf 1)) (by simp only [s_two, hno]; rfl)
  · obtain ⟨a, ha, rfl⟩ := inR_yes (by have := hS.n6; omega) (bI_ne c_5)
    have h9 := hS.n6
    have hia := inR_nI (D := nN r) (by omega) ha
    have ea := cN_nI (d := a) (by omega)
    refine o_aload_n dX5_two_8 rfl rfl ?_
    refine o_iload_n dX5_two_9 rfl rfl ?_
    refine o_callVr (is := [0, 1, 2, 3, 4, 5, 6, 7, 8, 9]) (tX5_isPerson hS) ⟨rfl, rfl⟩ dX5_two_10 wd786 cvX5_isPerson rfl ⟨(Nat.le_of_ble_eq_true rfl), (Nat.le_of_ble_eq_true rfl)⟩ hcX5 rfl rfl rfl rfl (Nat.le_of_ble_eq_true rfl) (Nat.le_of_ble_eq_true rfl) (Nat.le_of_ble_eq_true rfl) ?_
    refine o_if_eq (tgt := 31) dX5_two_13 (by decide) (fun c_13 => ?_) (fun c_13 => ?_)
    · have hno : (inR (nN r) (nI a) && inR (nN r) y && !decide (nI a = y)) = false := by rw [bI_0.mp c_13]; simp
      refine o_iconst dX5_two_31 ic_m1 ?_
      refine o_istg_4 dX5_two_32 rfl (Nat.le_of_ble_eq_true rfl) ?_
      refine o_iload dX5_two_34 rfl ?_
      refine o_if_eq (tgt := 46) dX5_two_36 (by decide) (fun cq => absurd cq (by decide)) (fun _ => ?_)
      refine o_aload_n dX5_two_39 rfl rfl ?_
      refine o_iload dX5_two_40 rfl ?_
      refine o_callVd (is := [0, 1, 2, 3, 4, 5, 6, 7, 8, 9]) (tX5_no (c := 1) rfl (by decide)) ⟨rfl, rfl⟩ dX5_two_42 wd733 cvX5_no rfl ⟨(Nat.le_of_ble_eq_true rfl), (Nat.le_of_ble_eq_true rfl)⟩ hcX5 rfl rfl rfl rfl (Nat.le_of_ble_eq_true rfl) (Nat.le_of_ble_eq_true rfl) (Nat.le_of_ble_eq_true rfl) rfl ?_
      refine o_iret dX5_two_45 rfl (vp_nar_int _) (Nat.le_of_ble_eq_true rfl) (Nat.le_of_ble_eq_true rfl) ?_
      exact MP.mk (σ := (r, im, hi, lt, L, rw, R, rfu rf 1)) (by simp only [s_two, hno]; rfl)
    · obtain ⟨b, hb, rfl⟩ := inR_yes (by omega) (bI_ne c_13)
      have hib := inR_nI (D := nN r) (by omega) hb
      have eb := cN_nI (d := b) (by omega)
      refine o_iload_n dX5_two_16 rfl rfl ?_
      refine o_iload_n dX5_two_17 rfl rfl ?_
      refine o_icmp_eq (tgt := 31) dX5_two_18 (by decide) (fun c_18 => ?_) (fun c_18 => ?_)
      · have hno : (inR (nN r) (nI a) && inR (nN r) (nI b) && !decide (nI a = nI b)) = false := by rw [decide_eq_true c_18]; simp
        refine o_iconst dX5_two_31 ic_m1 ?_
        refine o_istg_4 dX5_two_32 rfl (Nat.le_of_ble_eq_true rfl) ?_
        refine o_iload dX5_two_34 rfl ?_
        refine o_if_eq (tgt := 46) dX5_two_36 (by decide) (fun cq => absurd cq (by decide)) (fun _ => ?_)
        refine o_aload_n dX5_two_39 rfl rfl ?_
        refine o_iload dX5_two_40 rfl ?_
        refine o_callVd (is := [0, 1, 2, 3, 4, 5, 6, 7, 8, 9]) (tX5_no (c := 1) rfl (by decide)) ⟨rfl, rfl⟩ dX5_two_42 wd733 cvX5_no rfl ⟨(Nat.le_of_ble_eq_true rfl), (Nat.le_of_ble_eq_true rfl)⟩ hcX5 rfl rfl rfl rfl (Nat.le_of_ble_eq_true rfl) (Nat.le_of_ble_eq_true rfl) (Nat.le_of_ble_eq_true rfl) rfl ?_
        refine o_iret dX5_two_45 rfl (vp_nar_int _) (Nat.le_of_ble_eq_true rfl) (Nat.le_of_ble_eq_true rfl) ?_
        exact MP.mk (σ := (r, im, hi, lt, L, rw, R, rfu rf 1)) (by simp only [s_two, hno]; rfl)
      · have hyes : (inR (nN r) (nI a) && inR (nN r) (nI b) && !decide (nI a = nI b)) = true := by rw [hia, hib, decide_eq_false c_18]; rfl
        refine o_iload_n dX5_two_21 rfl rfl ?_
        refine o_iconst dX5_two_22 ic_0 ?_
        refine o_bipush dX5_two_23 bp_30 ?_
        refine o_callSr (is := []) (tX5_wrongBy) ⟨rfl, rfl⟩ dX5_two_25 wd872 csX5_wrongBy rfl ⟨(Nat.le_of_ble_eq_true rfl), (Nat.le_of_ble_eq_true rfl)⟩ rfl rfl rfl (Nat.le_of_ble_eq_true rfl) (Nat.le_of_ble_eq_true rfl) (Nat.le_of_ble_eq_true rfl) ?_
        refine o_wr3 (fun hw => ?_) (fun hw1 hw2 => ?_) (fun hw1 hw2 => ?_)
        · skip
          refine o_goto (tgt := 32) dX5_two_28 (by decide) ?_
          refine o_istg_4 dX5_two_32 rfl (Nat.le_of_ble_eq_true rfl) ?_
          refine o_iload dX5_two_34 rfl ?_
          refine o_if_eq (tgt := 46) dX5_two_36 (by decide) (fun cq => absurd cq (by decide)) (fun _ => ?_)
          refine o_aload_n dX5_two_39 rfl rfl ?_
          refine o_iload dX5_two_40 rfl ?_
          refine o_callVd (is := [0, 1, 2, 3, 4, 5, 6, 7, 8, 9]) (tX5_no (c := 4) rfl (by decide)) ⟨rfl, rfl⟩ dX5_two_42 wd733 cvX5_no rfl ⟨(Nat.le_of_ble_eq_true rfl), (Nat.le_of_ble_eq_true rfl)⟩ hcX5 rfl rfl rfl rfl (Nat.le_of_ble_eq_true rfl) (Nat.le_of_ble_eq_true rfl) (Nat.le_of_ble_eq_true rfl) rfl ?_
          refine o_iret dX5_two_45 rfl (vp_nar_int _) (Nat.le_of_ble_eq_true rfl) (Nat.le_of_ble_eq_true rfl) ?_
          exact MP.mk (σ := (r, im, hi, lt, L, rw, R, rfu rf 4)) (by simp only [s_two, hyes, if_true, wrB, if_pos hw]; rfl)
        · skip
          refine o_goto (tgt := 32) dX5_two_28 (by decide) ?_
          refine o_istg_4 dX5_two_32 rfl (Nat.le_of_ble_eq_true rfl) ?_
          refine o_iload dX5_two_34 rfl ?_
          refine o_if_eq (tgt := 46) dX5_two_36 (by decide) (fun cq => absurd cq (by decide)) (fun _ => ?_)
          refine o_aload_n dX5_two_39 rfl rfl ?_
          refine o_iload dX5_two_40 rfl ?_
          refine o_callVd (is := [0, 1, 2, 3, 4, 5, 6, 7, 8, 9]) (tX5_no (c := 6) rfl (by decide)) ⟨rfl, rfl⟩ dX5_two_42 wd733 cvX5_no rfl ⟨(Nat.le_of_ble_eq_true rfl), (Nat.le_of_ble_eq_true rfl)⟩ hcX5 rfl rfl rfl rfl (Nat.le_of_ble_eq_true rfl) (Nat.le_of_ble_eq_true rfl) (Nat.le_of_ble_eq_true rfl) rfl ?_
          refine o_iret dX5_two_45 rfl (vp_nar_int _) (Nat.le_of_ble_eq_true rfl) (Nat.le_of_ble_eq_true rfl) ?_
          exact MP.mk (σ := (r, im, hi, lt, L, rw, R, rfu rf 6)) (by simp only [s_two, hyes, if_true, wrB, if_neg hw1, show nI 30 < n from hw2, if_true]; rfl)
        · obtain ⟨q, hq, rfl⟩ := rng (b := 30) (by omega) hw1 hw2
          have eq := cN_nI (d := q) (by omega)
          refine o_goto (tgt := 32) dX5_two_28 (by decide) ?_
          refine o_istg_4 dX5_two_32 rfl (Nat.le_of_ble_eq_true rfl) ?_
          refine o_iload dX5_two_34 rfl ?_
          refine o_if_eq (tgt := 46) dX5_two_36 (by decide) (fun _ => ?_) (fun cq => absurd (by decide) cq)
          refine o_iconst dX5_two_46 ic_0 ?_
          refine o_istg_5 dX5_two_47 rfl (Nat.le_of_ble_eq_true rfl) ?_
          exact o_post (fun a w2 h => by obtain ⟨rfl, m2, fr2, rfl⟩ := h; exact MP.mk (σ := (r, im, hi, lt, L, rw, R, rf)) (by simp only [s_two, hyes, if_true, wrB, if_neg hw1, show ¬ nI 30 < nI q from hw2, if_false, eq, ea, eb])) (o_eqa (by rw [nI_0]) rfl (lX5_two (a := a) (b := b) (n := q) hS ha hb hq 4 0 m fr _ _ _ (by omega) rfl))
def gcdE : Nat → Int64 → Int64 → Prop
  | 0, _, b => b = 0
  | q + 1, a, b => b = 0 ∨ gcdE q b (a - a / b * b)
def partM (a b : Int64) (p : Int32) : Int64 := if a = 0 then p.toInt64 else (if p = 0 then a else b) / gcdS 200 a b
theorem lX5_gcd {a0 b0 G : Int64} : ∀ (q : Nat) (a b : Int64) (x8 x9 : Option Value), gcdE q a b → gcdS q a b = G → Ok mX5_gcd none 6 [some (.long a0), none, some (.long b0), none, some (.long a), none, some (.long b), none, x8, x9] [] ([]) 0 0 (fun r2 w2 => r2 = some (.long G) ∧ w2 = []) := by
  intro q
  induction q with
  | zero =>
    intro a b x8 x9 hE hG
    have hb : b = 0 := hE
    refine o_lload dX5_gcd_6 rfl ?_
    refine o_lconst dX5_gcd_8 lc_0 ?_
    refine o_lcmp dX5_gcd_9 ?_
    refine o_if_eq (tgt := 31) dX5_gcd_10 (by decide) (fun _ => ?_) (fun c => absurd ((lg_cmp_eq _ _).mpr hb) c)
    refine o_lload dX5_gcd_31 rfl ?_
    refine o_lret dX5_gcd_33 rfl (Nat.le_of_ble_eq_true rfl) (Nat.le_of_ble_eq_true rfl) ?_
    exact ⟨by rw [← hG]; rfl, rfl⟩
  | succ q ih =>
  intro a b x8 x9 hE hG
  refine o_lload dX5_gcd_6 rfl ?_
  refine o_lconst dX5_gcd_8 lc_0 ?_
  refine o_lcmp dX5_gcd_9 ?_
  refine o_if_eq (tgt := 31) dX5_gcd_10 (by decide) (fun c_10 => ?_) (fun c_10 => ?_)
  · skip
    refine o_lload dX5_gcd_31 rfl ?_
    refine o_lret dX5_gcd_33 rfl (Nat.le_of_ble_eq_true rfl) (Nat.le_of_ble_eq_true rfl) ?_
    exact ⟨by rw [← hG, gcdS, if_pos ((lg_cmp_eq _ _).mp c_10)], rfl⟩
  · skip
    refine o_lload dX5_gcd_13 rfl ?_
    refine o_lload dX5_gcd_15 rfl ?_
    refine o_lrem dX5_gcd_17 (fun e => c_10 ((lg_cmp_eq _ _).mpr e)) ?_
    refine o_lstg_8 dX5_gcd_18 rfl (Nat.le_of_ble_eq_true rfl) ?_
    refine o_lload dX5_gcd_20 rfl ?_
    refine o_lstg_4 dX5_gcd_22 rfl (Nat.le_of_ble_eq_true rfl) ?_
    refine o_lload dX5_gcd_24 rfl ?_
    refine o_lstg_6 dX5_gcd_26 rfl (Nat.le_of_ble_eq_true rfl) ?_
    refine o_goto (tgt := 6) dX5_gcd_28 (by decide) ?_
    exact ih b (a - a / b * b) _ _ (hE.resolve_left (fun e => c_10 ((lg_cmp_eq _ _).mpr e))) (by rw [← hG, gcdS, if_neg (fun e => c_10 ((lg_cmp_eq _ _).mpr e))])
theorem tX5_gcd {a b : Int64} (hE : gcdE 200 a b) : PD mX5_gcd [.long a, .long b] ([]) (some (.long (gcdS 200 a b))) ([]) := by
  refine PM.ofp 6 (by decide) (Nat.le_of_ble_eq_true rfl) ?_
  show Ok mX5_gcd none 0 [some (.long a), none, some (.long b), none, none, none, none, none, none, none] [] ([]) 0 0 _
  refine o_lload_n dX5_gcd_0 rfl rfl ?_
  refine o_lstg_4 dX5_gcd_1 rfl (Nat.le_of_ble_eq_true rfl) ?_
  refine o_lload_n dX5_gcd_3 rfl rfl ?_
  refine o_lstg_6 dX5_gcd_4 rfl (Nat.le_of_ble_eq_true rfl) ?_
  exact lX5_gcd 200 a b _ _ hE rfl
theorem tX5_partOf {a b : Int64} {p : Int32} (hE : gcdE 200 a b) (hz : a ≠ 0 → gcdS 200 a b ≠ 0) : PD mX5_partOf [.long a, .long b, .int p] ([]) (some (.long (partM a b p))) ([]) := by
  refine PM.ofp 0 (by decide) (Nat.le_of_ble_eq_true rfl) ?_
  show Ok mX5_partOf none 0 [some (.long a), none, some (.long b), none, some (.int p)] [] ([]) 0 0 _
  refine o_lload_n dX5_partOf_0 rfl rfl ?_
  refine o_lconst dX5_partOf_1 lc_0 ?_
  refine o_lcmp dX5_partOf_2 ?_
  refine o_if_ne (tgt := 10) dX5_partOf_3 (by decide) (fun c_3 => ?_) (fun c_3 => ?_)
  · have ha : a ≠ 0 := fun e => c_3 ((lg_cmp_eq _ _).mpr e)
    refine o_iload dX5_partOf_10 rfl ?_
    refine o_if_ne (tgt := 19) dX5_partOf_12 (by decide) (fun c_12 => ?_) (fun c_12 => ?_)
    · skip
      refine o_lload_n dX5_partOf_19 rfl rfl ?_
      refine o_lload_n dX5_partOf_20 rfl rfl ?_
      refine o_lload_n dX5_partOf_21 rfl rfl ?_
      refine o_callSr (is := []) (tX5_gcd hE) ⟨rfl, rfl⟩ dX5_partOf_22 wd1017 csX5_gcd rfl ⟨(Nat.le_of_ble_eq_true rfl), (Nat.le_of_ble_eq_true rfl)⟩ rfl rfl rfl (Nat.le_of_ble_eq_true rfl) (Nat.le_of_ble_eq_true rfl) (Nat.le_of_ble_eq_true rfl) ?_
      refine o_ldiv dX5_partOf_25 (hz ha) ?_
      refine o_lret dX5_partOf_26 rfl (Nat.le_of_ble_eq_true rfl) (Nat.le_of_ble_eq_true rfl) ?_
      exact ⟨by rw [partM, if_neg ha, if_neg c_12], rfl⟩
    · skip
      refine o_lload_n dX5_partOf_15 rfl rfl ?_
      refine o_goto (tgt := 20) dX5_partOf_16 (by decide) ?_
      refine o_lload_n dX5_partOf_20 rfl rfl ?_
      refine o_lload_n dX5_partOf_21 rfl rfl ?_
      refine o_callSr (is := []) (tX5_gcd hE) ⟨rfl, rfl⟩ dX5_partOf_22 wd1017 csX5_gcd rfl ⟨(Nat.le_of_ble_eq_true rfl), (Nat.le_of_ble_eq_true rfl)⟩ rfl rfl rfl (Nat.le_of_ble_eq_true rfl) (Nat.le_of_ble_eq_true rfl) (Nat.le_of_ble_eq_true rfl) ?_
      refine o_ldiv dX5_partOf_25 (hz ha) ?_
      refine o_lret dX5_partOf_26 rfl (Nat.le_of_ble_eq_true rfl) (Nat.le_of_ble_eq_true rfl) ?_
      exact ⟨by rw [partM, if_neg ha, if_pos c_12], rfl⟩
  · have ha : a = 0 := (lg_cmp_eq _ _).mp c_3
    refine o_iload dX5_partOf_6 rfl ?_
    refine o_i2l dX5_partOf_8 ?_
    refine o_lret dX5_partOf_9 rfl (Nat.le_of_ble_eq_true rfl) (Nat.le_of_ble_eq_true rfl) ?_
    exact ⟨by rw [partM, if_pos ha], rfl⟩
def s_mean (p : Int32) (σ : St) : Res := if inR 2 p then (some (.long (partM (moodS σ.1 (nN σ.1)).toInt64 (nI (nN σ.1)).toInt64 p)), σ) else noL σ 2
theorem gcd_lN : ∀ (q f a b : Nat), b < 2 ^ q → 2 * q < f → a < 2 ^ 62 → b < 2 ^ 62 → gcdE f (lN a) (lN b) ∧ gcdS f (lN a) (lN b) = lN (Nat.gcd a b)
  | q, 0, a, b, _, hf, _, _ => by omega
  | 0, f + 1, a, b, hb, _, ha, _ => by
    have : b = 0 := by simpa using hb
    subst this
    exact ⟨Or.inl rfl, by rw [gcdS, if_pos (show lN 0 = 0 from rfl), Nat.gcd_zero_right]⟩
  | q + 1, f + 1, a, b, hb, hf, ha, hb2 => by
    by_cases h0 : b = 0
    · subst h0
      exact ⟨Or.inl rfl, by rw [gcdS, if_pos (show lN 0 = 0 from rfl), Nat.gcd_zero_right]⟩
    · have hn : ¬ lN b = 0 := fun e => h0 ((pk_lEQ (b := 0) (by omega) (by omega)).mp e)
      have e1 : lN a - lN a / lN b * lN b = lN (a % b) := pk_lRem (by omega) (by omega) (by omega)
      have hc : a % b < b := Nat.mod_lt _ (by omega)
      match f, hf with
      | 0, hf => omega
      | f + 1, hf =>
        by_cases h1 : a % b = 0
        · refine ⟨Or.inr ?_, ?_⟩
          · rw [e1, h1]; exact Or.inl rfl
          · rw [gcdS, if_neg hn, e1, h1, gcdS, if_pos (show lN 0 = 0 from rfl), Nat.gcd_comm, Nat.gcd_rec, h1, Nat.gcd_zero_left]
        · have hn1 : ¬ lN (a % b) = 0 := fun e => h1 ((pk_lEQ (b := 0) (by omega) (by omega)).mp e)
          have e2 : lN b - lN b / lN (a % b) * lN (a % b) = lN (b % (a % b)) := pk_lRem (by omega) (by omega) (by omega)
          have hlt : b % (a % b) < 2 ^ q := by
            have k1 : b % (a % b) < a % b := Nat.mod_lt _ (by omega)
            have k2 : b % (a % b) + a % b ≤ b := by
              have := Nat.mod_add_div b (a % b)
              have k3 : 1 ≤ b / (a % b) := Nat.div_pos (by omega) (by omega)
              have k4 : (a % b) * 1 ≤ (a % b) * (b / (a % b)) := Nat.mul_le_mul_left _ k3
              omega
            have : 2 ^ (q + 1) = 2 * 2 ^ q := by rw [Nat.pow_succ, Nat.mul_comm]
            omega
          have k5 : b % (a % b) ≤ b := Nat.mod_le _ _
          have ih := gcd_lN q f (a % b) (b % (a % b)) hlt (by omega) (by omega) (by omega)
          refine ⟨Or.inr ?_, ?_⟩
          · rw [e1]; exact Or.inr (by rw [e2]; exact ih.1)
          · rw [gcdS, if_neg hn, e1, gcdS, if_neg hn1, e2, ih.2]
            congr 1
            rw [Nat.gcd_comm a b, Nat.gcd_rec b a, Nat.gcd_rec (a % b) b]
            exact Nat.gcd_comm _ _
theorem gcd_ok {a b : Nat} (ha : a < 2 ^ 62) (hb : b < 2 ^ 40) (h : a ≠ 0 ∨ b ≠ 0) : gcdE 200 (lN a) (lN b) ∧ gcdS 200 (lN a) (lN b) = lN (Nat.gcd a b) ∧ gcdS 200 (lN a) (lN b) ≠ 0 := by
  obtain ⟨h1, h2⟩ := gcd_lN 40 200 a b hb (by omega) ha (by omega)
  refine ⟨h1, h2, ?_⟩
  rw [h2]
  have h3 : 0 < Nat.gcd a b := Nat.pos_of_ne_zero (fun e => by
    have h4 := Nat.gcd_eq_zero_iff.mp e
    omega)
  have h5 : Nat.gcd a b < 2 ^ 62 := by
    rcases h with h | h
    · exact Nat.lt_of_le_of_lt (Nat.gcd_le_left b (by omega)) ha
    · exact Nat.lt_of_le_of_lt (Nat.gcd_le_right a (by omega)) (by omega)
  exact fun e => absurd ((pk_lEQ (b := 0) (by omega) (by omega)).mp e) (by omega)
theorem moodS_n {r : Nat → Int32} (h : ∀ p, p < nN r → FgI (r (52 + 3 * p))) : ∀ k, k ≤ nN r → ∃ v, v ≤ 9 * k ∧ moodS r k = nI v
  | 0, _ => ⟨0, Nat.le_refl _, rfl⟩
  | k + 1, hk => by
    obtain ⟨v, h1, h2⟩ := moodS_n h k (by omega)
    obtain ⟨u, h3, h4⟩ := h k (by omega)
    exact ⟨v + u, by omega, by rw [moodS, h2, h4, nI_add]⟩
theorem tX5_mean {r m im wa fr lt rw rf nu : Nat → Int32} {hi pl sd : Int32} {L R : Nat} (hS : SOk r) {x : Int32} : PM mX5_mean [.ref 0, .int x] (mW r m im wa fr hi lt rw rf (nI L) (nI R) pl nu sd) (MP (s_mean x (r, im, hi, lt, L, rw, R, rf))) := by
  refine PM.ofp 0 (by decide) (Nat.le_of_ble_eq_true rfl) ?_
  show Ok mX5_mean none 0 [some (.ref 0), some (.int x)] [] (mW r m im wa fr hi lt rw rf (nI L) (nI R) pl nu sd) 0 0 _
  have h6 := hS.n6
  obtain ⟨v, hv, ev⟩ := moodS_n hS.2.2.2.2.1 (nN r) (Nat.le_refl _)
  have e1 : (moodS r (nN r)).toInt64 = lN v := by rw [ev]; exact nI_l (by omega)
  have e2 : (nI (nN r)).toInt64 = lN (nN r) := nI_l (by omega)
  have hg : (moodS r (nN r)).toInt64 ≠ 0 → gcdS 200 (moodS r (nN r)).toInt64 (nI (nN r)).toInt64 ≠ 0 := by
    rw [e1, e2]
    exact fun h => (gcd_ok (by omega) (by omega) (Or.inl (fun e => h (by rw [e]; rfl)))).2.2
  have hE : gcdE 200 (moodS r (nN r)).toInt64 (nI (nN r)).toInt64 := by
    rw [e1, e2]
    exact (gcd_lN 40 200 v (nN r) (by omega) (by omega) (by omega) (by omega)).1
  refine o_iload_n dX5_mean_0 rfl rfl ?_
  refine o_iconst dX5_mean_1 ic_0 ?_
  refine o_iconst dX5_mean_2 ic_1 ?_
  refine o_callSr (is := []) (tX5_isIn) ⟨rfl, rfl⟩ dX5_mean_3 wd760 csX5_isIn rfl ⟨(Nat.le_of_ble_eq_true rfl), (Nat.le_of_ble_eq_true rfl)⟩ rfl rfl rfl (Nat.le_of_ble_eq_true rfl) (Nat.le_of_ble_eq_true rfl) (Nat.le_of_ble_eq_true rfl) ?_
  refine o_if_eq (tgt := 28) dX5_mean_6 (by decide) (fun c_6 => ?_) (fun c_6 => ?_)
  · have hx : inR 2 x = false := by rw [← isInB_eq 1 (by omega)]; exact bI_0.mp c_6
    refine o_aload_n dX5_mean_28 rfl rfl ?_
    refine o_bipush dX5_mean_29 bp_m2 ?_
    refine o_callVd (is := [0, 1, 2, 3, 4, 5, 6, 7, 8, 9]) (tX5_noWide (c := 2) rfl (by decide)) ⟨rfl, rfl⟩ dX5_mean_31 wd1005 cvX5_noWide rfl ⟨(Nat.le_of_ble_eq_true rfl), (Nat.le_of_ble_eq_true rfl)⟩ hcX5 rfl rfl rfl rfl (Nat.le_of_ble_eq_true rfl) (Nat.le_of_ble_eq_true rfl) (Nat.le_of_ble_eq_true rfl) rfl ?_
    refine o_lret dX5_mean_34 rfl (Nat.le_of_ble_eq_true rfl) (Nat.le_of_ble_eq_true rfl) ?_
    exact MP.mk (σ := (r, im, hi, lt, L, rw, R, rfu rf 2)) (by simp only [s_mean, hx]; rfl)
  · have hx : inR 2 x = true := by rw [← isInB_eq 1 (by omega)]; exact bI_ne c_6
    refine o_aload_n dX5_mean_9 rfl rfl ?_
    refine o_callVr (is := [0, 1, 2, 3, 4, 5, 6, 7, 8, 9]) (tX5_allMoods hS) ⟨rfl, rfl⟩ dX5_mean_10 wd1024 cvX5_allMoods rfl ⟨(Nat.le_of_ble_eq_true rfl), (Nat.le_of_ble_eq_true rfl)⟩ hcX5 rfl rfl rfl rfl (Nat.le_of_ble_eq_true rfl) (Nat.le_of_ble_eq_true rfl) (Nat.le_of_ble_eq_true rfl) ?_
    refine o_i2l dX5_mean_13 ?_
    refine o_aload_n dX5_mean_14 rfl rfl ?_
    refine o_getf (j := 0) dX5_mean_15 rfl hcX5 inX5 (Nat.le_of_ble_eq_true rfl) wd686 rfl rfl ?_
    refine o_iconst dX5_mean_18 ic_1 ?_
    refine o_ialp (i := 1) dX5_mean_19 rfl (rfl) (by decide) ?_
    refine o_eqs (by rw [hS.e1]) ?_
    refine o_i2l dX5_mean_20 ?_
    refine o_iload_n dX5_mean_21 rfl rfl ?_
    refine o_callSr (is := []) (tX5_partOf hE hg) ⟨rfl, rfl⟩ dX5_mean_22 wd1014 csX5_partOf rfl ⟨(Nat.le_of_ble_eq_true rfl), (Nat.le_of_ble_eq_true rfl)⟩ rfl rfl rfl (Nat.le_of_ble_eq_true rfl) (Nat.le_of_ble_eq_true rfl) (Nat.le_of_ble_eq_true rfl) ?_
    refine o_goto (tgt := 34) dX5_mean_25 (by decide) ?_
    refine o_lret dX5_mean_34 rfl (Nat.le_of_ble_eq_true rfl) (Nat.le_of_ble_eq_true rfl) ?_
    exact MP.mk (σ := (r, im, hi, lt, L, rw, R, rf)) (by simp only [s_mean, hx, if_true])
