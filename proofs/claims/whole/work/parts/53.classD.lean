def tsV (T : Nat) : Option Nat → Int32
  | none => nI T
  | some s => -2000 - nI s
theorem dn_96 {lt : Nat → Int32} {L s : Nat} {r : Nat → Int32} (hL : L ≤ 96) (hg : gdB lt L s = true) (hs : s < L) : dnS (hrF lt L s) (nuV lt L s) r = dnS (lt s) (nuV lt 96 s) r ∧ s + lenC (lt s) ≤ L := by
  have hc : hrF lt L s = lt s := hrF_lt hs
  have hin := gd_in hg
  obtain ⟨g1, g2⟩ := gd_len hg
  rw [hc] at hin g2
  have hle : s + lenC (lt s) ≤ L := by
    have h1 := lenC_ne1 (lt s)
    have := hin (lenC (lt s) - 1) (by omega) (by omega)
    omega
  refine ⟨?_, hle⟩
  rw [hc]
  refine dnS_congr (fun j hj => ?_)
  have hr : ∀ k, 1 ≤ k → k < lenC (lt s) → hrF lt L (s + k) = hrF lt 96 (s + k) := fun k h1 h2 => by
    rw [hrF_lt (hin k h1 h2), hrF_lt (by have := hin k h1 h2; omega)]
  have hc2 : hrF lt 96 s = lt s := hrF_lt (by omega)
  rw [nuV, nuV, hc, hc2]
  by_cases c1 : lt s = 100
  · rw [if_pos c1, if_pos c1]
    rw [c1] at hj hr
    have hj : j < 4 := hj
    have e0 : hrF lt L (s + 1) = hrF lt 96 (s + 1) := hr 1 (by omega) (by decide)
    rw [e0]
    by_cases z : j = 0
    · rw [if_pos z, if_pos z]
    · rw [if_neg z, if_neg z, Nat.add_assoc, hr (1 + j) (by omega) (show 1 + j < 6 by omega)]
  · rw [if_neg c1, if_neg c1]
    by_cases c2 : lt s = 104
    · rw [if_pos c2, if_pos c2]
      rw [c2] at hr
      rw [hr 1 (by omega) (by decide), hr 2 (by omega) (by decide)]
    · rw [if_neg c2, if_neg c2, Nat.add_assoc, hr (1 + j) (by omega) ?_]
      revert hj g2 c1 c2
      unfold cntC lenC
      intro g2 hj c1 c2
      rw [if_neg c1] at hj g2 ⊢
      by_cases c3 : lt s = 112
      · rw [if_pos c3] at hj ⊢; omega
      · rw [if_neg c3] at hj g2 ⊢
        by_cases c4 : lt s = 103 ∨ lt s = 114
        · rw [if_pos c4] at hj
          rw [if_pos (by rcases c4 with c | c; exact Or.inl c; exact Or.inr (Or.inl c))]; omega
        · rw [if_neg c4] at hj
          rw [if_neg (by rintro (c | c | c); exact c4 (Or.inl c); exact c4 (Or.inr c); exact c2 c)] at g2 ⊢
          by_cases c5 : lt s = 119 ∨ lt s = 116
          · rw [if_pos c5]; omega
          · rw [if_neg c5] at g2; omega
theorem mx1 {l : Nat} (h : 0 < l) (h2 : l ≤ 6) : (if (1 : Int32) < nI l then nI l else 1) = nI l := by
  match l, h, h2 with
  | 1, _, _ => decide
  | 2, _, _ => decide
  | 3, _, _ => decide
  | 4, _, _ => decide
  | 5, _, _ => decide
  | 6, _, _ => decide
theorem lX4_tellStatements {r im lt rw rf ga : Nat → Int32} {hi : Int32} {L R : Nat} (hS : SOk r) {T : Nat} (hL : L ≤ 96) : ∀ (q s n : Nat) (m : Nat → Int32), SOk m → L - s < q → s ≤ 102 → (s < L → ∃ q2, L - s < q2 ∧ shQ lt L q2 s n = (none, T)) → (¬ s < L → n = T) → Ok mX4_tellStatements none 15 [some (.ref 0), some (.int (nI n)), some (.int (nI s))] [] (xW r (wsO r) (fsO r) m (wsO m) (fsO m) im (wsO im) (fsO im) lt rw rf ga hi (nI L) (nI R)) 0 0 (fun a w => a = some (.int (tsV T (dnQ lt L q s m).1)) ∧ ∃ m2 mw2 mf2, w = xW (dnW r (dnQ lt L q s m)) (wsO (dnW r (dnQ lt L q s m))) (fsO (dnW r (dnQ lt L q s m))) m2 mw2 mf2 im (wsO im) (fsO im) lt rw rf ga hi (nI L) (nI R)) := by
  intro q
  induction q with
  | zero => intro s n m hM hq; omega
  | succ q ih =>
  intro s n m hM hq hs hG hT
  rw [dnQ]
  refine o_iload_n dX4_tellStatements_15 rfl rfl ?_
  refine o_aload_n dX4_tellStatements_16 rfl rfl ?_
  refine o_getf (j := 4) dX4_tellStatements_17 rfl hcX4 inX4 (Nat.le_of_ble_eq_true rfl) wd208 rfl rfl ?_
  refine o_getf (j := 0) dX4_tellStatements_20 rfl hcX1 inX1 (Nat.le_of_ble_eq_true rfl) wd198 rfl rfl ?_
  refine o_getf (j := 1) dX4_tellStatements_23 rfl hcX2 inX2 (Nat.le_of_ble_eq_true rfl) wd191 rfl rfl ?_
  refine o_icmp_ge (tgt := 71) dX4_tellStatements_26 (by decide) (fun c_26 => ?_) (fun c_26 => ?_)
  · have hge : ¬ s < L := Nat.not_lt.mpr (geI (by omega) (by omega) c_26)
    rw [if_neg hge]
    refine o_aload_n dX4_tellStatements_71 rfl rfl ?_
    refine o_getf (j := 0) dX4_tellStatements_72 rfl hcX4 inX4 (Nat.le_of_ble_eq_true rfl) wd204 rfl rfl ?_
    refine o_aload_n dX4_tellStatements_75 rfl rfl ?_
    refine o_getf (j := 1) dX4_tellStatements_76 rfl hcX4 inX4 (Nat.le_of_ble_eq_true rfl) wd205 rfl rfl ?_
    refine o_callVd (w2 := xW m (wsO m) (fsO m) m (wsO m) (fsO m) im (wsO im) (fsO im) lt rw rf ga hi (nI L) (nI R)) (is := [2, 3, 4, 5, 6, 7, 8, 9, 10, 11, 12, 13, 14, 15, 16, 17, 18, 19, 20, 21, 22, 23, 24, 25]) (tX3_become) ⟨rfl, rfl⟩ dX4_tellStatements_79 wd273 cvX3_become rfl ⟨(Nat.le_of_ble_eq_true rfl), (Nat.le_of_ble_eq_true rfl)⟩ hcX3 rfl rfl rfl rfl (Nat.le_of_ble_eq_true rfl) (Nat.le_of_ble_eq_true rfl) (Nat.le_of_ble_eq_true rfl) (pb_seg 2 (Nat.le_of_ble_eq_true rfl) rfl rfl rfl) ?_
    refine o_iload_n dX4_tellStatements_82 rfl rfl ?_
    refine o_iret dX4_tellStatements_83 rfl (vp_nar_int _) (Nat.le_of_ble_eq_true rfl) (Nat.le_of_ble_eq_true rfl) ?_
    exact ⟨by rw [hT hge]; rfl, _, _, _, rfl⟩
  · have hlt : s < L := ltI (by omega) (by omega) c_26
    rw [if_pos hlt]
    obtain ⟨q2, hq2, hG2⟩ := hG hlt
    match q2, hq2, hG2 with
    | 0, hq2, _ => omega
    | q2 + 1, hq2, hG2 =>
    rw [shQ] at hG2
    have hb : gdB lt L s = true := by
      cases hb : gdB lt L s with
      | true => rfl
      | false => rw [hb] at hG2; simp at hG2
    rw [if_pos hb] at hG2
    obtain ⟨hl1, hl2⟩ := gd_len hb
    obtain ⟨hd1, hd2⟩ := dn_96 (r := m) hL hb hlt
    have hok : ∀ r2, dnS (lt s) (nuV lt 96 s) m = some r2 → SOk r2 := fun r2 h => dn_ok hM hb (hd1.trans h)
    have hc : hrF lt L s = lt s := hrF_lt hlt
    have hl6 := lenC_le (lt s)
    rw [hd1]
    rw [hc] at hl2 hG2 ⊢
    refine o_aload_n dX4_tellStatements_29 rfl rfl ?_
    refine o_getf (j := 4) dX4_tellStatements_30 rfl hcX4 inX4 (Nat.le_of_ble_eq_true rfl) wd208 rfl rfl ?_
    refine o_iload_n dX4_tellStatements_33 rfl rfl ?_
    refine o_aload_n dX4_tellStatements_34 rfl rfl ?_
    refine o_getf (j := 1) dX4_tellStatements_35 rfl hcX4 inX4 (Nat.le_of_ble_eq_true rfl) wd205 rfl rfl ?_
    refine o_callVd (w2 := xW r (wsO r) (fsO r) ((dnS (lt s) (nuV lt 96 s) m).getD m) (wsO ((dnS (lt s) (nuV lt 96 s) m).getD m)) (fsO ((dnS (lt s) (nuV lt 96 s) m).getD m)) im (wsO im) (fsO im) lt rw rf ga hi (nI L) (nI R)) (is := [29, 30, 31, 14, 15, 16, 17, 18, 19, 20, 21, 22, 23, 24, 25]) (tX1_tell hM (by omega) hl2 hok) ⟨rfl, rfl⟩ dX4_tellStatements_38 wd291 cvX1_tell rfl ⟨(Nat.le_of_ble_eq_true rfl), (Nat.le_of_ble_eq_true rfl)⟩ hcX1 rfl rfl rfl rfl (Nat.le_of_ble_eq_true rfl) (Nat.le_of_ble_eq_true rfl) (Nat.le_of_ble_eq_true rfl) (pb_two (w1 := xW r (wsO r) (fsO r) m (wsO m) (fsO m) im (wsO im) (fsO im) lt rw rf ga hi (nI L) (nI R)) 3 29 14 12 rfl rfl (Nat.le_of_ble_eq_true rfl) rfl rfl rfl (Nat.le_of_ble_eq_true rfl) rfl rfl rfl) ?_
    refine o_if_ne (tgt := 50) dX4_tellStatements_41 (by decide) (fun c_41 => ?_) (fun c_41 => ?_)
    · have hn := bI_ne c_41
      obtain ⟨r2, hr2⟩ := Option.isSome_iff_exists.mp hn
      rw [hr2]
      refine o_eqw (w2 := xW r (wsO r) (fsO r) r2 (wsO r2) (fsO r2) im (wsO im) (fsO im) lt rw rf ga hi (nI L) (nI R)) rfl ?_
      refine o_inc_1 dX4_tellStatements_50 rfl ic_1 (Nat.le_of_ble_eq_true rfl) ?_
      refine o_iload_n dX4_tellStatements_53 rfl rfl ?_
      refine o_iconst dX4_tellStatements_54 ic_1 ?_
      refine o_aload_n dX4_tellStatements_55 rfl rfl ?_
      refine o_getf (j := 4) dX4_tellStatements_56 rfl hcX4 inX4 (Nat.le_of_ble_eq_true rfl) wd208 rfl rfl ?_
      refine o_iload_n dX4_tellStatements_59 rfl rfl ?_
      refine o_callVr (is := [29, 30, 31]) (tX1_lengthAt (by omega)) ⟨rfl, rfl⟩ dX4_tellStatements_60 wd369 cvX1_lengthAt rfl ⟨(Nat.le_of_ble_eq_true rfl), (Nat.le_of_ble_eq_true rfl)⟩ hcX1 rfl rfl rfl rfl (Nat.le_of_ble_eq_true rfl) (Nat.le_of_ble_eq_true rfl) (Nat.le_of_ble_eq_true rfl) ?_
      refine o_mmax dX4_tellStatements_63 wd370 wd184 wd60 wd185 (Nat.le_of_ble_eq_true rfl) (Nat.le_of_ble_eq_true rfl) (Nat.le_of_ble_eq_true rfl) (Nat.le_of_ble_eq_true rfl) ?_
      refine o_eqs (by rw [mx1 hl2 hl6]) ?_
      refine o_iadd dX4_tellStatements_66 ?_
      refine o_eqs (by rw [nI_add]) ?_
      refine o_istn_2 dX4_tellStatements_67 rfl rfl (Nat.le_of_ble_eq_true rfl) ?_
      refine o_goto (tgt := 15) dX4_tellStatements_68 (by decide) ?_
      exact o_eqa (by rw [nI_1]) rfl (ih (s + lenC (lt s)) (n + 1) r2 (hok r2 hr2) (tsub1 hq hlt hl2) (tsub2 hL hlt hl6 rfl) (fun h => ⟨q2, tsub1 hq2 hlt hl2, by rw [if_pos h] at hG2; exact hG2⟩) (fun h => by rw [if_neg h] at hG2; exact (Prod.mk.inj hG2).2))
    · have hn := bI_0.mp c_41
      have hn : (dnS (lt s) (nuV lt 96 s) m) = none := Option.not_isSome_iff_eq_none.mp (by rw [hn]; decide)
      rw [hn]
      refine o_eqw (w2 := xW r (wsO r) (fsO r) m (wsO m) (fsO m) im (wsO im) (fsO im) lt rw rf ga hi (nI L) (nI R)) rfl ?_
      refine o_sipush dX4_tellStatements_44 sp_m2000 ?_
      refine o_iload_n dX4_tellStatements_47 rfl rfl ?_
      refine o_isub dX4_tellStatements_48 ?_
      refine o_iret dX4_tellStatements_49 rfl (vp_nar_int _) (Nat.le_of_ble_eq_true rfl) (Nat.le_of_ble_eq_true rfl) ?_
      exact ⟨rfl, _, _, _, rfl⟩
theorem tX4_tellStatements {r m mw mf im lt rw rf ga : Nat → Int32} {hi : Int32} {L R : Nat} (hS : SOk r) (hL : L ≤ 96) (hL0 : 0 < L) (hg : (shQ lt L 97 0 0).1 = none) : PM mX4_tellStatements [.ref 0] (xW r (wsO r) (fsO r) m mw mf im (wsO im) (fsO im) lt rw rf ga hi (nI L) (nI R)) (fun a w => a = some (.int (tsV (shQ lt L 97 0 0).2 (dnQ lt L 97 0 r).1)) ∧ ∃ m2 mw2 mf2, w = xW (dnW r (dnQ lt L 97 0 r)) (wsO (dnW r (dnQ lt L 97 0 r))) (fsO (dnW r (dnQ lt L 97 0 r))) m2 mw2 mf2 im (wsO im) (fsO im) lt rw rf ga hi (nI L) (nI R)) := by
  refine PM.ofp 2 (by decide) (Nat.le_of_ble_eq_true rfl) ?_
  show Ok mX4_tellStatements none 0 [some (.ref 0), none, none] [] (xW r (wsO r) (fsO r) m mw mf im (wsO im) (fsO im) lt rw rf ga hi (nI L) (nI R)) 0 0 _
  refine o_aload_n dX4_tellStatements_0 rfl rfl ?_
  refine o_getf (j := 1) dX4_tellStatements_1 rfl hcX4 inX4 (Nat.le_of_ble_eq_true rfl) wd205 rfl rfl ?_
  refine o_aload_n dX4_tellStatements_4 rfl rfl ?_
  refine o_getf (j := 0) dX4_tellStatements_5 rfl hcX4 inX4 (Nat.le_of_ble_eq_true rfl) wd204 rfl rfl ?_
  refine o_callVd (w2 := xW r (wsO r) (fsO r) r (wsO r) (fsO r) im (wsO im) (fsO im) lt rw rf ga hi (nI L) (nI R)) (is := [14, 15, 16, 17, 18, 19, 20, 21, 22, 23, 24, 25, 2, 3, 4, 5, 6, 7, 8, 9, 10, 11, 12, 13]) (tX3_become) ⟨rfl, rfl⟩ dX4_tellStatements_8 wd273 cvX3_become rfl ⟨(Nat.le_of_ble_eq_true rfl), (Nat.le_of_ble_eq_true rfl)⟩ hcX3 rfl rfl rfl rfl (Nat.le_of_ble_eq_true rfl) (Nat.le_of_ble_eq_true rfl) (Nat.le_of_ble_eq_true rfl) (pb_two (w1 := xW r (wsO r) (fsO r) r (wsO r) (fsO r) im (wsO im) (fsO im) lt rw rf ga hi (nI L) (nI R)) 12 14 2 12 rfl rfl (Nat.le_of_ble_eq_true rfl) rfl rfl rfl (Nat.le_of_ble_eq_true rfl) rfl rfl rfl) ?_
  refine o_iconst dX4_tellStatements_11 ic_0 ?_
  refine o_istn_1 dX4_tellStatements_12 rfl rfl (Nat.le_of_ble_eq_true rfl) ?_
  refine o_iconst dX4_tellStatements_13 ic_0 ?_
  refine o_istn_2 dX4_tellStatements_14 rfl rfl (Nat.le_of_ble_eq_true rfl) ?_
  exact o_eqa (by rw [nI_0]) rfl (lX4_tellStatements hS hL 97 0 0 r hS (by omega) (by omega) (fun _ => ⟨97, by omega, Prod.ext hg rfl⟩) (fun h => absurd hL0 h))
theorem sh_L0 {lt : Nat → Int32} : ¬ (shQ lt 0 97 0 0).1 = none := by
  have h := (SH.begin (lt := lt) (L := 0) (by omega)).end0 rfl
  rw [h]; exact fun q => by cases q
theorem sf_neg {V : Option Nat} (hV : ∀ f, V = some f → f < 103) (h : sfV V < 0) : V = none := by
  cases V with
  | none => rfl
  | some f => exact absurd h (nI_pos (by have := hV f rfl; omega))
theorem sf_pos {V : Option Nat} (h : ¬ sfV V < 0) : ∃ f, V = some f := by
  cases V with
  | none => exact absurd (by decide) h
  | some f => exact ⟨f, rfl⟩
theorem tX4_town {r m mw mf im lt rw rf ga : Nat → Int32} {hi : Int32} {L R : Nat} (hS : SOk r) (hL : L ≤ 96) : PM mX4_town [.ref 0] (xW r (wsO r) (fsO r) m mw mf im (wsO im) (fsO im) lt rw rf ga hi (nI L) (nI R)) (CP (s_town (r, im, hi, lt, L, rw, R, rf))) := by
  refine PM.ofp 2 (by decide) (Nat.le_of_ble_eq_true rfl) ?_
  show Ok mX4_town none 0 [some (.ref 0), none, none] [] (xW r (wsO r) (fsO r) m mw mf im (wsO im) (fsO im) lt rw rf ga hi (nI L) (nI R)) 0 0 _
  refine o_aload_n dX4_town_0 rfl rfl ?_
  refine o_getf (j := 4) dX4_town_1 rfl hcX4 inX4 (Nat.le_of_ble_eq_true rfl) wd208 rfl rfl ?_
  refine o_callVr (is := [29, 30, 31]) (tX1_shapeFault hL) ⟨rfl, rfl⟩ dX4_town_4 wd253 cvX1_shapeFault rfl ⟨(Nat.le_of_ble_eq_true rfl), (Nat.le_of_ble_eq_true rfl)⟩ hcX1 rfl rfl rfl rfl (Nat.le_of_ble_eq_true rfl) (Nat.le_of_ble_eq_true rfl) (Nat.le_of_ble_eq_true rfl) ?_
  refine o_istn_1 dX4_town_7 rfl rfl (Nat.le_of_ble_eq_true rfl) ?_
  refine o_iload_n dX4_town_8 rfl rfl ?_
  refine o_if_lt (tgt := 20) dX4_town_9 (by decide) (fun c_9 => ?_) (fun c_9 => ?_)
  · have hV := sf_neg (fun f h => shQ_lt hL 97 0 0 (by omega) h) c_9
    have hL0 : 0 < L := Nat.pos_of_ne_zero (fun z => by subst z; exact sh_L0 hV)
    refine o_aload_n dX4_town_20 rfl rfl ?_
    refine o_callV (is := [0, 1, 2, 3, 4, 5, 6, 7, 8, 9, 10, 11, 12, 13, 14, 15, 16, 17, 18, 19, 20, 21, 22, 23, 24, 25, 26, 27, 28, 29, 30, 31, 32, 33, 34, 35, 36, 37, 38, 39, 40, 41, 42, 43]) (tX4_tellStatements hS hL hL0 hV) ⟨rfl, rfl⟩ dX4_town_21 wd269 cvX4_tellStatements rfl ⟨(Nat.le_of_ble_eq_true rfl), (Nat.le_of_ble_eq_true rfl)⟩ hcX4 rfl rfl rfl rfl (Nat.le_of_ble_eq_true rfl) (Nat.le_of_ble_eq_true rfl) (Nat.le_of_ble_eq_true rfl) (fun ra wb hq hqn => ?_)
    obtain ⟨rfl, m2, mw2, mf2, rfl⟩ := hq
    refine o_eqw (w2 := xW (dnW r (dnQ lt L 97 0 r)) (wsO (dnW r (dnQ lt L 97 0 r))) (fsO (dnW r (dnQ lt L 97 0 r))) m2 mw2 mf2 im (wsO im) (fsO im) lt rw rf ga hi (nI L) (nI R)) (pb_seg 0 (Nat.le_of_ble_eq_true rfl) rfl rfl rfl) ?_
    refine o_istn_2 dX4_town_24 rfl rfl (Nat.le_of_ble_eq_true rfl) ?_
    refine o_aload_n dX4_town_25 rfl rfl ?_
    refine o_getf (j := 4) dX4_town_26 rfl hcX4 inX4 (Nat.le_of_ble_eq_true rfl) wd208 rfl rfl ?_
    refine o_getf (j := 0) dX4_town_29 rfl hcX1 inX1 (Nat.le_of_ble_eq_true rfl) wd198 rfl rfl ?_
    refine o_callVd (w2 := xW (dnW r (dnQ lt L 97 0 r)) (wsO (dnW r (dnQ lt L 97 0 r))) (fsO (dnW r (dnQ lt L 97 0 r))) m2 mw2 mf2 im (wsO im) (fsO im) lt rw rf ga hi (nI 0) (nI R)) (is := [30, 31]) (tX2_empty) ⟨rfl, rfl⟩ dX4_town_32 wd371 cvX2_empty rfl ⟨(Nat.le_of_ble_eq_true rfl), (Nat.le_of_ble_eq_true rfl)⟩ hcX2 rfl rfl rfl rfl (Nat.le_of_ble_eq_true rfl) (Nat.le_of_ble_eq_true rfl) (Nat.le_of_ble_eq_true rfl) (pb_seg 30 (Nat.le_of_ble_eq_true rfl) rfl rfl rfl) ?_
    refine o_pop dX4_town_35 rfl ?_
    refine o_iload_n dX4_town_36 rfl rfl ?_
    refine o_iret dX4_town_37 rfl (vp_nar_int _) (Nat.le_of_ble_eq_true rfl) (Nat.le_of_ble_eq_true rfl) ?_
    exact CP.mk (by
      simp only [s_town, hV]
      cases hd : (dnQ lt L 97 0 r).1 with
      | none => rfl
      | some s => rfl)
  · obtain ⟨f, hV⟩ := sf_pos c_9
    refine o_sipush dX4_town_12 sp_m1000 ?_
    refine o_iload_n dX4_town_15 rfl rfl ?_
    refine o_isub dX4_town_16 ?_
    refine o_goto (tgt := 24) dX4_town_17 (by decide) ?_
    refine o_istn_2 dX4_town_24 rfl rfl (Nat.le_of_ble_eq_true rfl) ?_
    refine o_aload_n dX4_town_25 rfl rfl ?_
    refine o_getf (j := 4) dX4_town_26 rfl hcX4 inX4 (Nat.le_of_ble_eq_true rfl) wd208 rfl rfl ?_
    refine o_getf (j := 0) dX4_town_29 rfl hcX1 inX1 (Nat.le_of_ble_eq_true rfl) wd198 rfl rfl ?_
    refine o_callVd (w2 := xW r (wsO r) (fsO r) m mw mf im (wsO im) (fsO im) lt rw rf ga hi (nI 0) (nI R)) (is := [30, 31]) (tX2_empty) ⟨rfl, rfl⟩ dX4_town_32 wd371 cvX2_empty rfl ⟨(Nat.le_of_ble_eq_true rfl), (Nat.le_of_ble_eq_true rfl)⟩ hcX2 rfl rfl rfl rfl (Nat.le_of_ble_eq_true rfl) (Nat.le_of_ble_eq_true rfl) (Nat.le_of_ble_eq_true rfl) (pb_seg 30 (Nat.le_of_ble_eq_true rfl) rfl rfl rfl) ?_
    refine o_pop dX4_town_35 rfl ?_
    refine o_iload_n dX4_town_36 rfl rfl ?_
    refine o_iret dX4_town_37 rfl (vp_nar_int _) (Nat.le_of_ble_eq_true rfl) (Nat.le_of_ble_eq_true rfl) ?_
    exact CP.mk (by
      simp only [s_town, hV]
      first | done | rfl)
