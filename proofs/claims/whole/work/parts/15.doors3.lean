theorem lX0_mw1 {kd fg fr io wg ws fs : Nat → Int32} {sz : Int32} {xx yy : Option Value} {P : Option Value → PW → Prop} (hP : ∀ i1, Ok mX0_measureWays none 40 [some (.ref 0), some (.int i1), xx, yy] [] (dG kd fg fr io wg (nF w0N) fs sz) 0 0 P) : ∀ (q k : Nat), 64 - k < q → k ≤ 64 → Ok mX0_measureWays none 2 [some (.ref 0), some (.int (nI k)), xx, yy] [] (dG kd fg fr io wg (zrF ws (nF w0N) k) fs sz) 0 0 (P) := by
  intro q
  induction q with
  | zero => intro k hq hk; omega
  | succ q ih =>
  intro k hq hk
  refine o_iload_n dX0_measureWays_2 rfl rfl ?_
  refine o_bipush dX0_measureWays_3 bp_64 ?_
  refine o_icmp_ge (tgt := 40) dX0_measureWays_5 (by decide) (fun c_5 => ?_) (fun c_5 => ?_)
  · have hkN : k = 64 := Nat.le_antisymm hk (geI (b := 64) (by omega) (by omega) c_5)
    subst hkN
    refine o_same (w2 := dG kd fg fr io wg (nF w0N) fs sz) rfl (fun j x y hx hy => ?_) (hP _)
    match j, hx, hy with
    | 0, hx, hy => cases hx; cases hy; exact rfl
    | 1, hx, hy => cases hx; cases hy; exact ⟨rfl, fun _ _ => rfl⟩
    | 2, hx, hy => cases hx; cases hy; exact ⟨rfl, fun _ _ => rfl⟩
    | 3, hx, hy => cases hx; cases hy; exact ⟨rfl, fun _ _ => rfl⟩
    | 4, hx, hy => cases hx; cases hy; exact ⟨rfl, fun _ _ => rfl⟩
    | 5, hx, hy => cases hx; cases hy; exact ⟨rfl, fun _ _ => rfl⟩
    | 6, hx, hy => cases hx; cases hy; exact ⟨rfl, fun j hj => zrF_n ws (nF w0N) 64 j hj⟩
    | 7, hx, hy => cases hx; cases hy; exact ⟨rfl, fun _ _ => rfl⟩
  · have hkN : k < 64 := ltI (b := 64) (by omega) (by omega) c_5
    refine o_aload_n dX0_measureWays_8 rfl rfl ?_
    refine o_getf (j := 5) dX0_measureWays_9 rfl hcX0 inX0 (Nat.le_of_ble_eq_true rfl) wd114 rfl rfl ?_
    refine o_iload_n dX0_measureWays_12 rfl rfl ?_
    refine o_iload_n dX0_measureWays_13 rfl rfl ?_
    refine o_bipush dX0_measureWays_14 bp_8 ?_
    refine o_idiv dX0_measureWays_16 (by decide) ?_
    refine o_iload_n dX0_measureWays_17 rfl rfl ?_
    refine o_bipush dX0_measureWays_18 bp_8 ?_
    refine o_irem dX0_measureWays_20 (by decide) ?_
    refine o_icmp_ne (tgt := 28) dX0_measureWays_21 (by decide) (fun c_21 => ?_) (fun c_21 => ?_)
    · rw [rm8 (by omega), dv8 (by omega), nI_eq (by omega) (by omega)] at c_21
      have e0 : (1000 : Int32) = nF w0N k := by unfold nF w0N; rw [if_neg c_21]; rfl
      refine o_sipush dX0_measureWays_28 sp_1000 ?_
      refine o_callSNd (is := [6]) (put_f (by decide) rfl hkN) ⟨rfl, rfl⟩ dX0_measureWays_31 wd88 csX4_put rfl ⟨(Nat.le_of_ble_eq_true rfl), (Nat.le_of_ble_eq_true rfl)⟩ rfl rfl rfl (Nat.le_of_ble_eq_true rfl) (Nat.le_of_ble_eq_true rfl) (Nat.le_of_ble_eq_true rfl) rfl ?_
      refine o_inc_1 dX0_measureWays_34 rfl ic_1 (Nat.le_of_ble_eq_true rfl) ?_
      refine o_goto (tgt := 2) dX0_measureWays_37 (by decide) ?_
      exact o_eqa (by rw [nI_1]) (by rw [← zrF_s, ← e0]; rfl) (ih (k + 1) (by omega) (by omega))
    · rw [rm8 (by omega), dv8 (by omega), nI_eq (by omega) (by omega)] at c_21
      have e0 : (0 : Int32) = nF w0N k := by unfold nF w0N; rw [if_pos c_21]; rfl
      refine o_iconst dX0_measureWays_24 ic_0 ?_
      refine o_goto (tgt := 31) dX0_measureWays_25 (by decide) ?_
      refine o_callSNd (is := [6]) (put_f (by decide) rfl hkN) ⟨rfl, rfl⟩ dX0_measureWays_31 wd88 csX4_put rfl ⟨(Nat.le_of_ble_eq_true rfl), (Nat.le_of_ble_eq_true rfl)⟩ rfl rfl rfl (Nat.le_of_ble_eq_true rfl) (Nat.le_of_ble_eq_true rfl) (Nat.le_of_ble_eq_true rfl) rfl ?_
      refine o_inc_1 dX0_measureWays_34 rfl ic_1 (Nat.le_of_ble_eq_true rfl) ?_
      refine o_goto (tgt := 2) dX0_measureWays_37 (by decide) ?_
      exact o_eqa (by rw [nI_1]) (by rw [← zrF_s, ← e0]; rfl) (ih (k + 1) (by omega) (by omega))
theorem lX0_mw3 {kd fg fr io wg fs : Nat → Int32} {g fa fb : Nat → Nat} {D : Nat} {rr : Int32} {P : Option Value → PW → Prop} (hD : DOk D fr io fa fb) (hg : ∀ j, g j ≤ 1000) (hP : ∀ i3, Ok mX0_measureWays none 97 [some (.ref 0), some (.int (bI (rdB fa fb g D))), some (.int rr), some (.int i3)] [] (dG kd fg fr io wg (nF (rdN fa fb g D)) fs (nI D)) 0 0 P) : ∀ (q k : Nat), D - k < q → k ≤ D → Ok mX0_measureWays none 58 [some (.ref 0), some (.int (bI (rdB fa fb g k))), some (.int rr), some (.int (nI k))] [] (dG kd fg fr io wg (nF (rdN fa fb g k)) fs (nI D)) 0 0 (P) := by
  intro q
  induction q with
  | zero => intro k hq hk; omega
  | succ q ih =>
  intro k hq hk
  have hD9 := hD.1
  refine o_iload_n dX0_measureWays_58 rfl rfl ?_
  refine o_aload_n dX0_measureWays_59 rfl rfl ?_
  refine o_getf (j := 7) dX0_measureWays_60 rfl hcX0 inX0 (Nat.le_of_ble_eq_true rfl) wd116 rfl rfl ?_
  refine o_icmp_ge (tgt := 97) dX0_measureWays_63 (by decide) (fun c_63 => ?_) (fun c_63 => ?_)
  · have hkN : k = D := Nat.le_antisymm hk (geI (by omega) (by omega) c_63)
    subst hkN
    exact hP _
  · have hkN : k < D := ltI (by omega) (by omega) c_63
    obtain ⟨ea, la, eb, lb⟩ := hD.2 k hkN
    refine o_aload_n dX0_measureWays_66 rfl rfl ?_
    refine o_aload_n dX0_measureWays_67 rfl rfl ?_
    refine o_getf (j := 2) dX0_measureWays_68 rfl hcX0 inX0 (Nat.le_of_ble_eq_true rfl) wd106 rfl rfl ?_
    refine o_iload_n dX0_measureWays_71 rfl rfl ?_
    refine o_callSNr (is := [3]) ((at_f (by decide) rfl (by omega) : PD _ _ _ _ _).mono (by rw [ea])) ⟨rfl, rfl⟩ dX0_measureWays_72 wd91 csX4_at rfl ⟨(Nat.le_of_ble_eq_true rfl), (Nat.le_of_ble_eq_true rfl)⟩ rfl rfl rfl (Nat.le_of_ble_eq_true rfl) (Nat.le_of_ble_eq_true rfl) (Nat.le_of_ble_eq_true rfl) ?_
    refine o_aload_n dX0_measureWays_75 rfl rfl ?_
    refine o_getf (j := 3) dX0_measureWays_76 rfl hcX0 inX0 (Nat.le_of_ble_eq_true rfl) wd108 rfl rfl ?_
    refine o_iload_n dX0_measureWays_79 rfl rfl ?_
    refine o_callSNr (is := [4]) ((at_f (by decide) rfl (by omega) : PD _ _ _ _ _).mono (by rw [eb])) ⟨rfl, rfl⟩ dX0_measureWays_80 wd91 csX4_at rfl ⟨(Nat.le_of_ble_eq_true rfl), (Nat.le_of_ble_eq_true rfl)⟩ rfl rfl rfl (Nat.le_of_ble_eq_true rfl) (Nat.le_of_ble_eq_true rfl) (Nat.le_of_ble_eq_true rfl) ?_
    refine o_callVd (is := [0, 1, 2, 3, 4, 5, 6, 7]) (tX0_shortenWaysBy la lb (rdN_le hg k)) ⟨rfl, rfl⟩ dX0_measureWays_83 wd94 cvX0_shortenWaysBy rfl ⟨(Nat.le_of_ble_eq_true rfl), (Nat.le_of_ble_eq_true rfl)⟩ hcX0 rfl rfl rfl rfl (Nat.le_of_ble_eq_true rfl) (Nat.le_of_ble_eq_true rfl) (Nat.le_of_ble_eq_true rfl) rfl ?_
    refine o_if_eq (tgt := 91) dX0_measureWays_86 (by decide) (fun c_86 => ?_) (fun c_86 => ?_)
    · skip
      refine o_inc_3 dX0_measureWays_91 rfl ic_1 (Nat.le_of_ble_eq_true rfl) ?_
      refine o_goto (tgt := 58) dX0_measureWays_94 (by decide) ?_
      exact o_eqa (by rw [nI_1, rdB, bI_0.mp c_86, Bool.or_false]) rfl (ih (k + 1) (by omega) (by omega))
    · skip
      refine o_iconst dX0_measureWays_89 ic_1 ?_
      refine o_istn_1 dX0_measureWays_90 rfl rfl (Nat.le_of_ble_eq_true rfl) ?_
      refine o_inc_3 dX0_measureWays_91 rfl ic_1 (Nat.le_of_ble_eq_true rfl) ?_
      refine o_goto (tgt := 58) dX0_measureWays_94 (by decide) ?_
      have hs : shB (fa k) (fb k) (rdN fa fb g k) 8 = true := by
        cases hb : shB (fa k) (fb k) (rdN fa fb g k) 8 with
        | true => rfl
        | false => exact absurd (bI_0.mpr hb) c_86
      exact o_eqa (by rw [nI_1, rdB, hs, Bool.or_true]; rfl) rfl (ih (k + 1) (by omega) (by omega))
theorem lX0_mw2 {kd fg fr io wg fs : Nat → Int32} {fa fb : Nat → Nat} {D : Nat} (hD : DOk D fr io fa fb) : ∀ (q : Nat) (g G : Nat → Nat) (b : Bool) (xx : Option Value), q ≤ 7 → (∀ j, g j ≤ 1000) → G = (if b then bfN fa fb D q g else g) →
    Ok mX0_measureWays none 44 [some (.ref 0), some (.int (bI b)), some (.int (nI (8 - q))), xx] [] (dG kd fg fr io wg (nF g) fs (nI D)) 0 0 (fun r2 w2 => r2 = none ∧ w2 = dG kd fg fr io wg (nF G) (ffS G fa fb (D * 8)) (nI D)) := by
  intro q
  have fin : ∀ (g G : Nat → Nat) (l1 l2 l3 : Option Value), (∀ j, g j ≤ 1000) → G = g → Ok mX0_measureWays none 103 [some (.ref 0), l1, l2, l3] [] (dG kd fg fr io wg (nF g) fs (nI D)) 0 0 (fun r2 w2 => r2 = none ∧ w2 = dG kd fg fr io wg (nF G) (ffS G fa fb (D * 8)) (nI D)) := by
    intro g G l1 l2 l3 hg hG
    subst hG
    refine o_aload_n dX0_measureWays_103 rfl rfl ?_
    refine o_callVd (is := [0, 1, 2, 3, 4, 5, 6, 7]) (tX0_findFirsts hD hg) ⟨rfl, rfl⟩ dX0_measureWays_104 wd98 cvX0_findFirsts rfl ⟨(Nat.le_of_ble_eq_true rfl), (Nat.le_of_ble_eq_true rfl)⟩ hcX0 rfl rfl rfl rfl (Nat.le_of_ble_eq_true rfl) (Nat.le_of_ble_eq_true rfl) (Nat.le_of_ble_eq_true rfl) rfl ?_
    refine o_vret dX0_measureWays_107 rfl (Nat.le_of_ble_eq_true rfl) (Nat.le_of_ble_eq_true rfl) ?_
    exact ⟨rfl, rfl⟩
  induction q with
  | zero =>
    intro g G b xx hq hg hG
    refine o_iload_n dX0_measureWays_44 rfl rfl ?_
    refine o_bipush dX0_measureWays_45 bp_8 ?_
    refine o_icmp_ge (tgt := 103) dX0_measureWays_47 (by decide) (fun _ => ?_) (fun c => absurd (by decide) c)
    exact fin g G _ _ _ hg (by rw [hG]; cases b <;> rfl)
  | succ q ih =>
    intro g G b xx hq hg hG
    refine o_iload_n dX0_measureWays_44 rfl rfl ?_
    refine o_bipush dX0_measureWays_45 bp_8 ?_
    refine o_icmp_ge (tgt := 103) dX0_measureWays_47 (by decide) (fun c_47 => ?_) (fun c_47 => ?_)
    · exact absurd (geI (a := 8 - (q + 1)) (b := 8) (by omega) (by omega) c_47) (by omega)
    · skip
      refine o_iload_n dX0_measureWays_50 rfl rfl ?_
      refine o_if_eq (tgt := 103) dX0_measureWays_51 (by decide) (fun c_51 => ?_) (fun c_51 => ?_)
      · skip
        exact fin g G _ _ _ hg (by rw [hG, bI_0.mp c_51]; rfl)
      · skip
        refine o_iconst dX0_measureWays_54 ic_0 ?_
        refine o_istn_1 dX0_measureWays_55 rfl rfl (Nat.le_of_ble_eq_true rfl) ?_
        refine o_iconst dX0_measureWays_56 ic_0 ?_
        refine o_istn_3 dX0_measureWays_57 rfl rfl (Nat.le_of_ble_eq_true rfl) ?_
        refine o_eqa (by rw [nI_0]; rfl) rfl (lX0_mw3 hD hg (fun i3 => ?_) (D + 1) 0 (by omega) (by omega))
        refine o_inc_2 dX0_measureWays_97 rfl ic_1 (Nat.le_of_ble_eq_true rfl) ?_
        refine o_goto (tgt := 44) dX0_measureWays_100 (by decide) ?_
        have hb : b = true := by cases b with
          | true => rfl
          | false => exact absurd rfl c_51
        exact o_eqa (by rw [nI_1, show 8 - (q + 1) + 1 = 8 - q by omega]) rfl (ih _ G _ _ (by omega) (rdN_le hg D) (by rw [hG, hb, if_pos rfl, bfN]))
theorem tX0_measureWays {kd fg fr io wg ws fs : Nat → Int32} {fa fb : Nat → Nat} {D : Nat} (hD : DOk D fr io fa fb) : PD mX0_measureWays [.ref 0] (dG kd fg fr io wg ws fs (nI D)) (none) (dG kd fg fr io wg (nF (wyT fa fb D)) (fsT fa fb D) (nI D)) := by
  refine PM.ofp 3 (by decide) (Nat.le_of_ble_eq_true rfl) ?_
  show Ok mX0_measureWays none 0 [some (.ref 0), none, none, none] [] (dG kd fg fr io wg ws fs (nI D)) 0 0 _
  refine o_iconst dX0_measureWays_0 ic_0 ?_
  refine o_istn_1 dX0_measureWays_1 rfl rfl (Nat.le_of_ble_eq_true rfl) ?_
  refine o_eqa (by rw [nI_0]) (by rw [zrF_0]) (lX0_mw1 (fun i1 => ?_) 65 0 (by omega) (by omega))
  refine o_iconst dX0_measureWays_40 ic_1 ?_
  refine o_istn_1 dX0_measureWays_41 rfl rfl (Nat.le_of_ble_eq_true rfl) ?_
  refine o_iconst dX0_measureWays_42 ic_1 ?_
  refine o_istn_2 dX0_measureWays_43 rfl rfl (Nat.le_of_ble_eq_true rfl) ?_
  exact lX0_mw2 hD 7 w0N (wyT fa fb D) true _ (by omega) w0N_le rfl
theorem tX0_changeSides {kd fg fr io wg ws fs : Nat → Int32} {fa fb : Nat → Nat} {D d : Nat} (hd : d < 9) (hD : DOk D (upd fr d (io d)) (upd io d (fr d)) fa fb) : PD mX0_changeSides [.ref 0, .int (nI d)] (dG kd fg fr io wg ws fs (nI D)) (some (.int (fr d))) (dG kd fg (upd fr d (io d)) (upd io d (fr d)) wg (nF (wyT fa fb D)) (fsT fa fb D) (nI D)) := by
  refine PM.ofp 1 (by decide) (Nat.le_of_ble_eq_true rfl) ?_
  show Ok mX0_changeSides none 0 [some (.ref 0), some (.int (nI d)), none] [] (dG kd fg fr io wg ws fs (nI D)) 0 0 _
  refine o_aload_n dX0_changeSides_0 rfl rfl ?_
  refine o_getf (j := 2) dX0_changeSides_1 rfl hcX0 inX0 (Nat.le_of_ble_eq_true rfl) wd106 rfl rfl ?_
  refine o_iload_n dX0_changeSides_4 rfl rfl ?_
  refine o_callSNr (is := [3]) (at_f (by decide) rfl hd) ⟨rfl, rfl⟩ dX0_changeSides_5 wd91 csX4_at rfl ⟨(Nat.le_of_ble_eq_true rfl), (Nat.le_of_ble_eq_true rfl)⟩ rfl rfl rfl (Nat.le_of_ble_eq_true rfl) (Nat.le_of_ble_eq_true rfl) (Nat.le_of_ble_eq_true rfl) ?_
  refine o_istn_2 dX0_changeSides_8 rfl rfl (Nat.le_of_ble_eq_true rfl) ?_
  refine o_aload_n dX0_changeSides_9 rfl rfl ?_
  refine o_getf (j := 2) dX0_changeSides_10 rfl hcX0 inX0 (Nat.le_of_ble_eq_true rfl) wd106 rfl rfl ?_
  refine o_iload_n dX0_changeSides_13 rfl rfl ?_
  refine o_aload_n dX0_changeSides_14 rfl rfl ?_
  refine o_getf (j := 3) dX0_changeSides_15 rfl hcX0 inX0 (Nat.le_of_ble_eq_true rfl) wd108 rfl rfl ?_
  refine o_iload_n dX0_changeSides_18 rfl rfl ?_
  refine o_callSNr (is := [4]) (at_f (by decide) rfl hd) ⟨rfl, rfl⟩ dX0_changeSides_19 wd91 csX4_at rfl ⟨(Nat.le_of_ble_eq_true rfl), (Nat.le_of_ble_eq_true rfl)⟩ rfl rfl rfl (Nat.le_of_ble_eq_true rfl) (Nat.le_of_ble_eq_true rfl) (Nat.le_of_ble_eq_true rfl) ?_
  refine o_callSNd (is := [3]) (put_f (by decide) rfl hd) ⟨rfl, rfl⟩ dX0_changeSides_22 wd88 csX4_put rfl ⟨(Nat.le_of_ble_eq_true rfl), (Nat.le_of_ble_eq_true rfl)⟩ rfl rfl rfl (Nat.le_of_ble_eq_true rfl) (Nat.le_of_ble_eq_true rfl) (Nat.le_of_ble_eq_true rfl) rfl ?_
  refine o_aload_n dX0_changeSides_25 rfl rfl ?_
  refine o_getf (j := 3) dX0_changeSides_26 rfl hcX0 inX0 (Nat.le_of_ble_eq_true rfl) wd108 rfl rfl ?_
  refine o_iload_n dX0_changeSides_29 rfl rfl ?_
  refine o_iload_n dX0_changeSides_30 rfl rfl ?_
  refine o_callSNd (is := [4]) (put_f (by decide) rfl hd) ⟨rfl, rfl⟩ dX0_changeSides_31 wd88 csX4_put rfl ⟨(Nat.le_of_ble_eq_true rfl), (Nat.le_of_ble_eq_true rfl)⟩ rfl rfl rfl (Nat.le_of_ble_eq_true rfl) (Nat.le_of_ble_eq_true rfl) (Nat.le_of_ble_eq_true rfl) rfl ?_
  refine o_aload_n dX0_changeSides_34 rfl rfl ?_
  refine o_callVd (is := [0, 1, 2, 3, 4, 5, 6, 7]) (tX0_measureWays hD) ⟨rfl, rfl⟩ dX0_changeSides_35 wd84 cvX0_measureWays rfl ⟨(Nat.le_of_ble_eq_true rfl), (Nat.le_of_ble_eq_true rfl)⟩ hcX0 rfl rfl rfl rfl (Nat.le_of_ble_eq_true rfl) (Nat.le_of_ble_eq_true rfl) (Nat.le_of_ble_eq_true rfl) rfl ?_
  refine o_iload_n dX0_changeSides_38 rfl rfl ?_
  refine o_iret dX0_changeSides_39 rfl (vp_nar_int _) (Nat.le_of_ble_eq_true rfl) (Nat.le_of_ble_eq_true rfl) ?_
  exact ⟨rfl, rfl⟩
theorem o_sw {M : MI} {S : Scr} {pc : Nat} {ls : List (Option Value)} {st : List Value} {w : PW} {k n : Nat} {P : Option Value → PW → Prop} {x : Int32} {lo hi : Int} (cnt : Nat) (hh : hi = lo + cnt - 1) (h0 : -2147483648 ≤ lo) (hm : hi < 2147483648) (h1 : (x.toInt < lo ∨ hi < x.toInt) → Ok M S pc ls (.int x :: st) w k n P) (h2 : ∀ j : Nat, j < cnt → x.toInt = lo + (j : Int) → Ok M S pc ls (.int x :: st) w k n P) : Ok M S pc ls (.int x :: st) w k n P := sw_split cnt hh h0 hm h1 h2
def beatF (f : Int32) : Int32 := if 1 < f / 3 + 2 then f / 3 + 2 else 1
theorem beat_nz (f : Int32) : ¬ beatF f = 0 := by
  unfold beatF
  split
  · rename_i h; intro e; rw [e] at h; exact absurd h (by decide)
  · decide
def opB (kd f h hp md : Int32) : Bool :=
  if kd = 0 then !decide (hp < 1) else if kd = 1 then !decide (hp < 1) && decide (h - h / beatF f * beatF f = 0) else if kd = 2 then !decide (hp < 1) && !decide (md < f)
  else if kd = 3 then !decide (hp < 1) || decide (h - h / 2 * 2 = 1) else if kd = 4 then !decide (hp < 1) || decide (h - h / 2 * 2 = 1) || decide (h - h / 2 * 2 = 0) else if kd = 5 then !decide (hp < 1) && decide (h - h / beatF f * beatF f = 0) && !decide (hp < 2) else false
theorem i32_lt2 {x : Int32} (h : ¬ x < 2) : ¬ x < 1 := fun q => h (by
  have h1 := Int32.lt_iff_toInt_lt.mp q
  exact Int32.lt_iff_toInt_lt.mpr (Int.lt_trans h1 (by decide)))
set_option maxHeartbeats 1000000 in
theorem tX0_opensBy {kd fg fr io wg ws fs : Nat → Int32} {sz h hp md : Int32} {d : Nat} (hd : d < 9) : PD mX0_opensBy [.ref 0, .int (nI d), .int h, .int hp, .int md] (dG kd fg fr io wg ws fs sz) (some (.int (bI (opB (kd d) (fg d) h hp md)))) (dG kd fg fr io wg ws fs sz) := by
  refine PM.ofp 5 (by decide) (Nat.le_of_ble_eq_true rfl) ?_
  show Ok mX0_opensBy none 0 [some (.ref 0), some (.int (nI d)), some (.int h), some (.int hp), some (.int md), none, none, none, none, none] [] (dG kd fg fr io wg ws fs sz) 0 0 _
  refine o_aload_n dX0_opensBy_0 rfl rfl ?_
  refine o_getf (j := 1) dX0_opensBy_1 rfl hcX0 inX0 (Nat.le_of_ble_eq_true rfl) wd104 rfl rfl ?_
  refine o_iload_n dX0_opensBy_4 rfl rfl ?_
  refine o_callSNr (is := [2]) (at_f (by decide) rfl hd) ⟨rfl, rfl⟩ dX0_opensBy_5 wd91 csX4_at rfl ⟨(Nat.le_of_ble_eq_true rfl), (Nat.le_of_ble_eq_true rfl)⟩ rfl rfl rfl (Nat.le_of_ble_eq_true rfl) (Nat.le_of_ble_eq_true rfl) (Nat.le_of_ble_eq_true rfl) ?_
  refine o_istg_5 dX0_opensBy_8 rfl (Nat.le_of_ble_eq_true rfl) ?_
  refine o_iconst dX0_opensBy_10 ic_1 ?_
  refine o_iload dX0_opensBy_11 rfl ?_
  refine o_iconst dX0_opensBy_13 ic_3 ?_
  refine o_idiv dX0_opensBy_14 (by decide) ?_
  refine o_iconst dX0_opensBy_15 ic_2 ?_
  refine o_iadd dX0_opensBy_16 ?_
  refine o_mmax dX0_opensBy_17 wd363 wd184 wd60 wd185 (Nat.le_of_ble_eq_true rfl) (Nat.le_of_ble_eq_true rfl) (Nat.le_of_ble_eq_true rfl) (Nat.le_of_ble_eq_true rfl) ?_
  change Ok _ _ _ _ (.int (beatF (fg d)) :: _) _ _ _ _
  refine o_istg_6 dX0_opensBy_20 rfl (Nat.le_of_ble_eq_true rfl) ?_
  refine o_iload_n dX0_opensBy_22 rfl rfl ?_
  refine o_iconst dX0_opensBy_23 ic_1 ?_
  refine o_icmp_lt (tgt := 31) dX0_opensBy_24 (by decide) (fun c_24 => ?_) (fun c_24 => ?_)
  · skip
    refine o_iconst dX0_opensBy_31 ic_0 ?_
    refine o_istg_7 dX0_opensBy_32 rfl (Nat.le_of_ble_eq_true rfl) ?_
    refine o_iload dX0_opensBy_34 rfl ?_
    refine o_if_eq (tgt := 50) dX0_opensBy_36 (by decide) (fun _ => ?_) (fun cq => absurd (by decide) cq)
    refine o_iconst dX0_opensBy_50 ic_0 ?_
    refine o_istg_8 dX0_opensBy_51 rfl (Nat.le_of_ble_eq_true rfl) ?_
    refine o_iload dX0_opensBy_53 rfl ?_
    refine o_if_ne (tgt := 65) dX0_opensBy_55 (by decide) (fun cq => absurd (by decide) cq) (fun _ => ?_)
    refine o_iload_n dX0_opensBy_58 rfl rfl ?_
    refine o_iconst dX0_opensBy_59 ic_2 ?_
    refine o_irem dX0_opensBy_60 (by decide) ?_
    refine o_iconst dX0_opensBy_61 ic_1 ?_
    refine o_icmp_ne (tgt := 69) dX0_opensBy_62 (by decide) (fun c_62 => ?_) (fun c_62 => ?_)
    · skip
      refine o_iconst dX0_opensBy_69 ic_0 ?_
      refine o_istg_9 dX0_opensBy_70 rfl (Nat.le_of_ble_eq_true rfl) ?_
      refine o_aload_n dX0_opensBy_72 rfl rfl ?_
      refine o_getf (j := 0) dX0_opensBy_73 rfl hcX0 inX0 (Nat.le_of_ble_eq_true rfl) wd102 rfl rfl ?_
      refine o_iload_n dX0_opensBy_76 rfl rfl ?_
      refine o_callSNr (is := [1]) (at_f (by decide) rfl hd) ⟨rfl, rfl⟩ dX0_opensBy_77 wd91 csX4_at rfl ⟨(Nat.le_of_ble_eq_true rfl), (Nat.le_of_ble_eq_true rfl)⟩ rfl rfl rfl (Nat.le_of_ble_eq_true rfl) (Nat.le_of_ble_eq_true rfl) (Nat.le_of_ble_eq_true rfl) ?_
      refine o_sw (lo := 0) (hi := 5) 6 (by decide) (by decide) (by decide) (fun hsw => ?_) (fun j hj hsw => ?_)
      · refine o_tabOut (tgt := 180) dX0_opensBy_80 hsw (by decide) ?_
        refine o_iconst dX0_opensBy_180 ic_0 ?_
        refine o_iret dX0_opensBy_181 rfl (by first | exact nz_b _ | decide) (Nat.le_of_ble_eq_true rfl) (Nat.le_of_ble_eq_true rfl) ?_
        have n0 := sw_ne hsw 0 (by decide)
        have n1 := sw_ne hsw 1 (by decide)
        have n2 := sw_ne hsw 2 (by decide)
        have n3 := sw_ne hsw 3 (by decide)
        have n4 := sw_ne hsw 4 (by decide)
        have n5 := sw_ne hsw 5 (by decide)
        exact ⟨by simp [opB, bI, n0, n1, n2, n3, n4, n5], rfl⟩
      · match j, hj, hsw with
        | 0, _, hsw =>
          refine o_tabInE (tgt := 120) (off := 40) dX0_opensBy_80 hsw (by decide) (by decide) (by decide) (by decide) ?_
          have hsw := sw_eq (l := 0) hsw (by decide)
          refine o_iload dX0_opensBy_120 rfl ?_
          refine o_iret dX0_opensBy_122 rfl (by first | exact nz_b _ | decide) (Nat.le_of_ble_eq_true rfl) (Nat.le_of_ble_eq_true rfl) ?_
          exact ⟨by simp [opB, bI, *], rfl⟩
        | 1, _, hsw =>
          refine o_tabInE (tgt := 123) (off := 43) dX0_opensBy_80 hsw (by decide) (by decide) (by decide) (by decide) ?_
          have hsw := sw_eq (l := 1) hsw (by decide)
          refine o_iload dX0_opensBy_123 rfl ?_
          refine o_iret dX0_opensBy_125 rfl (by first | exact nz_b _ | decide) (Nat.le_of_ble_eq_true rfl) (Nat.le_of_ble_eq_true rfl) ?_
          exact ⟨by simp [opB, bI, *], rfl⟩
        | 2, _, hsw =>
          refine o_tabInE (tgt := 126) (off := 46) dX0_opensBy_80 hsw (by decide) (by decide) (by decide) (by decide) ?_
          have hsw := sw_eq (l := 2) hsw (by decide)
          refine o_iload dX0_opensBy_126 rfl ?_
          refine o_if_eq (tgt := 142) dX0_opensBy_128 (by decide) (fun _ => ?_) (fun cq => absurd (by decide) cq)
          refine o_iconst dX0_opensBy_142 ic_0 ?_
          refine o_iret dX0_opensBy_143 rfl (by first | exact nz_b _ | decide) (Nat.le_of_ble_eq_true rfl) (Nat.le_of_ble_eq_true rfl) ?_
          exact ⟨by simp [opB, bI, *], rfl⟩
        | 3, _, hsw =>
          refine o_tabInE (tgt := 144) (off := 64) dX0_opensBy_80 hsw (by decide) (by decide) (by decide) (by decide) ?_
          have hsw := sw_eq (l := 3) hsw (by decide)
          refine o_iload dX0_opensBy_144 rfl ?_
          refine o_iret dX0_opensBy_146 rfl (by first | exact nz_b _ | decide) (Nat.le_of_ble_eq_true rfl) (Nat.le_of_ble_eq_true rfl) ?_
          exact ⟨by simp [opB, bI, *], rfl⟩
        | 4, _, hsw =>
          refine o_tabInE (tgt := 147) (off := 67) dX0_opensBy_80 hsw (by decide) (by decide) (by decide) (by decide) ?_
          have hsw := sw_eq (l := 4) hsw (by decide)
          refine o_iload dX0_opensBy_147 rfl ?_
          refine o_if_ne (tgt := 158) dX0_opensBy_149 (by decide) (fun cq => absurd (by decide) cq) (fun _ => ?_)
          refine o_iload_n dX0_opensBy_152 rfl rfl ?_
          refine o_iconst dX0_opensBy_153 ic_2 ?_
          refine o_irem dX0_opensBy_154 (by decide) ?_
          refine o_if_ne (tgt := 162) dX0_opensBy_155 (by decide) (fun c_155 => ?_) (fun c_155 => ?_)
          · skip
            refine o_iconst dX0_opensBy_162 ic_0 ?_
            refine o_iret dX0_opensBy_163 rfl (by first | exact nz_b _ | decide) (Nat.le_of_ble_eq_true rfl) (Nat.le_of_ble_eq_true rfl) ?_
            exact ⟨by simp [opB, bI, *], rfl⟩
          · skip
            refine o_iconst dX0_opensBy_158 ic_1 ?_
            refine o_goto (tgt := 163) dX0_opensBy_159 (by decide) ?_
            refine o_iret dX0_opensBy_163 rfl (by first | exact nz_b _ | decide) (Nat.le_of_ble_eq_true rfl) (Nat.le_of_ble_eq_true rfl) ?_
            exact ⟨by simp [opB, bI, *], rfl⟩
        | 5, _, hsw =>
          refine o_tabInE (tgt := 164) (off := 84) dX0_opensBy_80 hsw (by decide) (by decide) (by decide) (by decide) ?_
          have hsw := sw_eq (l := 5) hsw (by decide)
          refine o_iload dX0_opensBy_164 rfl ?_
          refine o_if_eq (tgt := 178) dX0_opensBy_166 (by decide) (fun _ => ?_) (fun cq => absurd (by decide) cq)
          refine o_iconst dX0_opensBy_178 ic_0 ?_
          refine o_iret dX0_opensBy_179 rfl (by first | exact nz_b _ | decide) (Nat.le_of_ble_eq_true rfl) (Nat.le_of_ble_eq_true rfl) ?_
          exact ⟨by simp [opB, bI, *], rfl⟩
        | j + 6, hj, _ => exact absurd hj (by omega)
    · skip
      refine o_iconst dX0_opensBy_65 ic_1 ?_
      refine o_goto (tgt := 70) dX0_opensBy_66 (by decide) ?_
      refine o_istg_9 dX0_opensBy_70 rfl (Nat.le_of_ble_eq_true rfl) ?_
      refine o_aload_n dX0_opensBy_72 rfl rfl ?_
      refine o_getf (j := 0) dX0_opensBy_73 rfl hcX0 inX0 (Nat.le_of_ble_eq_true rfl) wd102 rfl rfl ?_
      refine o_iload_n dX0_opensBy_76 rfl rfl ?_
      refine o_callSNr (is := [1]) (at_f (by decide) rfl hd) ⟨rfl, rfl⟩ dX0_opensBy_77 wd91 csX4_at rfl ⟨(Nat.le_of_ble_eq_true rfl), (Nat.le_of_ble_eq_true rfl)⟩ rfl rfl rfl (Nat.le_of_ble_eq_true rfl) (Nat.le_of_ble_eq_true rfl) (Nat.le_of_ble_eq_true rfl) ?_
      refine o_sw (lo := 0) (hi := 5) 6 (by decide) (by decide) (by decide) (fun hsw => ?_) (fun j hj hsw => ?_)
      · refine o_tabOut (tgt := 180) dX0_opensBy_80 hsw (by decide) ?_
        refine o_iconst dX0_opensBy_180 ic_0 ?_
        refine o_iret dX0_opensBy_181 rfl (by first | exact nz_b _ | decide) (Nat.le_of_ble_eq_true rfl) (Nat.le_of_ble_eq_true rfl) ?_
        have n0 := sw_ne hsw 0 (by decide)
        have n1 := sw_ne hsw 1 (by decide)
        have n2 := sw_ne hsw 2 (by decide)
        have n3 := sw_ne hsw 3 (by decide)
        have n4 := sw_ne hsw 4 (by decide)
        have n5 := sw_ne hsw 5 (by decide)
        exact ⟨by simp [opB, bI, n0, n1, n2, n3, n4, n5], rfl⟩
      · match j, hj, hsw with
        | 0, _, hsw =>
          refine o_tabInE (tgt := 120) (off := 40) dX0_opensBy_80 hsw (by decide) (by decide) (by decide) (by decide) ?_
          have hsw := sw_eq (l := 0) hsw (by decide)
          refine o_iload dX0_opensBy_120 rfl ?_
          refine o_iret dX0_opensBy_122 rfl (by first | exact nz_b _ | decide) (Nat.le_of_ble_eq_true rfl) (Nat.le_of_ble_eq_true rfl) ?_
          exact ⟨by simp [opB, bI, *], rfl⟩
        | 1, _, hsw =>
          refine o_tabInE (tgt := 123) (off := 43) dX0_opensBy_80 hsw (by decide) (by decide) (by decide) (by decide) ?_
          have hsw := sw_eq (l := 1) hsw (by decide)
          refine o_iload dX0_opensBy_123 rfl ?_
          refine o_iret dX0_opensBy_125 rfl (by first | exact nz_b _ | decide) (Nat.le_of_ble_eq_true rfl) (Nat.le_of_ble_eq_true rfl) ?_
          exact ⟨by simp [opB, bI, *], rfl⟩
        | 2, _, hsw =>
          refine o_tabInE (tgt := 126) (off := 46) dX0_opensBy_80 hsw (by decide) (by decide) (by decide) (by decide) ?_
          have hsw := sw_eq (l := 2) hsw (by decide)
          refine o_iload dX0_opensBy_126 rfl ?_
          refine o_if_eq (tgt := 142) dX0_opensBy_128 (by decide) (fun _ => ?_) (fun cq => absurd (by decide) cq)
          refine o_iconst dX0_opensBy_142 ic_0 ?_
          refine o_iret dX0_opensBy_143 rfl (by first | exact nz_b _ | decide) (Nat.le_of_ble_eq_true rfl) (Nat.le_of_ble_eq_true rfl) ?_
          exact ⟨by simp [opB, bI, *], rfl⟩
        | 3, _, hsw =>
          refine o_tabInE (tgt := 144) (off := 64) dX0_opensBy_80 hsw (by decide) (by decide) (by decide) (by decide) ?_
          have hsw := sw_eq (l := 3) hsw (by decide)
          refine o_iload dX0_opensBy_144 rfl ?_
          refine o_iret dX0_opensBy_146 rfl (by first | exact nz_b _ | decide) (Nat.le_of_ble_eq_true rfl) (Nat.le_of_ble_eq_true rfl) ?_
          exact ⟨by simp [opB, bI, *], rfl⟩
        | 4, _, hsw =>
          refine o_tabInE (tgt := 147) (off := 67) dX0_opensBy_80 hsw (by decide) (by decide) (by decide) (by decide) ?_
          have hsw := sw_eq (l := 4) hsw (by decide)
          refine o_iload dX0_opensBy_147 rfl ?_
          refine o_if_ne (tgt := 158) dX0_opensBy_149 (by decide) (fun _ => ?_) (fun cq => absurd cq (by decide))
          refine o_iconst dX0_opensBy_158 ic_1 ?_
          refine o_goto (tgt := 163) dX0_opensBy_159 (by decide) ?_
          refine o_iret dX0_opensBy_163 rfl (by first | exact nz_b _ | decide) (Nat.le_of_ble_eq_true rfl) (Nat.le_of_ble_eq_true rfl) ?_
          exact ⟨by simp [opB, bI, *], rfl⟩
        | 5, _, hsw =>
          refine o_tabInE (tgt := 164) (off := 84) dX0_opensBy_80 hsw (by decide) (by decide) (by decide) (by decide) ?_
          have hsw := sw_eq (l := 5) hsw (by decide)
          refine o_iload dX0_opensBy_164 rfl ?_
          refine o_if_eq (tgt := 178) dX0_opensBy_166 (by decide) (fun _ => ?_) (fun cq => absurd (by decide) cq)
          refine o_iconst dX0_opensBy_178 ic_0 ?_
          refine o_iret dX0_opensBy_179 rfl (by first | exact nz_b _ | decide) (Nat.le_of_ble_eq_true rfl) (Nat.le_of_ble_eq_true rfl) ?_
          exact ⟨by simp [opB, bI, *], rfl⟩
        | j + 6, hj, _ => exact absurd hj (by omega)
  · skip
    refine o_iconst dX0_opensBy_27 ic_1 ?_
    refine o_goto (tgt := 32) dX0_opensBy_28 (by decide) ?_
    refine o_istg_7 dX0_opensBy_32 rfl (Nat.le_of_ble_eq_true rfl) ?_
    refine o_iload dX0_opensBy_34 rfl ?_
    refine o_if_eq (tgt := 50) dX0_opensBy_36 (by decide) (fun cq => absurd cq (by decide)) (fun _ => ?_)
    refine o_iload_n dX0_opensBy_39 rfl rfl ?_
    refine o_iload dX0_opensBy_40 rfl ?_
    refine o_irem dX0_opensBy_42 (beat_nz _) ?_
    refine o_if_ne (tgt := 50) dX0_opensBy_43 (by decide) (fun c_43 => ?_) (fun c_43 => ?_)
    · skip
      refine o_iconst dX0_opensBy_50 ic_0 ?_
      refine o_istg_8 dX0_opensBy_51 rfl (Nat.le_of_ble_eq_true rfl) ?_
      refine o_iload dX0_opensBy_53 rfl ?_
      refine o_if_ne (tgt := 65) dX0_opensBy_55 (by decide) (fun _ => ?_) (fun cq => absurd cq (by decide))
      refine o_iconst dX0_opensBy_65 ic_1 ?_
      refine o_goto (tgt := 70) dX0_opensBy_66 (by decide) ?_
      refine o_istg_9 dX0_opensBy_70 rfl (Nat.le_of_ble_eq_true rfl) ?_
      refine o_aload_n dX0_opensBy_72 rfl rfl ?_
      refine o_getf (j := 0) dX0_opensBy_73 rfl hcX0 inX0 (Nat.le_of_ble_eq_true rfl) wd102 rfl rfl ?_
      refine o_iload_n dX0_opensBy_76 rfl rfl ?_
      refine o_callSNr (is := [1]) (at_f (by decide) rfl hd) ⟨rfl, rfl⟩ dX0_opensBy_77 wd91 csX4_at rfl ⟨(Nat.le_of_ble_eq_true rfl), (Nat.le_of_ble_eq_true rfl)⟩ rfl rfl rfl (Nat.le_of_ble_eq_true rfl) (Nat.le_of_ble_eq_true rfl) (Nat.le_of_ble_eq_true rfl) ?_
      refine o_sw (lo := 0) (hi := 5) 6 (by decide) (by decide) (by decide) (fun hsw => ?_) (fun j hj hsw => ?_)
      · refine o_tabOut (tgt := 180) dX0_opensBy_80 hsw (by decide) ?_
        refine o_iconst dX0_opensBy_180 ic_0 ?_
        refine o_iret dX0_opensBy_181 rfl (by first | exact nz_b _ | decide) (Nat.le_of_ble_eq_true rfl) (Nat.le_of_ble_eq_true rfl) ?_
        have n0 := sw_ne hsw 0 (by decide)
        have n1 := sw_ne hsw 1 (by decide)
        have n2 := sw_ne hsw 2 (by decide)
        have n3 := sw_ne hsw 3 (by decide)
        have n4 := sw_ne hsw 4 (by decide)
        have n5 := sw_ne hsw 5 (by decide)
        exact ⟨by simp [opB, bI, n0, n1, n2, n3, n4, n5], rfl⟩
      · match j, hj, hsw with
        | 0, _, hsw =>
          refine o_tabInE (tgt := 120) (off := 40) dX0_opensBy_80 hsw (by decide) (by decide) (by decide) (by decide) ?_
          have hsw := sw_eq (l := 0) hsw (by decide)
          refine o_iload dX0_opensBy_120 rfl ?_
          refine o_iret dX0_opensBy_122 rfl (by first | exact nz_b _ | decide) (Nat.le_of_ble_eq_true rfl) (Nat.le_of_ble_eq_true rfl) ?_
          exact ⟨by simp [opB, bI, *], rfl⟩
        | 1, _, hsw =>
          refine o_tabInE (tgt := 123) (off := 43) dX0_opensBy_80 hsw (by decide) (by decide) (by decide) (by decide) ?_
          have hsw := sw_eq (l := 1) hsw (by decide)
          refine o_iload dX0_opensBy_123 rfl ?_
          refine o_iret dX0_opensBy_125 rfl (by first | exact nz_b _ | decide) (Nat.le_of_ble_eq_true rfl) (Nat.le_of_ble_eq_true rfl) ?_
          exact ⟨by simp [opB, bI, *], rfl⟩
        | 2, _, hsw =>
          refine o_tabInE (tgt := 126) (off := 46) dX0_opensBy_80 hsw (by decide) (by decide) (by decide) (by decide) ?_
          have hsw := sw_eq (l := 2) hsw (by decide)
          refine o_iload dX0_opensBy_126 rfl ?_
          refine o_if_eq (tgt := 142) dX0_opensBy_128 (by decide) (fun cq => absurd cq (by decide)) (fun _ => ?_)
          refine o_iload dX0_opensBy_131 rfl ?_
          refine o_iload dX0_opensBy_133 rfl ?_
          refine o_icmp_lt (tgt := 142) dX0_opensBy_135 (by decide) (fun c_135 => ?_) (fun c_135 => ?_)
          · skip
            refine o_iconst dX0_opensBy_142 ic_0 ?_
            refine o_iret dX0_opensBy_143 rfl (by first | exact nz_b _ | decide) (Nat.le_of_ble_eq_true rfl) (Nat.le_of_ble_eq_true rfl) ?_
            exact ⟨by simp [opB, bI, *], rfl⟩
          · skip
            refine o_iconst dX0_opensBy_138 ic_1 ?_
            refine o_goto (tgt := 143) dX0_opensBy_139 (by decide) ?_
            refine o_iret dX0_opensBy_143 rfl (by first | exact nz_b _ | decide) (Nat.le_of_ble_eq_true rfl) (Nat.le_of_ble_eq_true rfl) ?_
            exact ⟨by simp [opB, bI, *], rfl⟩
        | 3, _, hsw =>
          refine o_tabInE (tgt := 144) (off := 64) dX0_opensBy_80 hsw (by decide) (by decide) (by decide) (by decide) ?_
          have hsw := sw_eq (l := 3) hsw (by decide)
          refine o_iload dX0_opensBy_144 rfl ?_
          refine o_iret dX0_opensBy_146 rfl (by first | exact nz_b _ | decide) (Nat.le_of_ble_eq_true rfl) (Nat.le_of_ble_eq_true rfl) ?_
          exact ⟨by simp [opB, bI, *], rfl⟩
        | 4, _, hsw =>
          refine o_tabInE (tgt := 147) (off := 67) dX0_opensBy_80 hsw (by decide) (by decide) (by decide) (by decide) ?_
          have hsw := sw_eq (l := 4) hsw (by decide)
          refine o_iload dX0_opensBy_147 rfl ?_
          refine o_if_ne (tgt := 158) dX0_opensBy_149 (by decide) (fun _ => ?_) (fun cq => absurd cq (by decide))
          refine o_iconst dX0_opensBy_158 ic_1 ?_
          refine o_goto (tgt := 163) dX0_opensBy_159 (by decide) ?_
          refine o_iret dX0_opensBy_163 rfl (by first | exact nz_b _ | decide) (Nat.le_of_ble_eq_true rfl) (Nat.le_of_ble_eq_true rfl) ?_
          exact ⟨by simp [opB, bI, *], rfl⟩
        | 5, _, hsw =>
          refine o_tabInE (tgt := 164) (off := 84) dX0_opensBy_80 hsw (by decide) (by decide) (by decide) (by decide) ?_
          have hsw := sw_eq (l := 5) hsw (by decide)
          refine o_iload dX0_opensBy_164 rfl ?_
          refine o_if_eq (tgt := 178) dX0_opensBy_166 (by decide) (fun _ => ?_) (fun cq => absurd (by decide) cq)
          refine o_iconst dX0_opensBy_178 ic_0 ?_
          refine o_iret dX0_opensBy_179 rfl (by first | exact nz_b _ | decide) (Nat.le_of_ble_eq_true rfl) (Nat.le_of_ble_eq_true rfl) ?_
          exact ⟨by simp [opB, bI, *], rfl⟩
        | j + 6, hj, _ => exact absurd hj (by omega)
    · skip
      refine o_iconst dX0_opensBy_46 ic_1 ?_
      refine o_goto (tgt := 51) dX0_opensBy_47 (by decide) ?_
      refine o_istg_8 dX0_opensBy_51 rfl (Nat.le_of_ble_eq_true rfl) ?_
      refine o_iload dX0_opensBy_53 rfl ?_
      refine o_if_ne (tgt := 65) dX0_opensBy_55 (by decide) (fun _ => ?_) (fun cq => absurd cq (by decide))
      refine o_iconst dX0_opensBy_65 ic_1 ?_
      refine o_goto (tgt := 70) dX0_opensBy_66 (by decide) ?_
      refine o_istg_9 dX0_opensBy_70 rfl (Nat.le_of_ble_eq_true rfl) ?_
      refine o_aload_n dX0_opensBy_72 rfl rfl ?_
      refine o_getf (j := 0) dX0_opensBy_73 rfl hcX0 inX0 (Nat.le_of_ble_eq_true rfl) wd102 rfl rfl ?_
      refine o_iload_n dX0_opensBy_76 rfl rfl ?_
      refine o_callSNr (is := [1]) (at_f (by decide) rfl hd) ⟨rfl, rfl⟩ dX0_opensBy_77 wd91 csX4_at rfl ⟨(Nat.le_of_ble_eq_true rfl), (Nat.le_of_ble_eq_true rfl)⟩ rfl rfl rfl (Nat.le_of_ble_eq_true rfl) (Nat.le_of_ble_eq_true rfl) (Nat.le_of_ble_eq_true rfl) ?_
      refine o_sw (lo := 0) (hi := 5) 6 (by decide) (by decide) (by decide) (fun hsw => ?_) (fun j hj hsw => ?_)
      · refine o_tabOut (tgt := 180) dX0_opensBy_80 hsw (by decide) ?_
        refine o_iconst dX0_opensBy_180 ic_0 ?_
        refine o_iret dX0_opensBy_181 rfl (by first | exact nz_b _ | decide) (Nat.le_of_ble_eq_true rfl) (Nat.le_of_ble_eq_true rfl) ?_
        have n0 := sw_ne hsw 0 (by decide)
        have n1 := sw_ne hsw 1 (by decide)
        have n2 := sw_ne hsw 2 (by decide)
        have n3 := sw_ne hsw 3 (by decide)
        have n4 := sw_ne hsw 4 (by decide)
        have n5 := sw_ne hsw 5 (by decide)
        exact ⟨by simp [opB, bI, n0, n1, n2, n3, n4, n5], rfl⟩
      · match j, hj, hsw with
        | 0, _, hsw =>
          refine o_tabInE (tgt := 120) (off := 40) dX0_opensBy_80 hsw (by decide) (by decide) (by decide) (by decide) ?_
          have hsw := sw_eq (l := 0) hsw (by decide)
          refine o_iload dX0_opensBy_120 rfl ?_
          refine o_iret dX0_opensBy_122 rfl (by first | exact nz_b _ | decide) (Nat.le_of_ble_eq_true rfl) (Nat.le_of_ble_eq_true rfl) ?_
          exact ⟨by simp [opB, bI, *], rfl⟩
        | 1, _, hsw =>
          refine o_tabInE (tgt := 123) (off := 43) dX0_opensBy_80 hsw (by decide) (by decide) (by decide) (by decide) ?_
          have hsw := sw_eq (l := 1) hsw (by decide)
          refine o_iload dX0_opensBy_123 rfl ?_
          refine o_iret dX0_opensBy_125 rfl (by first | exact nz_b _ | decide) (Nat.le_of_ble_eq_true rfl) (Nat.le_of_ble_eq_true rfl) ?_
          exact ⟨by simp [opB, bI, *], rfl⟩
        | 2, _, hsw =>
          refine o_tabInE (tgt := 126) (off := 46) dX0_opensBy_80 hsw (by decide) (by decide) (by decide) (by decide) ?_
          have hsw := sw_eq (l := 2) hsw (by decide)
          refine o_iload dX0_opensBy_126 rfl ?_
          refine o_if_eq (tgt := 142) dX0_opensBy_128 (by decide) (fun cq => absurd cq (by decide)) (fun _ => ?_)
          refine o_iload dX0_opensBy_131 rfl ?_
          refine o_iload dX0_opensBy_133 rfl ?_
          refine o_icmp_lt (tgt := 142) dX0_opensBy_135 (by decide) (fun c_135 => ?_) (fun c_135 => ?_)
          · skip
            refine o_iconst dX0_opensBy_142 ic_0 ?_
            refine o_iret dX0_opensBy_143 rfl (by first | exact nz_b _ | decide) (Nat.le_of_ble_eq_true rfl) (Nat.le_of_ble_eq_true rfl) ?_
            exact ⟨by simp [opB, bI, *], rfl⟩
          · skip
            refine o_iconst dX0_opensBy_138 ic_1 ?_
            refine o_goto (tgt := 143) dX0_opensBy_139 (by decide) ?_
            refine o_iret dX0_opensBy_143 rfl (by first | exact nz_b _ | decide) (Nat.le_of_ble_eq_true rfl) (Nat.le_of_ble_eq_true rfl) ?_
            exact ⟨by simp [opB, bI, *], rfl⟩
        | 3, _, hsw =>
          refine o_tabInE (tgt := 144) (off := 64) dX0_opensBy_80 hsw (by decide) (by decide) (by decide) (by decide) ?_
          have hsw := sw_eq (l := 3) hsw (by decide)
          refine o_iload dX0_opensBy_144 rfl ?_
          refine o_iret dX0_opensBy_146 rfl (by first | exact nz_b _ | decide) (Nat.le_of_ble_eq_true rfl) (Nat.le_of_ble_eq_true rfl) ?_
          exact ⟨by simp [opB, bI, *], rfl⟩
        | 4, _, hsw =>
          refine o_tabInE (tgt := 147) (off := 67) dX0_opensBy_80 hsw (by decide) (by decide) (by decide) (by decide) ?_
          have hsw := sw_eq (l := 4) hsw (by decide)
          refine o_iload dX0_opensBy_147 rfl ?_
          refine o_if_ne (tgt := 158) dX0_opensBy_149 (by decide) (fun _ => ?_) (fun cq => absurd cq (by decide))
          refine o_iconst dX0_opensBy_158 ic_1 ?_
          refine o_goto (tgt := 163) dX0_opensBy_159 (by decide) ?_
          refine o_iret dX0_opensBy_163 rfl (by first | exact nz_b _ | decide) (Nat.le_of_ble_eq_true rfl) (Nat.le_of_ble_eq_true rfl) ?_
          exact ⟨by simp [opB, bI, *], rfl⟩
        | 5, _, hsw =>
          refine o_tabInE (tgt := 164) (off := 84) dX0_opensBy_80 hsw (by decide) (by decide) (by decide) (by decide) ?_
          have hsw := sw_eq (l := 5) hsw (by decide)
          refine o_iload dX0_opensBy_164 rfl ?_
          refine o_if_eq (tgt := 178) dX0_opensBy_166 (by decide) (fun cq => absurd cq (by decide)) (fun _ => ?_)
          refine o_iload_n dX0_opensBy_169 rfl rfl ?_
          refine o_iconst dX0_opensBy_170 ic_2 ?_
          refine o_icmp_lt (tgt := 178) dX0_opensBy_171 (by decide) (fun c_171 => ?_) (fun c_171 => ?_)
          · skip
            refine o_iconst dX0_opensBy_178 ic_0 ?_
            refine o_iret dX0_opensBy_179 rfl (by first | exact nz_b _ | decide) (Nat.le_of_ble_eq_true rfl) (Nat.le_of_ble_eq_true rfl) ?_
            exact ⟨by simp [opB, bI, *], rfl⟩
          · skip
            refine o_iconst dX0_opensBy_174 ic_1 ?_
            refine o_goto (tgt := 179) dX0_opensBy_175 (by decide) ?_
            refine o_iret dX0_opensBy_179 rfl (by first | exact nz_b _ | decide) (Nat.le_of_ble_eq_true rfl) (Nat.le_of_ble_eq_true rfl) ?_
            exact ⟨by simp [opB, bI, *], rfl⟩
        | j + 6, hj, _ => exact absurd hj (by omega)
