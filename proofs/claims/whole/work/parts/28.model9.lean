theorem lX5_manyIn {r m im wa fr lt rw rf nu : Nat → Int32} {hi pl sd : Int32} {L R : Nat} (hS : SOk r) {x : Int32} : ∀ (q k : Nat), nN r - k < q → k ≤ nN r → Ok mX5_manyIn none 4 [some (.ref 0), some (.int x), some (.int (mnS r x k)), some (.int (nI k))] [] (mW r m im wa fr hi lt rw rf (nI L) (nI R) pl nu sd) 0 0 (fun a w => a = some (.int (mnS r x (nN r))) ∧ w = mW r m im wa fr hi lt rw rf (nI L) (nI R) pl nu sd) := by
  intro q
  induction q with
  | zero => intro k hq hk; omega
  | succ q ih =>
  intro k hq hk
  have h6 := hS.n6
  have h9 := hS.d9
  refine o_iload_n dX5_manyIn_4 rfl rfl ?_
  refine o_aload_n dX5_manyIn_5 rfl rfl ?_
  refine o_getf (j := 0) dX5_manyIn_6 rfl hcX5 inX5 (Nat.le_of_ble_eq_true rfl) wd686 rfl rfl ?_
  refine o_iconst dX5_manyIn_9 ic_1 ?_
  refine o_ialp (i := 1) dX5_manyIn_10 rfl (rfl) (by decide) ?_
  refine o_icmp_ge (tgt := 42) dX5_manyIn_11 (by decide) (fun c_11 => ?_) (fun c_11 => ?_)
  · rw [hS.e1] at c_11
    have hkN : k = nN r := Nat.le_antisymm hk (geI (by omega) (by omega) c_11)
    refine o_iload_n dX5_manyIn_42 rfl rfl ?_
    refine o_iret dX5_manyIn_43 rfl (vp_nar_int _) (Nat.le_of_ble_eq_true rfl) (Nat.le_of_ble_eq_true rfl) ?_
    exact ⟨by rw [hkN], rfl⟩
  · rw [hS.e1] at c_11
    have hkN : k < nN r := ltI (by omega) (by omega) c_11
    refine o_iload_n dX5_manyIn_14 rfl rfl ?_
    refine o_aload_n dX5_manyIn_15 rfl rfl ?_
    refine o_getf (j := 0) dX5_manyIn_16 rfl hcX5 inX5 (Nat.le_of_ble_eq_true rfl) wd686 rfl rfl ?_
    refine o_iload_n dX5_manyIn_19 rfl rfl ?_
    refine o_iconst dX5_manyIn_20 ic_0 ?_
    refine o_callSr (is := []) (ofP0) ⟨rfl, rfl⟩ dX5_manyIn_21 wd783 csX5_ofP rfl ⟨(Nat.le_of_ble_eq_true rfl), (Nat.le_of_ble_eq_true rfl)⟩ rfl rfl rfl (Nat.le_of_ble_eq_true rfl) (Nat.le_of_ble_eq_true rfl) (Nat.le_of_ble_eq_true rfl) ?_
    refine o_ialp (i := 50 + 3 * k) dX5_manyIn_24 rfl (rfl) (by omega) ?_
    refine o_iload_n dX5_manyIn_25 rfl rfl ?_
    refine o_icmp_ne (tgt := 33) dX5_manyIn_26 (by decide) (fun c_26 => ?_) (fun c_26 => ?_)
    · skip
      refine o_iconst dX5_manyIn_33 ic_0 ?_
      refine o_iadd dX5_manyIn_34 ?_
      refine o_istn_2 dX5_manyIn_35 rfl rfl (Nat.le_of_ble_eq_true rfl) ?_
      refine o_inc_3 dX5_manyIn_36 rfl ic_1 (Nat.le_of_ble_eq_true rfl) ?_
      refine o_goto (tgt := 4) dX5_manyIn_39 (by decide) ?_
      exact o_eqa (by rw [nI_1, mnS, if_neg c_26]) rfl (ih (k + 1) (by omega) (by omega))
    · skip
      refine o_iconst dX5_manyIn_29 ic_1 ?_
      refine o_goto (tgt := 34) dX5_manyIn_30 (by decide) ?_
      refine o_iadd dX5_manyIn_34 ?_
      refine o_istn_2 dX5_manyIn_35 rfl rfl (Nat.le_of_ble_eq_true rfl) ?_
      refine o_inc_3 dX5_manyIn_36 rfl ic_1 (Nat.le_of_ble_eq_true rfl) ?_
      refine o_goto (tgt := 4) dX5_manyIn_39 (by decide) ?_
      exact o_eqa (by rw [nI_1, mnS, if_pos c_26]) rfl (ih (k + 1) (by omega) (by omega))
theorem tX5_manyIn {r m im wa fr lt rw rf nu : Nat → Int32} {hi pl sd : Int32} {L R : Nat} (hS : SOk r) {x : Int32} : PD mX5_manyIn [.ref 0, .int x] (mW r m im wa fr hi lt rw rf (nI L) (nI R) pl nu sd) (some (.int (mnS r x (nN r)))) (mW r m im wa fr hi lt rw rf (nI L) (nI R) pl nu sd) := by
  refine PM.ofp 2 (by decide) (Nat.le_of_ble_eq_true rfl) ?_
  show Ok mX5_manyIn none 0 [some (.ref 0), some (.int x), none, none] [] (mW r m im wa fr hi lt rw rf (nI L) (nI R) pl nu sd) 0 0 _
  refine o_iconst dX5_manyIn_0 ic_0 ?_
  refine o_istn_2 dX5_manyIn_1 rfl rfl (Nat.le_of_ble_eq_true rfl) ?_
  refine o_iconst dX5_manyIn_2 ic_0 ?_
  refine o_istn_3 dX5_manyIn_3 rfl rfl (Nat.le_of_ble_eq_true rfl) ?_
  exact o_eqa (by rw [nI_0]; rfl) rfl (lX5_manyIn hS (nN r + 1) 0 (by omega) (by omega))
theorem lX5_doorsBy2 {r m im wa fr lt rw rf nu : Nat → Int32} {hi pl sd : Int32} {L R : Nat} (hS : SOk r) {x : Int32} : ∀ (q k : Nat), dN r - k < q → k ≤ dN r → Ok mX5_doorsBy none 5 [some (.ref 0), some (.int 2), some (.int x), some (.int (dbS r 7 x k)), some (.int (nI k))] [] (mW r m im wa fr hi lt rw rf (nI L) (nI R) pl nu sd) 0 0 (fun a w => a = some (.int (dbS r 7 x (dN r))) ∧ w = mW r m im wa fr hi lt rw rf (nI L) (nI R) pl nu sd) := by
  intro q
  induction q with
  | zero => intro k hq hk; omega
  | succ q ih =>
  intro k hq hk
  have h6 := hS.n6
  have h9 := hS.d9
  refine o_iload dX5_doorsBy_5 rfl ?_
  refine o_aload_n dX5_doorsBy_7 rfl rfl ?_
  refine o_getf (j := 0) dX5_doorsBy_8 rfl hcX5 inX5 (Nat.le_of_ble_eq_true rfl) wd686 rfl rfl ?_
  refine o_iconst dX5_doorsBy_11 ic_0 ?_
  refine o_ialp (i := 0) dX5_doorsBy_12 rfl (rfl) (by decide) ?_
  refine o_icmp_ge (tgt := 48) dX5_doorsBy_13 (by decide) (fun c_13 => ?_) (fun c_13 => ?_)
  · rw [hS.e0] at c_13
    have hkN : k = dN r := Nat.le_antisymm hk (geI (by omega) (by omega) c_13)
    refine o_iload_n dX5_doorsBy_48 rfl rfl ?_
    refine o_iret dX5_doorsBy_49 rfl (vp_nar_int _) (Nat.le_of_ble_eq_true rfl) (Nat.le_of_ble_eq_true rfl) ?_
    exact ⟨by rw [hkN], rfl⟩
  · rw [hS.e0] at c_13
    have hkN : k < dN r := ltI (by omega) (by omega) c_13
    refine o_iload_n dX5_doorsBy_16 rfl rfl ?_
    refine o_aload_n dX5_doorsBy_17 rfl rfl ?_
    refine o_getf (j := 0) dX5_doorsBy_18 rfl hcX5 inX5 (Nat.le_of_ble_eq_true rfl) wd686 rfl rfl ?_
    refine o_iload dX5_doorsBy_21 rfl ?_
    refine o_iload_n dX5_doorsBy_23 rfl rfl ?_
    refine o_callSr (is := []) (ofD2) ⟨rfl, rfl⟩ dX5_doorsBy_24 wd777 csX5_ofD rfl ⟨(Nat.le_of_ble_eq_true rfl), (Nat.le_of_ble_eq_true rfl)⟩ rfl rfl rfl (Nat.le_of_ble_eq_true rfl) (Nat.le_of_ble_eq_true rfl) (Nat.le_of_ble_eq_true rfl) ?_
    refine o_ialp (i := 7 + 5 * k) dX5_doorsBy_27 rfl (rfl) (by omega) ?_
    refine o_iload_n dX5_doorsBy_28 rfl rfl ?_
    refine o_icmp_ne (tgt := 39) dX5_doorsBy_29 (by decide) (fun c_29 => ?_) (fun c_29 => ?_)
    · skip
      refine o_iconst dX5_doorsBy_39 ic_0 ?_
      refine o_ior dX5_doorsBy_40 ?_
      refine o_istn_3 dX5_doorsBy_41 rfl rfl (Nat.le_of_ble_eq_true rfl) ?_
      refine o_inc_4 dX5_doorsBy_42 rfl ic_1 (Nat.le_of_ble_eq_true rfl) ?_
      refine o_goto (tgt := 5) dX5_doorsBy_45 (by decide) ?_
      exact o_eqa (by rw [nI_1, dbS, if_neg c_29]) rfl (ih (k + 1) (by omega) (by omega))
    · skip
      refine o_iconst dX5_doorsBy_32 ic_1 ?_
      refine o_iload dX5_doorsBy_33 rfl ?_
      refine o_ishl dX5_doorsBy_35 ?_
      refine o_goto (tgt := 40) dX5_doorsBy_36 (by decide) ?_
      refine o_ior dX5_doorsBy_40 ?_
      refine o_istn_3 dX5_doorsBy_41 rfl rfl (Nat.le_of_ble_eq_true rfl) ?_
      refine o_inc_4 dX5_doorsBy_42 rfl ic_1 (Nat.le_of_ble_eq_true rfl) ?_
      refine o_goto (tgt := 5) dX5_doorsBy_45 (by decide) ?_
      exact o_eqa (by rw [nI_1, dbS, if_pos c_29]) rfl (ih (k + 1) (by omega) (by omega))
theorem tX5_doorsBy2 {r m im wa fr lt rw rf nu : Nat → Int32} {hi pl sd : Int32} {L R : Nat} (hS : SOk r) {x : Int32} : PD mX5_doorsBy [.ref 0, .int 2, .int x] (mW r m im wa fr hi lt rw rf (nI L) (nI R) pl nu sd) (some (.int (dbS r 7 x (dN r)))) (mW r m im wa fr hi lt rw rf (nI L) (nI R) pl nu sd) := by
  refine PM.ofp 2 (by decide) (Nat.le_of_ble_eq_true rfl) ?_
  show Ok mX5_doorsBy none 0 [some (.ref 0), some (.int 2), some (.int x), none, none] [] (mW r m im wa fr hi lt rw rf (nI L) (nI R) pl nu sd) 0 0 _
  refine o_iconst dX5_doorsBy_0 ic_0 ?_
  refine o_istn_3 dX5_doorsBy_1 rfl rfl (Nat.le_of_ble_eq_true rfl) ?_
  refine o_iconst dX5_doorsBy_2 ic_0 ?_
  refine o_istg_4 dX5_doorsBy_3 rfl (Nat.le_of_ble_eq_true rfl) ?_
  exact o_eqa (by rw [nI_0]; rfl) rfl (lX5_doorsBy2 hS (dN r + 1) 0 (by omega) (by omega))
theorem lX5_doorsBy3 {r m im wa fr lt rw rf nu : Nat → Int32} {hi pl sd : Int32} {L R : Nat} (hS : SOk r) {x : Int32} : ∀ (q k : Nat), dN r - k < q → k ≤ dN r → Ok mX5_doorsBy none 5 [some (.ref 0), some (.int 3), some (.int x), some (.int (dbS r 8 x k)), some (.int (nI k))] [] (mW r m im wa fr hi lt rw rf (nI L) (nI R) pl nu sd) 0 0 (fun a w => a = some (.int (dbS r 8 x (dN r))) ∧ w = mW r m im wa fr hi lt rw rf (nI L) (nI R) pl nu sd) := by
  intro q
  induction q with
  | zero => intro k hq hk; omega
  | succ q ih =>
  intro k hq hk
  have h6 := hS.n6
  have h9 := hS.d9
  refine o_iload dX5_doorsBy_5 rfl ?_
  refine o_aload_n dX5_doorsBy_7 rfl rfl ?_
  refine o_getf (j := 0) dX5_doorsBy_8 rfl hcX5 inX5 (Nat.le_of_ble_eq_true rfl) wd686 rfl rfl ?_
  refine o_iconst dX5_doorsBy_11 ic_0 ?_
  refine o_ialp (i := 0) dX5_doorsBy_12 rfl (rfl) (by decide) ?_
  refine o_icmp_ge (tgt := 48) dX5_doorsBy_13 (by decide) (fun c_13 => ?_) (fun c_13 => ?_)
  · rw [hS.e0] at c_13
    have hkN : k = dN r := Nat.le_antisymm hk (geI (by omega) (by omega) c_13)
    refine o_iload_n dX5_doorsBy_48 rfl rfl ?_
    refine o_iret dX5_doorsBy_49 rfl (vp_nar_int _) (Nat.le_of_ble_eq_true rfl) (Nat.le_of_ble_eq_true rfl) ?_
    exact ⟨by rw [hkN], rfl⟩
  · rw [hS.e0] at c_13
    have hkN : k < dN r := ltI (by omega) (by omega) c_13
    refine o_iload_n dX5_doorsBy_16 rfl rfl ?_
    refine o_aload_n dX5_doorsBy_17 rfl rfl ?_
    refine o_getf (j := 0) dX5_doorsBy_18 rfl hcX5 inX5 (Nat.le_of_ble_eq_true rfl) wd686 rfl rfl ?_
    refine o_iload dX5_doorsBy_21 rfl ?_
    refine o_iload_n dX5_doorsBy_23 rfl rfl ?_
    refine o_callSr (is := []) (ofD3) ⟨rfl, rfl⟩ dX5_doorsBy_24 wd777 csX5_ofD rfl ⟨(Nat.le_of_ble_eq_true rfl), (Nat.le_of_ble_eq_true rfl)⟩ rfl rfl rfl (Nat.le_of_ble_eq_true rfl) (Nat.le_of_ble_eq_true rfl) (Nat.le_of_ble_eq_true rfl) ?_
    refine o_ialp (i := 8 + 5 * k) dX5_doorsBy_27 rfl (rfl) (by omega) ?_
    refine o_iload_n dX5_doorsBy_28 rfl rfl ?_
    refine o_icmp_ne (tgt := 39) dX5_doorsBy_29 (by decide) (fun c_29 => ?_) (fun c_29 => ?_)
    · skip
      refine o_iconst dX5_doorsBy_39 ic_0 ?_
      refine o_ior dX5_doorsBy_40 ?_
      refine o_istn_3 dX5_doorsBy_41 rfl rfl (Nat.le_of_ble_eq_true rfl) ?_
      refine o_inc_4 dX5_doorsBy_42 rfl ic_1 (Nat.le_of_ble_eq_true rfl) ?_
      refine o_goto (tgt := 5) dX5_doorsBy_45 (by decide) ?_
      exact o_eqa (by rw [nI_1, dbS, if_neg c_29]) rfl (ih (k + 1) (by omega) (by omega))
    · skip
      refine o_iconst dX5_doorsBy_32 ic_1 ?_
      refine o_iload dX5_doorsBy_33 rfl ?_
      refine o_ishl dX5_doorsBy_35 ?_
      refine o_goto (tgt := 40) dX5_doorsBy_36 (by decide) ?_
      refine o_ior dX5_doorsBy_40 ?_
      refine o_istn_3 dX5_doorsBy_41 rfl rfl (Nat.le_of_ble_eq_true rfl) ?_
      refine o_inc_4 dX5_doorsBy_42 rfl ic_1 (Nat.le_of_ble_eq_true rfl) ?_
      refine o_goto (tgt := 5) dX5_doorsBy_45 (by decide) ?_
      exact o_eqa (by rw [nI_1, dbS, if_pos c_29]) rfl (ih (k + 1) (by omega) (by omega))
theorem tX5_doorsBy3 {r m im wa fr lt rw rf nu : Nat → Int32} {hi pl sd : Int32} {L R : Nat} (hS : SOk r) {x : Int32} : PD mX5_doorsBy [.ref 0, .int 3, .int x] (mW r m im wa fr hi lt rw rf (nI L) (nI R) pl nu sd) (some (.int (dbS r 8 x (dN r)))) (mW r m im wa fr hi lt rw rf (nI L) (nI R) pl nu sd) := by
  refine PM.ofp 2 (by decide) (Nat.le_of_ble_eq_true rfl) ?_
  show Ok mX5_doorsBy none 0 [some (.ref 0), some (.int 3), some (.int x), none, none] [] (mW r m im wa fr hi lt rw rf (nI L) (nI R) pl nu sd) 0 0 _
  refine o_iconst dX5_doorsBy_0 ic_0 ?_
  refine o_istn_3 dX5_doorsBy_1 rfl rfl (Nat.le_of_ble_eq_true rfl) ?_
  refine o_iconst dX5_doorsBy_2 ic_0 ?_
  refine o_istg_4 dX5_doorsBy_3 rfl (Nat.le_of_ble_eq_true rfl) ?_
  exact o_eqa (by rw [nI_0]; rfl) rfl (lX5_doorsBy3 hS (dN r + 1) 0 (by omega) (by omega))
theorem lX5_crowd {r m im wa fr lt rw rf nu : Nat → Int32} {hi pl sd : Int32} {L R : Nat} (hS : SOk r) {w : Int32} (hw : inR 4 w = true) : ∀ (q k : Nat), 8 - k < q → k ≤ 8 → Ok mX5_crowd none 23 [some (.ref 0), some (.int w), some (.int (cwF r k)), some (.int (cwT r w k)), some (.int (nI k))] [] (mW r m im wa fr hi lt rw rf (nI L) (nI R) pl nu sd) 0 0 (MP (s_crowd w (r, im, hi, lt, L, rw, R, rf))) := by
  intro q
  induction q with
  | zero => intro k hq hk; omega
  | succ q ih =>
  intro k hq hk
  refine o_iload dX5_crowd_23 rfl ?_
  refine o_bipush dX5_crowd_25 bp_8 ?_
  refine o_icmp_ge (tgt := 91) dX5_crowd_27 (by decide) (fun c_27 => ?_) (fun c_27 => ?_)
  · have hkN : k = 8 := Nat.le_antisymm hk (geI (b := 8) (by omega) (by omega) c_27)
    subst hkN
    refine o_iload_n dX5_crowd_91 rfl rfl ?_
    refine o_if_ne (tgt := 99) dX5_crowd_92 (by decide) (fun c_92 => ?_) (fun c_92 => ?_)
    · skip
      refine o_iload_n dX5_crowd_99 rfl rfl ?_
      refine o_iconst dX5_crowd_100 ic_1 ?_
      refine o_icmp_ne (tgt := 112) dX5_crowd_101 (by decide) (fun c_101 => ?_) (fun c_101 => ?_)
      · skip
        refine o_iload_n dX5_crowd_112 rfl rfl ?_
        refine o_iret dX5_crowd_113 rfl (vp_nar_int _) (Nat.le_of_ble_eq_true rfl) (Nat.le_of_ble_eq_true rfl) ?_
        exact MP.mk (σ := (r, im, hi, lt, L, rw, R, rf)) (by simp only [s_crowd, hw, if_true, if_neg c_92, if_neg c_101])
      · skip
        refine o_aload_n dX5_crowd_104 rfl rfl ?_
        refine o_iload_n dX5_crowd_105 rfl rfl ?_
        refine o_callVr (is := [0, 1, 2, 3, 4, 5, 6, 7, 8, 9]) (tX5_manyIn hS) ⟨rfl, rfl⟩ dX5_crowd_106 wd977 cvX5_manyIn rfl ⟨(Nat.le_of_ble_eq_true rfl), (Nat.le_of_ble_eq_true rfl)⟩ hcX5 rfl rfl rfl rfl (Nat.le_of_ble_eq_true rfl) (Nat.le_of_ble_eq_true rfl) (Nat.le_of_ble_eq_true rfl) ?_
        refine o_goto (tgt := 113) dX5_crowd_109 (by decide) ?_
        refine o_iret dX5_crowd_113 rfl (vp_nar_int _) (Nat.le_of_ble_eq_true rfl) (Nat.le_of_ble_eq_true rfl) ?_
        exact MP.mk (σ := (r, im, hi, lt, L, rw, R, rf)) (by simp only [s_crowd, hw, if_true, if_neg c_92, if_pos c_101])
    · skip
      refine o_iload_n dX5_crowd_95 rfl rfl ?_
      refine o_goto (tgt := 113) dX5_crowd_96 (by decide) ?_
      refine o_iret dX5_crowd_113 rfl (vp_nar_int _) (Nat.le_of_ble_eq_true rfl) (Nat.le_of_ble_eq_true rfl) ?_
      exact MP.mk (σ := (r, im, hi, lt, L, rw, R, rf)) (by simp only [s_crowd, hw, if_true, if_pos c_92])
  · have hkN : k < 8 := ltI (b := 8) (by omega) (by omega) c_27
    refine o_aload_n dX5_crowd_30 rfl rfl ?_
    refine o_iload dX5_crowd_31 rfl ?_
    refine o_callVr (is := [0, 1, 2, 3, 4, 5, 6, 7, 8, 9]) (tX5_manyIn hS) ⟨rfl, rfl⟩ dX5_crowd_33 wd977 cvX5_manyIn rfl ⟨(Nat.le_of_ble_eq_true rfl), (Nat.le_of_ble_eq_true rfl)⟩ hcX5 rfl rfl rfl rfl (Nat.le_of_ble_eq_true rfl) (Nat.le_of_ble_eq_true rfl) (Nat.le_of_ble_eq_true rfl) ?_
    refine o_aload_n dX5_crowd_36 rfl rfl ?_
    refine o_iload_n dX5_crowd_37 rfl rfl ?_
    refine o_callVr (is := [0, 1, 2, 3, 4, 5, 6, 7, 8, 9]) (tX5_manyIn hS) ⟨rfl, rfl⟩ dX5_crowd_38 wd977 cvX5_manyIn rfl ⟨(Nat.le_of_ble_eq_true rfl), (Nat.le_of_ble_eq_true rfl)⟩ hcX5 rfl rfl rfl rfl (Nat.le_of_ble_eq_true rfl) (Nat.le_of_ble_eq_true rfl) (Nat.le_of_ble_eq_true rfl) ?_
    refine o_icmp_le (tgt := 47) dX5_crowd_41 (by decide) (fun c_41 => ?_) (fun c_41 => ?_)
    · have hf : cwF r (k + 1) = cwF r k := by rw [cwF, if_neg (Int32.not_lt.mpr c_41)]
      refine o_iload_n dX5_crowd_47 rfl rfl ?_
      refine o_iload_n dX5_crowd_48 rfl rfl ?_
      refine o_iconst dX5_crowd_49 ic_2 ?_
      refine o_icmp_ne (tgt := 65) dX5_crowd_50 (by decide) (fun c_50 => ?_) (fun c_50 => ?_)
      · skip
        refine o_aload_n dX5_crowd_65 rfl rfl ?_
        refine o_iconst dX5_crowd_66 ic_2 ?_
        refine o_iload dX5_crowd_67 rfl ?_
        refine o_callVr (is := [0, 1, 2, 3, 4, 5, 6, 7, 8, 9]) (tX5_doorsBy2 hS) ⟨rfl, rfl⟩ dX5_crowd_69 wd981 cvX5_doorsBy rfl ⟨(Nat.le_of_ble_eq_true rfl), (Nat.le_of_ble_eq_true rfl)⟩ hcX5 rfl rfl rfl rfl (Nat.le_of_ble_eq_true rfl) (Nat.le_of_ble_eq_true rfl) (Nat.le_of_ble_eq_true rfl) ?_
        refine o_if_ne (tgt := 82) dX5_crowd_72 (by decide) (fun c_72 => ?_) (fun c_72 => ?_)
        · have hs : cwT r w (k + 1) = cwT r w k ||| 0 := by rw [cwT, if_neg c_50, if_neg c_72]
          refine o_iconst dX5_crowd_82 ic_0 ?_
          refine o_ior dX5_crowd_83 ?_
          refine o_istn_3 dX5_crowd_84 rfl rfl (Nat.le_of_ble_eq_true rfl) ?_
          refine o_inc_4 dX5_crowd_85 rfl ic_1 (Nat.le_of_ble_eq_true rfl) ?_
          refine o_goto (tgt := 23) dX5_crowd_88 (by decide) ?_
          exact o_eqa (by rw [nI_1, hf, hs]) rfl (ih (k + 1) (by omega) (by omega))
        · have hs : cwT r w (k + 1) = cwT r w k ||| (1 <<< (nI k &&& 31)) := by rw [cwT, if_neg c_50, if_pos c_72]
          refine o_iconst dX5_crowd_75 ic_1 ?_
          refine o_iload dX5_crowd_76 rfl ?_
          refine o_ishl dX5_crowd_78 ?_
          refine o_goto (tgt := 83) dX5_crowd_79 (by decide) ?_
          refine o_ior dX5_crowd_83 ?_
          refine o_istn_3 dX5_crowd_84 rfl rfl (Nat.le_of_ble_eq_true rfl) ?_
          refine o_inc_4 dX5_crowd_85 rfl ic_1 (Nat.le_of_ble_eq_true rfl) ?_
          refine o_goto (tgt := 23) dX5_crowd_88 (by decide) ?_
          exact o_eqa (by rw [nI_1, hf, hs]) rfl (ih (k + 1) (by omega) (by omega))
      · skip
        refine o_aload_n dX5_crowd_53 rfl rfl ?_
        refine o_iload dX5_crowd_54 rfl ?_
        refine o_callVr (is := [0, 1, 2, 3, 4, 5, 6, 7, 8, 9]) (tX5_manyIn hS) ⟨rfl, rfl⟩ dX5_crowd_56 wd977 cvX5_manyIn rfl ⟨(Nat.le_of_ble_eq_true rfl), (Nat.le_of_ble_eq_true rfl)⟩ hcX5 rfl rfl rfl rfl (Nat.le_of_ble_eq_true rfl) (Nat.le_of_ble_eq_true rfl) (Nat.le_of_ble_eq_true rfl) ?_
        refine o_if_ne (tgt := 82) dX5_crowd_59 (by decide) (fun c_59 => ?_) (fun c_59 => ?_)
        · have hs : cwT r w (k + 1) = cwT r w k ||| 0 := by rw [cwT, if_pos c_50, if_neg c_59]
          refine o_iconst dX5_crowd_82 ic_0 ?_
          refine o_ior dX5_crowd_83 ?_
          refine o_istn_3 dX5_crowd_84 rfl rfl (Nat.le_of_ble_eq_true rfl) ?_
          refine o_inc_4 dX5_crowd_85 rfl ic_1 (Nat.le_of_ble_eq_true rfl) ?_
          refine o_goto (tgt := 23) dX5_crowd_88 (by decide) ?_
          exact o_eqa (by rw [nI_1, hf, hs]) rfl (ih (k + 1) (by omega) (by omega))
        · have hs : cwT r w (k + 1) = cwT r w k ||| (1 <<< (nI k &&& 31)) := by rw [cwT, if_pos c_50, if_pos c_59]
          refine o_goto (tgt := 75) dX5_crowd_62 (by decide) ?_
          refine o_iconst dX5_crowd_75 ic_1 ?_
          refine o_iload dX5_crowd_76 rfl ?_
          refine o_ishl dX5_crowd_78 ?_
          refine o_goto (tgt := 83) dX5_crowd_79 (by decide) ?_
          refine o_ior dX5_crowd_83 ?_
          refine o_istn_3 dX5_crowd_84 rfl rfl (Nat.le_of_ble_eq_true rfl) ?_
          refine o_inc_4 dX5_crowd_85 rfl ic_1 (Nat.le_of_ble_eq_true rfl) ?_
          refine o_goto (tgt := 23) dX5_crowd_88 (by decide) ?_
          exact o_eqa (by rw [nI_1, hf, hs]) rfl (ih (k + 1) (by omega) (by omega))
    · have hf : cwF r (k + 1) = nI k := by rw [cwF, if_pos (Int32.not_le.mp c_41)]
      refine o_iload dX5_crowd_44 rfl ?_
      refine o_istn_2 dX5_crowd_46 rfl rfl (Nat.le_of_ble_eq_true rfl) ?_
      refine o_iload_n dX5_crowd_47 rfl rfl ?_
      refine o_iload_n dX5_crowd_48 rfl rfl ?_
      refine o_iconst dX5_crowd_49 ic_2 ?_
      refine o_icmp_ne (tgt := 65) dX5_crowd_50 (by decide) (fun c_50 => ?_) (fun c_50 => ?_)
      · skip
        refine o_aload_n dX5_crowd_65 rfl rfl ?_
        refine o_iconst dX5_crowd_66 ic_2 ?_
        refine o_iload dX5_crowd_67 rfl ?_
        refine o_callVr (is := [0, 1, 2, 3, 4, 5, 6, 7, 8, 9]) (tX5_doorsBy2 hS) ⟨rfl, rfl⟩ dX5_crowd_69 wd981 cvX5_doorsBy rfl ⟨(Nat.le_of_ble_eq_true rfl), (Nat.le_of_ble_eq_true rfl)⟩ hcX5 rfl rfl rfl rfl (Nat.le_of_ble_eq_true rfl) (Nat.le_of_ble_eq_true rfl) (Nat.le_of_ble_eq_true rfl) ?_
        refine o_if_ne (tgt := 82) dX5_crowd_72 (by decide) (fun c_72 => ?_) (fun c_72 => ?_)
        · have hs : cwT r w (k + 1) = cwT r w k ||| 0 := by rw [cwT, if_neg c_50, if_neg c_72]
          refine o_iconst dX5_crowd_82 ic_0 ?_
          refine o_ior dX5_crowd_83 ?_
          refine o_istn_3 dX5_crowd_84 rfl rfl (Nat.le_of_ble_eq_true rfl) ?_
          refine o_inc_4 dX5_crowd_85 rfl ic_1 (Nat.le_of_ble_eq_true rfl) ?_
          refine o_goto (tgt := 23) dX5_crowd_88 (by decide) ?_
          exact o_eqa (by rw [nI_1, hf, hs]) rfl (ih (k + 1) (by omega) (by omega))
        · have hs : cwT r w (k + 1) = cwT r w k ||| (1 <<< (nI k &&& 31)) := by rw [cwT, if_neg c_50, if_pos c_72]
          refine o_iconst dX5_crowd_75 ic_1 ?_
          refine o_iload dX5_crowd_76 rfl ?_
          refine o_ishl dX5_crowd_78 ?_
          refine o_goto (tgt := 83) dX5_crowd_79 (by decide) ?_
          refine o_ior dX5_crowd_83 ?_
          refine o_istn_3 dX5_crowd_84 rfl rfl (Nat.le_of_ble_eq_true rfl) ?_
          refine o_inc_4 dX5_crowd_85 rfl ic_1 (Nat.le_of_ble_eq_true rfl) ?_
          refine o_goto (tgt := 23) dX5_crowd_88 (by decide) ?_
          exact o_eqa (by rw [nI_1, hf, hs]) rfl (ih (k + 1) (by omega) (by omega))
      · skip
        refine o_aload_n dX5_crowd_53 rfl rfl ?_
        refine o_iload dX5_crowd_54 rfl ?_
        refine o_callVr (is := [0, 1, 2, 3, 4, 5, 6, 7, 8, 9]) (tX5_manyIn hS) ⟨rfl, rfl⟩ dX5_crowd_56 wd977 cvX5_manyIn rfl ⟨(Nat.le_of_ble_eq_true rfl), (Nat.le_of_ble_eq_true rfl)⟩ hcX5 rfl rfl rfl rfl (Nat.le_of_ble_eq_true rfl) (Nat.le_of_ble_eq_true rfl) (Nat.le_of_ble_eq_true rfl) ?_
        refine o_if_ne (tgt := 82) dX5_crowd_59 (by decide) (fun c_59 => ?_) (fun c_59 => ?_)
        · have hs : cwT r w (k + 1) = cwT r w k ||| 0 := by rw [cwT, if_pos c_50, if_neg c_59]
          refine o_iconst dX5_crowd_82 ic_0 ?_
          refine o_ior dX5_crowd_83 ?_
          refine o_istn_3 dX5_crowd_84 rfl rfl (Nat.le_of_ble_eq_true rfl) ?_
          refine o_inc_4 dX5_crowd_85 rfl ic_1 (Nat.le_of_ble_eq_true rfl) ?_
          refine o_goto (tgt := 23) dX5_crowd_88 (by decide) ?_
          exact o_eqa (by rw [nI_1, hf, hs]) rfl (ih (k + 1) (by omega) (by omega))
        · have hs : cwT r w (k + 1) = cwT r w k ||| (1 <<< (nI k &&& 31)) := by rw [cwT, if_pos c_50, if_pos c_59]
          refine o_goto (tgt := 75) dX5_crowd_62 (by decide) ?_
          refine o_iconst dX5_crowd_75 ic_1 ?_
          refine o_iload dX5_crowd_76 rfl ?_
          refine o_ishl dX5_crowd_78 ?_
          refine o_goto (tgt := 83) dX5_crowd_79 (by decide) ?_
          refine o_ior dX5_crowd_83 ?_
          refine o_istn_3 dX5_crowd_84 rfl rfl (Nat.le_of_ble_eq_true rfl) ?_
          refine o_inc_4 dX5_crowd_85 rfl ic_1 (Nat.le_of_ble_eq_true rfl) ?_
          refine o_goto (tgt := 23) dX5_crowd_88 (by decide) ?_
          exact o_eqa (by rw [nI_1, hf, hs]) rfl (ih (k + 1) (by omega) (by omega))
theorem tX5_crowd {r m im wa fr lt rw rf nu : Nat → Int32} {hi pl sd : Int32} {L R : Nat} (hS : SOk r) {w : Int32} : PM mX5_crowd [.ref 0, .int w] (mW r m im wa fr hi lt rw rf (nI L) (nI R) pl nu sd) (MP (s_crowd w (r, im, hi, lt, L, rw, R, rf))) := by
  refine PM.ofp 3 (by decide) (Nat.le_of_ble_eq_true rfl) ?_
  show Ok mX5_crowd none 0 [some (.ref 0), some (.int w), none, none, none] [] (mW r m im wa fr hi lt rw rf (nI L) (nI R) pl nu sd) 0 0 _
  refine o_iload_n dX5_crowd_0 rfl rfl ?_
  refine o_iconst dX5_crowd_1 ic_0 ?_
  refine o_iconst dX5_crowd_2 ic_3 ?_
  refine o_callSr (is := []) (tX5_isIn) ⟨rfl, rfl⟩ dX5_crowd_3 wd760 csX5_isIn rfl ⟨(Nat.le_of_ble_eq_true rfl), (Nat.le_of_ble_eq_true rfl)⟩ rfl rfl rfl (Nat.le_of_ble_eq_true rfl) (Nat.le_of_ble_eq_true rfl) (Nat.le_of_ble_eq_true rfl) ?_
  refine o_if_ne (tgt := 16) dX5_crowd_6 (by decide) (fun c_6 => ?_) (fun c_6 => ?_)
  · have hw : inR 4 w = true := by rw [← isInB_eq 3 (by omega)]; exact bI_ne c_6
    refine o_iconst dX5_crowd_16 ic_0 ?_
    refine o_istn_2 dX5_crowd_17 rfl rfl (Nat.le_of_ble_eq_true rfl) ?_
    refine o_iconst dX5_crowd_18 ic_0 ?_
    refine o_istn_3 dX5_crowd_19 rfl rfl (Nat.le_of_ble_eq_true rfl) ?_
    refine o_iconst dX5_crowd_20 ic_0 ?_
    refine o_istg_4 dX5_crowd_21 rfl (Nat.le_of_ble_eq_true rfl) ?_
    exact o_eqa (by rw [nI_0]; rfl) rfl (lX5_crowd hS hw 9 0 (by omega) (by omega))
  · have hw : inR 4 w = false := by rw [← isInB_eq 3 (by omega)]; exact bI_0.mp c_6
    refine o_aload_n dX5_crowd_9 rfl rfl ?_
    refine o_bipush dX5_crowd_10 bp_m2 ?_
    refine o_callVd (is := [0, 1, 2, 3, 4, 5, 6, 7, 8, 9]) (tX5_no (c := 2) rfl (by decide)) ⟨rfl, rfl⟩ dX5_crowd_12 wd733 cvX5_no rfl ⟨(Nat.le_of_ble_eq_true rfl), (Nat.le_of_ble_eq_true rfl)⟩ hcX5 rfl rfl rfl rfl (Nat.le_of_ble_eq_true rfl) (Nat.le_of_ble_eq_true rfl) (Nat.le_of_ble_eq_true rfl) rfl ?_
    refine o_iret dX5_crowd_15 rfl (vp_nar_int _) (Nat.le_of_ble_eq_true rfl) (Nat.le_of_ble_eq_true rfl) ?_
    exact MP.mk (σ := (r, im, hi, lt, L, rw, R, rfu rf 2)) (by simp only [s_crowd, hw]; rfl)
theorem tX5_handles {r m im wa fr lt rw rf nu : Nat → Int32} {hi pl sd : Int32} {L R : Nat} (hS : SOk r) {x : Int32} : PM mX5_handles [.ref 0, .int x] (mW r m im wa fr hi lt rw rf (nI L) (nI R) pl nu sd) (MP (s_handles x (r, im, hi, lt, L, rw, R, rf))) := by
  refine PM.ofp 0 (by decide) (Nat.le_of_ble_eq_true rfl) ?_
  show Ok mX5_handles none 0 [some (.ref 0), some (.int x)] [] (mW r m im wa fr hi lt rw rf (nI L) (nI R) pl nu sd) 0 0 _
  refine o_iload_n dX5_handles_0 rfl rfl ?_
  refine o_callSr (is := []) (tX5_isRoom) ⟨rfl, rfl⟩ dX5_handles_1 wd774 csX5_isRoom rfl ⟨(Nat.le_of_ble_eq_true rfl), (Nat.le_of_ble_eq_true rfl)⟩ rfl rfl rfl (Nat.le_of_ble_eq_true rfl) (Nat.le_of_ble_eq_true rfl) (Nat.le_of_ble_eq_true rfl) ?_
  refine o_if_eq (tgt := 16) dX5_handles_4 (by decide) (fun c_4 => ?_) (fun c_4 => ?_)
  · have hx : inR 8 x = false := by rw [← isInB_eq 7 (by omega)]; exact bI_0.mp c_4
    refine o_aload_n dX5_handles_16 rfl rfl ?_
    refine o_iconst dX5_handles_17 ic_m1 ?_
    refine o_callVd (is := [0, 1, 2, 3, 4, 5, 6, 7, 8, 9]) (tX5_no (c := 1) rfl (by decide)) ⟨rfl, rfl⟩ dX5_handles_18 wd733 cvX5_no rfl ⟨(Nat.le_of_ble_eq_true rfl), (Nat.le_of_ble_eq_true rfl)⟩ hcX5 rfl rfl rfl rfl (Nat.le_of_ble_eq_true rfl) (Nat.le_of_ble_eq_true rfl) (Nat.le_of_ble_eq_true rfl) rfl ?_
    refine o_iret dX5_handles_21 rfl (vp_nar_int _) (Nat.le_of_ble_eq_true rfl) (Nat.le_of_ble_eq_true rfl) ?_
    exact MP.mk (σ := (r, im, hi, lt, L, rw, R, rfu rf 1)) (by simp only [s_handles, hx]; rfl)
  · have hx : inR 8 x = true := by rw [← isInB_eq 7 (by omega)]; exact bI_ne c_4
    refine o_aload_n dX5_handles_7 rfl rfl ?_
    refine o_iconst dX5_handles_8 ic_3 ?_
    refine o_iload_n dX5_handles_9 rfl rfl ?_
    refine o_callVr (is := [0, 1, 2, 3, 4, 5, 6, 7, 8, 9]) (tX5_doorsBy3 hS) ⟨rfl, rfl⟩ dX5_handles_10 wd981 cvX5_doorsBy rfl ⟨(Nat.le_of_ble_eq_true rfl), (Nat.le_of_ble_eq_true rfl)⟩ hcX5 rfl rfl rfl rfl (Nat.le_of_ble_eq_true rfl) (Nat.le_of_ble_eq_true rfl) (Nat.le_of_ble_eq_true rfl) ?_
    refine o_goto (tgt := 21) dX5_handles_13 (by decide) ?_
    refine o_iret dX5_handles_21 rfl (vp_nar_int _) (Nat.le_of_ble_eq_true rfl) (Nat.le_of_ble_eq_true rfl) ?_
    exact MP.mk (σ := (r, im, hi, lt, L, rw, R, rf)) (by simp only [s_handles, hx, if_true])
theorem lX5_meet2 {r m im wa lt rw rf nu : Nat → Int32} {hi pl sd : Int32} {L R : Nat} (hS : SOk r) {w found best : Int32} {k : Nat} (lk : k < 8) {P : Option Value → PW → Prop} (hP : ∀ i6, Ok mX5_meet none 85 [some (.ref 0), some (.int w), some (.int found), some (.int best), some (.int (nI k)), some (.int (nI (mtN r (farOf r) k (nN r)))), some (.int i6)] [] (mW r m im wa (nF (farOf r)) hi lt rw rf (nI L) (nI R) pl nu sd) 0 0 P) : ∀ (q j : Nat), nN r - j < q → j ≤ nN r → Ok mX5_meet none 46 [some (.ref 0), some (.int w), some (.int found), some (.int best), some (.int (nI k)), some (.int (nI (mtN r (farOf r) k j))), some (.int (nI j))] [] (mW r m im wa (nF (farOf r)) hi lt rw rf (nI L) (nI R) pl nu sd) 0 0 (P) := by
  have h6 := hS.n6
  intro q
  induction q with
  | zero => intro j hq hj; omega
  | succ q ih =>
  intro j hq hj
  refine o_iload dX5_meet_46 rfl ?_
  refine o_aload_n dX5_meet_48 rfl rfl ?_
  refine o_getf (j := 0) dX5_meet_49 rfl hcX5 inX5 (Nat.le_of_ble_eq_true rfl) wd686 rfl rfl ?_
  refine o_iconst dX5_meet_52 ic_1 ?_
  refine o_ialp (i := 1) dX5_meet_53 rfl (rfl) (by decide) ?_
  refine o_icmp_ge (tgt := 85) dX5_meet_54 (by decide) (fun c_54 => ?_) (fun c_54 => ?_)
  · rw [hS.e1] at c_54
    have hjN : j = nN r := Nat.le_antisymm hj (geI (by omega) (by omega) c_54)
    exact o_eqa (by rw [hjN]) rfl (hP _)
  · rw [hS.e1] at c_54
    have hjN : j < nN r := ltI (by omega) (by omega) c_54
    have qa := (hS.T.2.2.2.2.1 j hjN).1.cN
    refine o_iload dX5_meet_57 rfl ?_
    refine o_aload_n dX5_meet_59 rfl rfl ?_
    refine o_aload_n dX5_meet_60 rfl rfl ?_
    refine o_getf (j := 0) dX5_meet_61 rfl hcX5 inX5 (Nat.le_of_ble_eq_true rfl) wd686 rfl rfl ?_
    refine o_iload dX5_meet_64 rfl ?_
    refine o_iconst dX5_meet_66 ic_0 ?_
    refine o_callSr (is := []) (ofP0) ⟨rfl, rfl⟩ dX5_meet_67 wd783 csX5_ofP rfl ⟨(Nat.le_of_ble_eq_true rfl), (Nat.le_of_ble_eq_true rfl)⟩ rfl rfl rfl (Nat.le_of_ble_eq_true rfl) (Nat.le_of_ble_eq_true rfl) (Nat.le_of_ble_eq_true rfl) ?_
    refine o_ialp (i := 50 + 3 * j) dX5_meet_70 rfl (rfl) (by omega) ?_
    refine o_eqs (by rw [qa.2]) ?_
    refine o_iload dX5_meet_71 rfl ?_
    refine o_callVr (is := [0, 1, 2, 3, 4, 5, 6, 7, 8, 9]) (tX5_wayOf qa.1 lk) ⟨rfl, rfl⟩ dX5_meet_73 wd823 cvX5_wayOf rfl ⟨(Nat.le_of_ble_eq_true rfl), (Nat.le_of_ble_eq_true rfl)⟩ hcX5 rfl rfl rfl rfl (Nat.le_of_ble_eq_true rfl) (Nat.le_of_ble_eq_true rfl) (Nat.le_of_ble_eq_true rfl) ?_
    refine o_iadd dX5_meet_76 ?_
    refine o_istg_5 dX5_meet_77 rfl (Nat.le_of_ble_eq_true rfl) ?_
    refine o_inc_6 dX5_meet_79 rfl ic_1 (Nat.le_of_ble_eq_true rfl) ?_
    refine o_goto (tgt := 46) dX5_meet_82 (by decide) ?_
    exact o_eqa (by rw [nI_1, nI_add, mtN]) rfl (ih (j + 1) (by omega) (by omega))
theorem lX5_meet1 {r m im wa lt rw rf nu : Nat → Int32} {hi pl sd : Int32} {L R : Nat} (hS : SOk r) {w : Int32} (hw : inR 2 w = true) : ∀ (q k : Nat) (x5 x6 : Option Value), 8 - k < q → k ≤ 8 → Ok mX5_meet none 33 [some (.ref 0), some (.int w), some (.int (bmS (fun x => mtN r (farOf r) x (nN r)) k).1), some (.int (nI (bmS (fun x => mtN r (farOf r) x (nN r)) k).2)), some (.int (nI k)), x5, x6] [] (mW r m im wa (nF (farOf r)) hi lt rw rf (nI L) (nI R) pl nu sd) 0 0 (MP (s_meet w (r, im, hi, lt, L, rw, R, rf))) := by
  intro q
  induction q with
  | zero => intro k x5 x6 hq hk; omega
  | succ q ih =>
  intro k x5 x6 hq hk
  have h6 := hS.n6
  have h9 := hS.d9
  have hb := bmS_le (v := fun x => mtN r (farOf r) x (nN r)) k
  refine o_iload dX5_meet_33 rfl ?_
  refine o_bipush dX5_meet_35 bp_8 ?_
  refine o_icmp_ge (tgt := 106) dX5_meet_37 (by decide) (fun c_37 => ?_) (fun c_37 => ?_)
  · have hkN : k = 8 := Nat.le_antisymm hk (geI (b := 8) (by omega) (by omega) c_37)
    subst hkN
    refine o_iload_n dX5_meet_106 rfl rfl ?_
    refine o_if_lt (tgt := 114) dX5_meet_107 (by decide) (fun c_107 => ?_) (fun c_107 => ?_)
    · skip
      refine o_iload_n dX5_meet_114 rfl rfl ?_
      refine o_goto (tgt := 119) dX5_meet_115 (by decide) ?_
      refine o_iret dX5_meet_119 rfl (vp_nar_int _) (Nat.le_of_ble_eq_true rfl) (Nat.le_of_ble_eq_true rfl) ?_
      exact MP.mk (σ := (r, im, hi, lt, L, rw, R, rf)) (by simp only [s_meet, hw, if_true, if_pos (Or.inl c_107 : _ ∨ w = 0)])
    · skip
      refine o_iload_n dX5_meet_110 rfl rfl ?_
      refine o_if_ne (tgt := 118) dX5_meet_111 (by decide) (fun c_111 => ?_) (fun c_111 => ?_)
      · skip
        refine o_iload_n dX5_meet_118 rfl rfl ?_
        refine o_iret dX5_meet_119 rfl (vp_nar_int _) (Nat.le_of_ble_eq_true rfl) (Nat.le_of_ble_eq_true rfl) ?_
        exact MP.mk (σ := (r, im, hi, lt, L, rw, R, rf)) (by simp only [s_meet, hw, if_true, if_neg (fun h : _ ∨ w = 0 => h.elim c_107 c_111)])
      · skip
        refine o_iload_n dX5_meet_114 rfl rfl ?_
        refine o_goto (tgt := 119) dX5_meet_115 (by decide) ?_
        refine o_iret dX5_meet_119 rfl (vp_nar_int _) (Nat.le_of_ble_eq_true rfl) (Nat.le_of_ble_eq_true rfl) ?_
        exact MP.mk (σ := (r, im, hi, lt, L, rw, R, rf)) (by simp only [s_meet, hw, if_true]; rw [if_pos (Or.inr c_111)])
  · have hkN : k < 8 := ltI (b := 8) (by omega) (by omega) c_37
    refine o_iconst dX5_meet_40 ic_0 ?_
    refine o_istg_5 dX5_meet_41 rfl (Nat.le_of_ble_eq_true rfl) ?_
    refine o_iconst dX5_meet_43 ic_0 ?_
    refine o_istg_6 dX5_meet_44 rfl (Nat.le_of_ble_eq_true rfl) ?_
    have hm := mtN_le (r := r) (x := k) (farOf_le (r := r)) (nN r)
    refine o_eqa (by rw [nI_0]; rfl) rfl (lX5_meet2 (w := w) hS hkN (fun i6 => ?_) (nN r + 1) 0 (by omega) (by omega))
    refine o_iload dX5_meet_85 rfl ?_
    refine o_iload_n dX5_meet_87 rfl rfl ?_
    refine o_icmp_lt (tgt := 94) dX5_meet_88 (by decide) (fun c_88 => ?_) (fun c_88 => ?_)
    · have hlt := (nI_ltI (by omega) (by omega)).mp c_88
      refine o_iload dX5_meet_94 rfl ?_
      refine o_istn_2 dX5_meet_96 rfl rfl (Nat.le_of_ble_eq_true rfl) ?_
      refine o_iload dX5_meet_97 rfl ?_
      refine o_istn_3 dX5_meet_99 rfl rfl (Nat.le_of_ble_eq_true rfl) ?_
      refine o_inc_4 dX5_meet_100 rfl ic_1 (Nat.le_of_ble_eq_true rfl) ?_
      refine o_goto (tgt := 33) dX5_meet_103 (by decide) ?_
      exact o_eqa (by rw [nI_1, bmS, if_pos hlt]) rfl (ih (k + 1) _ _ (by omega) (by omega))
    · have hlt : ¬ mtN r (farOf r) k (nN r) < _ := fun h => c_88 ((nI_ltI (by omega) (by omega)).mpr h)
      refine o_goto (tgt := 100) dX5_meet_91 (by decide) ?_
      refine o_inc_4 dX5_meet_100 rfl ic_1 (Nat.le_of_ble_eq_true rfl) ?_
      refine o_goto (tgt := 33) dX5_meet_103 (by decide) ?_
      exact o_eqa (by rw [nI_1, bmS, if_neg hlt]) rfl (ih (k + 1) _ _ (by omega) (by omega))
theorem tX5_meet {r m im wa fr lt rw rf nu : Nat → Int32} {hi pl sd : Int32} {L R : Nat} (hS : SOk r) {w : Int32} : PM mX5_meet [.ref 0, .int w] (mW r m im wa fr hi lt rw rf (nI L) (nI R) pl nu sd) (MP (s_meet w (r, im, hi, lt, L, rw, R, rf))) := by
  refine PM.ofp 5 (by decide) (Nat.le_of_ble_eq_true rfl) ?_
  show Ok mX5_meet none 0 [some (.ref 0), some (.int w), none, none, none, none, none] [] (mW r m im wa fr hi lt rw rf (nI L) (nI R) pl nu sd) 0 0 _
  refine o_iload_n dX5_meet_0 rfl rfl ?_
  refine o_iconst dX5_meet_1 ic_0 ?_
  refine o_iconst dX5_meet_2 ic_1 ?_
  refine o_callSr (is := []) (tX5_isIn) ⟨rfl, rfl⟩ dX5_meet_3 wd760 csX5_isIn rfl ⟨(Nat.le_of_ble_eq_true rfl), (Nat.le_of_ble_eq_true rfl)⟩ rfl rfl rfl (Nat.le_of_ble_eq_true rfl) (Nat.le_of_ble_eq_true rfl) (Nat.le_of_ble_eq_true rfl) ?_
  refine o_if_ne (tgt := 16) dX5_meet_6 (by decide) (fun c_6 => ?_) (fun c_6 => ?_)
  · have hw : inR 2 w = true := by rw [← isInB_eq 1 (by omega)]; exact bI_ne c_6
    refine o_aload_n dX5_meet_16 rfl rfl ?_
    refine o_aload_n dX5_meet_17 rfl rfl ?_
    refine o_getf (j := 0) dX5_meet_18 rfl hcX5 inX5 (Nat.le_of_ble_eq_true rfl) wd686 rfl rfl ?_
    refine o_callVd (is := [0, 1, 2, 3, 4, 5, 6, 7, 8, 9]) (tX5_measures_s hS.T) ⟨rfl, rfl⟩ dX5_meet_21 wd801 cvX5_measures rfl ⟨(Nat.le_of_ble_eq_true rfl), (Nat.le_of_ble_eq_true rfl)⟩ hcX5 rfl rfl rfl rfl (Nat.le_of_ble_eq_true rfl) (Nat.le_of_ble_eq_true rfl) (Nat.le_of_ble_eq_true rfl) rfl ?_
    refine o_bipush dX5_meet_24 bp_m9 ?_
    refine o_istn_2 dX5_meet_26 rfl rfl (Nat.le_of_ble_eq_true rfl) ?_
    refine o_bipush dX5_meet_27 bp_99 ?_
    refine o_istn_3 dX5_meet_29 rfl rfl (Nat.le_of_ble_eq_true rfl) ?_
    refine o_iconst dX5_meet_30 ic_0 ?_
    refine o_istg_4 dX5_meet_31 rfl (Nat.le_of_ble_eq_true rfl) ?_
    exact o_eqa (by rw [nI_0]; rfl) rfl (lX5_meet1 hS hw 9 0 _ _ (by omega) (by omega))
  · have hw : inR 2 w = false := by rw [← isInB_eq 1 (by omega)]; exact bI_0.mp c_6
    refine o_aload_n dX5_meet_9 rfl rfl ?_
    refine o_bipush dX5_meet_10 bp_m2 ?_
    refine o_callVd (is := [0, 1, 2, 3, 4, 5, 6, 7, 8, 9]) (tX5_no (c := 2) rfl (by decide)) ⟨rfl, rfl⟩ dX5_meet_12 wd733 cvX5_no rfl ⟨(Nat.le_of_ble_eq_true rfl), (Nat.le_of_ble_eq_true rfl)⟩ hcX5 rfl rfl rfl rfl (Nat.le_of_ble_eq_true rfl) (Nat.le_of_ble_eq_true rfl) (Nat.le_of_ble_eq_true rfl) rfl ?_
    refine o_iret dX5_meet_15 rfl (vp_nar_int _) (Nat.le_of_ble_eq_true rfl) (Nat.le_of_ble_eq_true rfl) ?_
    exact MP.mk (σ := (r, im, hi, lt, L, rw, R, rfu rf 2)) (by simp only [s_meet, hw]; rfl)
theorem lX5_allMoods {r m im wa fr lt rw rf nu : Nat → Int32} {hi pl sd : Int32} {L R : Nat} (hS : SOk r) : ∀ (q k : Nat), nN r - k < q → k ≤ nN r → Ok mX5_allMoods none 4 [some (.ref 0), some (.int (moodS r k)), some (.int (nI k))] [] (mW r m im wa fr hi lt rw rf (nI L) (nI R) pl nu sd) 0 0 (fun a w => a = some (.int (moodS r (nN r))) ∧ w = mW r m im wa fr hi lt rw rf (nI L) (nI R) pl nu sd) := by
  intro q
  induction q with
  | zero => intro k hq hk; omega
  | succ q ih =>
  intro k hq hk
  have h6 := hS.n6
  have h9 := hS.d9
  refine o_iload_n dX5_allMoods_4 rfl rfl ?_
  refine o_aload_n dX5_allMoods_5 rfl rfl ?_
  refine o_getf (j := 0) dX5_allMoods_6 rfl hcX5 inX5 (Nat.le_of_ble_eq_true rfl) wd686 rfl rfl ?_
  refine o_iconst dX5_allMoods_9 ic_1 ?_
  refine o_ialp (i := 1) dX5_allMoods_10 rfl (rfl) (by decide) ?_
  refine o_icmp_ge (tgt := 33) dX5_allMoods_11 (by decide) (fun c_11 => ?_) (fun c_11 => ?_)
  · rw [hS.e1] at c_11
    have hkN : k = nN r := Nat.le_antisymm hk (geI (by omega) (by omega) c_11)
    refine o_iload_n dX5_allMoods_33 rfl rfl ?_
    refine o_iret dX5_allMoods_34 rfl (vp_nar_int _) (Nat.le_of_ble_eq_true rfl) (Nat.le_of_ble_eq_true rfl) ?_
    exact ⟨by rw [hkN], rfl⟩
  · rw [hS.e1] at c_11
    have hkN : k < nN r := ltI (by omega) (by omega) c_11
    refine o_iload_n dX5_allMoods_14 rfl rfl ?_
    refine o_aload_n dX5_allMoods_15 rfl rfl ?_
    refine o_getf (j := 0) dX5_allMoods_16 rfl hcX5 inX5 (Nat.le_of_ble_eq_true rfl) wd686 rfl rfl ?_
    refine o_iload_n dX5_allMoods_19 rfl rfl ?_
    refine o_iconst dX5_allMoods_20 ic_2 ?_
    refine o_callSr (is := []) (ofP2) ⟨rfl, rfl⟩ dX5_allMoods_21 wd783 csX5_ofP rfl ⟨(Nat.le_of_ble_eq_true rfl), (Nat.le_of_ble_eq_true rfl)⟩ rfl rfl rfl (Nat.le_of_ble_eq_true rfl) (Nat.le_of_ble_eq_true rfl) (Nat.le_of_ble_eq_true rfl) ?_
    refine o_ialp (i := 52 + 3 * k) dX5_allMoods_24 rfl (rfl) (by omega) ?_
    refine o_iadd dX5_allMoods_25 ?_
    refine o_istn_1 dX5_allMoods_26 rfl rfl (Nat.le_of_ble_eq_true rfl) ?_
    refine o_inc_2 dX5_allMoods_27 rfl ic_1 (Nat.le_of_ble_eq_true rfl) ?_
    refine o_goto (tgt := 4) dX5_allMoods_30 (by decide) ?_
    exact o_eqa (by rw [nI_1, moodS]) rfl (ih (k + 1) (by omega) (by omega))
theorem tX5_allMoods {r m im wa fr lt rw rf nu : Nat → Int32} {hi pl sd : Int32} {L R : Nat} (hS : SOk r) : PD mX5_allMoods [.ref 0] (mW r m im wa fr hi lt rw rf (nI L) (nI R) pl nu sd) (some (.int (moodS r (nN r)))) (mW r m im wa fr hi lt rw rf (nI L) (nI R) pl nu sd) := by
  refine PM.ofp 2 (by decide) (Nat.le_of_ble_eq_true rfl) ?_
  show Ok mX5_allMoods none 0 [some (.ref 0), none, none] [] (mW r m im wa fr hi lt rw rf (nI L) (nI R) pl nu sd) 0 0 _
  refine o_iconst dX5_allMoods_0 ic_0 ?_
  refine o_istn_1 dX5_allMoods_1 rfl rfl (Nat.le_of_ble_eq_true rfl) ?_
  refine o_iconst dX5_allMoods_2 ic_0 ?_
  refine o_istn_2 dX5_allMoods_3 rfl rfl (Nat.le_of_ble_eq_true rfl) ?_
  exact o_eqa (by rw [nI_0]; rfl) rfl (lX5_allMoods hS (nN r + 1) 0 (by omega) (by omega))
def s_row (v : Int32) (σ : St) : Res := match σ with
  | (r, im, hi, lt, L, rw, R, rf) => if v < 0 then noR σ 4 else if 99 < v ∨ R = 16 then noR σ 6 else (some (.int (nI (R + 1))), (r, im, hi, lt, L, upd rw R v, R + 1, rf))
def jgS (r : Nat → Int32) (rw : Nat → Int32) (R : Nat) : Int32 := dfS (fun p => decide (nN r ≤ p) || !decide (r (50 + 3 * p) = rw p)) R 0
def s_judge (σ : St) : Res := match σ with
  | (r, im, hi, lt, L, rw, R, rf) => (some (.int (jgS r rw R)), (r, im, hi, lt, L, rw, 0, rf))
def s_clear (σ : St) : Res := match σ with
  | (r, im, hi, lt, L, rw, R, rf) => (some (.int (nI R)), (r, im, hi, lt, L, rw, 0, rf))
def s_image (σ : St) : Res := match σ with
  | (r, im, hi, lt, L, rw, R, rf) => (some (.int (r 2)), (r, r, 1, lt, L, rw, R, rf))
def s_on (σ : St) : Res := match σ with
  | (r, im, hi, lt, L, rw, R, rf) => if hi = 0 then noR σ 3 else (some (.int (im 2)), (im, im, hi, lt, L, rw, R, rf))
def s_count (w : Int32) (σ : St) : Res := match σ with
  | (r, im, hi, lt, L, rw, R, rf) => (some (.int (if isInB w 11 16 then rf (cN w - 10) else if inR 4 w then r (cN w) else if w = 4 then homeM r (nN r) else if w = 5 then moodS r (nN r) else if w = 6 then nI R else if w = 7 then nI L else -9)), σ)
theorem tX5_row {r m im wa fr lt rw rf nu : Nat → Int32} {hi pl sd : Int32} {L R : Nat} (hS : SOk r) {v : Int32} (hR : R ≤ 16) : PM mX5_row [.ref 0, .int v] (mW r m im wa fr hi lt rw rf (nI L) (nI R) pl nu sd) (MP (s_row v (r, im, hi, lt, L, rw, R, rf))) := by
  refine PM.ofp 1 (by decide) (Nat.le_of_ble_eq_true rfl) ?_
  show Ok mX5_row none 0 [some (.ref 0), some (.int v), none] [] (mW r m im wa fr hi lt rw rf (nI L) (nI R) pl nu sd) 0 0 _
  refine o_iload_n dX5_row_0 rfl rfl ?_
  refine o_iconst dX5_row_1 ic_0 ?_
  refine o_bipush dX5_row_2 bp_99 ?_
  refine o_callSr (is := []) (tX5_wrongBy) ⟨rfl, rfl⟩ dX5_row_4 wd872 csX5_wrongBy rfl ⟨(Nat.le_of_ble_eq_true rfl), (Nat.le_of_ble_eq_true rfl)⟩ rfl rfl rfl (Nat.le_of_ble_eq_true rfl) (Nat.le_of_ble_eq_true rfl) (Nat.le_of_ble_eq_true rfl) ?_
  refine o_wr3 (fun hw => ?_) (fun hw1 hw2 => ?_) (fun hw1 hw2 => ?_)
  · skip
    refine o_istn_2 dX5_row_7 rfl rfl (Nat.le_of_ble_eq_true rfl) ?_
    refine o_iload_n dX5_row_8 rfl rfl ?_
    refine o_if_ne (tgt := 24) dX5_row_9 (by decide) (fun _ => ?_) (fun cq => absurd cq (by decide))
    refine o_iload_n dX5_row_24 rfl rfl ?_
    refine o_if_eq (tgt := 34) dX5_row_25 (by decide) (fun cq => absurd cq (by decide)) (fun _ => ?_)
    refine o_aload_n dX5_row_28 rfl rfl ?_
    refine o_iload_n dX5_row_29 rfl rfl ?_
    refine o_callVd (is := [0, 1, 2, 3, 4, 5, 6, 7, 8, 9]) (tX5_no (c := 4) rfl (by decide)) ⟨rfl, rfl⟩ dX5_row_30 wd733 cvX5_no rfl ⟨(Nat.le_of_ble_eq_true rfl), (Nat.le_of_ble_eq_true rfl)⟩ hcX5 rfl rfl rfl rfl (Nat.le_of_ble_eq_true rfl) (Nat.le_of_ble_eq_true rfl) (Nat.le_of_ble_eq_true rfl) rfl ?_
    refine o_iret dX5_row_33 rfl (vp_nar_int _) (Nat.le_of_ble_eq_true rfl) (Nat.le_of_ble_eq_true rfl) ?_
    exact MP.mk (σ := (r, im, hi, lt, L, rw, R, rfu rf 4)) (by simp only [s_row, if_pos hw]; rfl)
  · skip
    refine o_istn_2 dX5_row_7 rfl rfl (Nat.le_of_ble_eq_true rfl) ?_
    refine o_iload_n dX5_row_8 rfl rfl ?_
    refine o_if_ne (tgt := 24) dX5_row_9 (by decide) (fun _ => ?_) (fun cq => absurd cq (by decide))
    refine o_iload_n dX5_row_24 rfl rfl ?_
    refine o_if_eq (tgt := 34) dX5_row_25 (by decide) (fun cq => absurd cq (by decide)) (fun _ => ?_)
    refine o_aload_n dX5_row_28 rfl rfl ?_
    refine o_iload_n dX5_row_29 rfl rfl ?_
    refine o_callVd (is := [0, 1, 2, 3, 4, 5, 6, 7, 8, 9]) (tX5_no (c := 6) rfl (by decide)) ⟨rfl, rfl⟩ dX5_row_30 wd733 cvX5_no rfl ⟨(Nat.le_of_ble_eq_true rfl), (Nat.le_of_ble_eq_true rfl)⟩ hcX5 rfl rfl rfl rfl (Nat.le_of_ble_eq_true rfl) (Nat.le_of_ble_eq_true rfl) (Nat.le_of_ble_eq_true rfl) rfl ?_
    refine o_iret dX5_row_33 rfl (vp_nar_int _) (Nat.le_of_ble_eq_true rfl) (Nat.le_of_ble_eq_true rfl) ?_
    exact MP.mk (σ := (r, im, hi, lt, L, rw, R, rfu rf 6)) (by simp only [s_row, if_neg hw1, hw2, true_or, if_true]; rfl)
  · obtain ⟨q, hq, rfl⟩ := rng (b := 99) (by omega) hw1 hw2
    have eq := cN_nI (d := q) (by omega)
    refine o_istn_2 dX5_row_7 rfl rfl (Nat.le_of_ble_eq_true rfl) ?_
    refine o_iload_n dX5_row_8 rfl rfl ?_
    refine o_if_ne (tgt := 24) dX5_row_9 (by decide) (fun cq => absurd (by decide) cq) (fun _ => ?_)
    refine o_aload_n dX5_row_12 rfl rfl ?_
    refine o_getf (j := 10) dX5_row_13 rfl hcX5 inX5 (Nat.le_of_ble_eq_true rfl) wd696 rfl rfl ?_
    refine o_bipush dX5_row_16 bp_16 ?_
    refine o_icmp_ne (tgt := 24) dX5_row_18 (by decide) (fun c_18 => ?_) (fun c_18 => ?_)
    · have q3 : ¬ R = 16 := fun e => c_18 (by rw [e]; rfl)
      refine o_iload_n dX5_row_24 rfl rfl ?_
      refine o_if_eq (tgt := 34) dX5_row_25 (by decide) (fun _ => ?_) (fun cq => absurd (by decide) cq)
      refine o_aload_n dX5_row_34 rfl rfl ?_
      refine o_getf (j := 7) dX5_row_35 rfl hcX5 inX5 (Nat.le_of_ble_eq_true rfl) wd693 rfl rfl ?_
      refine o_aload_n dX5_row_38 rfl rfl ?_
      refine o_getf (j := 10) dX5_row_39 rfl hcX5 inX5 (Nat.le_of_ble_eq_true rfl) wd696 rfl rfl ?_
      refine o_iload_n dX5_row_42 rfl rfl ?_
      refine o_iasp (i := R) dX5_row_43 rfl (rfl) (by omega) rfl ?_
      refine o_aload_n dX5_row_44 rfl rfl ?_
      refine o_dup dX5_row_45 rfl ?_
      refine o_getf (j := 10) dX5_row_46 rfl hcX5 inX5 (Nat.le_of_ble_eq_true rfl) wd696 rfl rfl ?_
      refine o_iconst dX5_row_49 ic_1 ?_
      refine o_iadd dX5_row_50 ?_
      refine o_putf (j := 10) tyX5 dX5_row_51 rfl hcX5 inX5 tyX5_ok nmX5 (Nat.le_of_ble_eq_true rfl) wd696 rfl rfl (fun _ => vp_nar_int _) (fun _ => rfl) (Nat.le_of_ble_eq_true rfl) rfl ?_
      refine o_eqw (w2 := mW r m im wa fr hi lt (upd rw R (nI q)) rf (nI L) (nI (R + 1)) pl nu sd) (by rw [← nI_1]; rfl) ?_
      refine o_aload_n dX5_row_54 rfl rfl ?_
      refine o_getf (j := 10) dX5_row_55 rfl hcX5 inX5 (Nat.le_of_ble_eq_true rfl) wd696 rfl rfl ?_
      refine o_iret dX5_row_58 rfl (vp_nar_int _) (Nat.le_of_ble_eq_true rfl) (Nat.le_of_ble_eq_true rfl) ?_
      exact MP.mk (σ := (r, im, hi, lt, L, upd rw R (nI q), R + 1, rf)) (by simp only [s_row, if_neg hw1, hw2, q3, or_self, if_false])
    · have q3 : R = 16 := (nI_eq (b := 16) (by omega) (by omega)).mp c_18
      refine o_bipush dX5_row_21 bp_m6 ?_
      refine o_istn_2 dX5_row_23 rfl rfl (Nat.le_of_ble_eq_true rfl) ?_
      refine o_iload_n dX5_row_24 rfl rfl ?_
      refine o_if_eq (tgt := 34) dX5_row_25 (by decide) (fun cq => absurd cq (by decide)) (fun _ => ?_)
      refine o_aload_n dX5_row_28 rfl rfl ?_
      refine o_iload_n dX5_row_29 rfl rfl ?_
      refine o_callVd (is := [0, 1, 2, 3, 4, 5, 6, 7, 8, 9]) (tX5_no (c := 6) rfl (by decide)) ⟨rfl, rfl⟩ dX5_row_30 wd733 cvX5_no rfl ⟨(Nat.le_of_ble_eq_true rfl), (Nat.le_of_ble_eq_true rfl)⟩ hcX5 rfl rfl rfl rfl (Nat.le_of_ble_eq_true rfl) (Nat.le_of_ble_eq_true rfl) (Nat.le_of_ble_eq_true rfl) rfl ?_
      refine o_iret dX5_row_33 rfl (vp_nar_int _) (Nat.le_of_ble_eq_true rfl) (Nat.le_of_ble_eq_true rfl) ?_
      exact MP.mk (σ := (r, im, hi, lt, L, rw, R, rfu rf 6)) (by simp only [s_row, if_neg hw1, q3, or_true, if_true]; rfl)
theorem lX5_judge {r m im wa fr lt rw rf nu : Nat → Int32} {hi pl sd : Int32} {L n : Nat} (hn : n ≤ 16) (hS : SOk r) : ∀ (q k : Nat), k + q = n → dfS (fun p => decide (nN r ≤ p) || !decide (r (50 + 3 * p) = rw p)) q k = jgS r rw n → Ok mX5_judge none 12 [some (.ref 0), some (.int (nI n)), some (.int (nI k))] [] (mW r m im wa fr hi lt rw rf (nI L) (nI 0) pl nu sd) 0 0 (fun a w => a = some (.int (jgS r rw n)) ∧ w = mW r m im wa fr hi lt rw rf (nI L) (nI 0) pl nu sd) := by
  have h6 := hS.n6
  intro q
  induction q with
  | zero =>
    intro k hk hR
    have hk : k = n := by omega
    subst hk
    refine o_iload_n dX5_judge_12 rfl rfl ?_
    refine o_iload_n dX5_judge_13 rfl rfl ?_
    refine o_icmp_ge (tgt := 52) dX5_judge_14 (by decide) (fun _ => ?_) (fun c => absurd (Int32.le_refl _) c)
    refine o_bipush dX5_judge_52 bp_m9 ?_
    refine o_iret dX5_judge_54 rfl (vp_nar_int _) (Nat.le_of_ble_eq_true rfl) (Nat.le_of_ble_eq_true rfl) ?_
    exact ⟨by rw [← hR]; rfl, rfl⟩
  | succ q ih =>
  intro k hk hR
  refine o_iload_n dX5_judge_12 rfl rfl ?_
  refine o_iload_n dX5_judge_13 rfl rfl ?_
  refine o_icmp_ge (tgt := 52) dX5_judge_14 (by decide) (fun c_14 => ?_) (fun c_14 => ?_)
  · exact absurd (geI (by omega) (by omega) c_14) (by omega)
  · skip
    refine o_aload_n dX5_judge_17 rfl rfl ?_
    refine o_iload_n dX5_judge_18 rfl rfl ?_
    refine o_callVr (is := [0, 1, 2, 3, 4, 5, 6, 7, 8, 9]) (tX5_isPerson hS) ⟨rfl, rfl⟩ dX5_judge_19 wd786 cvX5_isPerson rfl ⟨(Nat.le_of_ble_eq_true rfl), (Nat.le_of_ble_eq_true rfl)⟩ hcX5 rfl rfl rfl rfl (Nat.le_of_ble_eq_true rfl) (Nat.le_of_ble_eq_true rfl) (Nat.le_of_ble_eq_true rfl) ?_
    refine o_if_eq (tgt := 44) dX5_judge_22 (by decide) (fun c_22 => ?_) (fun c_22 => ?_)
    · have hp : nN r ≤ k := Nat.not_lt.mp (fun h => by have := bI_0.mp c_22; rw [inR_nI (by omega) h] at this; cases this)
      have et : (decide (nN r ≤ k) || !decide (r (50 + 3 * k) = rw k)) = true := by simp [hp]
      refine o_iload_n dX5_judge_44 rfl rfl ?_
      refine o_iret dX5_judge_45 rfl (vp_nar_int _) (Nat.le_of_ble_eq_true rfl) (Nat.le_of_ble_eq_true rfl) ?_
      exact ⟨by rw [← hR, dfS, et]; rfl, rfl⟩
    · have hp : k < nN r := Nat.not_le.mp (fun h => by
        obtain ⟨d, hd, e⟩ := inR_yes (by omega) (bI_ne c_22)
        have := (nI_eq (by omega) (by omega)).mp e
        omega)
      refine o_aload_n dX5_judge_25 rfl rfl ?_
      refine o_getf (j := 0) dX5_judge_26 rfl hcX5 inX5 (Nat.le_of_ble_eq_true rfl) wd686 rfl rfl ?_
      refine o_iload_n dX5_judge_29 rfl rfl ?_
      refine o_iconst dX5_judge_30 ic_0 ?_
      refine o_callSr (is := []) (ofP0) ⟨rfl, rfl⟩ dX5_judge_31 wd783 csX5_ofP rfl ⟨(Nat.le_of_ble_eq_true rfl), (Nat.le_of_ble_eq_true rfl)⟩ rfl rfl rfl (Nat.le_of_ble_eq_true rfl) (Nat.le_of_ble_eq_true rfl) (Nat.le_of_ble_eq_true rfl) ?_
      refine o_ialp (i := 50 + 3 * k) dX5_judge_34 rfl (rfl) (by omega) ?_
      refine o_aload_n dX5_judge_35 rfl rfl ?_
      refine o_getf (j := 7) dX5_judge_36 rfl hcX5 inX5 (Nat.le_of_ble_eq_true rfl) wd693 rfl rfl ?_
      refine o_iload_n dX5_judge_39 rfl rfl ?_
      refine o_ialp (i := k) dX5_judge_40 rfl (rfl) (by omega) ?_
      refine o_icmp_eq (tgt := 46) dX5_judge_41 (by decide) (fun c_41 => ?_) (fun c_41 => ?_)
      · have et : (decide (nN r ≤ k) || !decide (r (50 + 3 * k) = rw k)) = false := by simp [c_41, hp]
        refine o_inc_2 dX5_judge_46 rfl ic_1 (Nat.le_of_ble_eq_true rfl) ?_
        refine o_goto (tgt := 12) dX5_judge_49 (by decide) ?_
        exact o_eqa (by rw [nI_1]) rfl (ih (k + 1) (by omega) (by rw [← hR, dfS, et]; rfl))
      · have et : (decide (nN r ≤ k) || !decide (r (50 + 3 * k) = rw k)) = true := by simp [c_41]
        refine o_iload_n dX5_judge_44 rfl rfl ?_
        refine o_iret dX5_judge_45 rfl (vp_nar_int _) (Nat.le_of_ble_eq_true rfl) (Nat.le_of_ble_eq_true rfl) ?_
        exact ⟨by rw [← hR, dfS, et]; rfl, rfl⟩
theorem tX5_judge {r m im wa fr lt rw rf nu : Nat → Int32} {hi pl sd : Int32} {L R : Nat} (hS : SOk r) (hR : R ≤ 16) : PM mX5_judge [.ref 0] (mW r m im wa fr hi lt rw rf (nI L) (nI R) pl nu sd) (MP (s_judge (r, im, hi, lt, L, rw, R, rf))) := by
  refine PM.ofp 2 (by decide) (Nat.le_of_ble_eq_true rfl) ?_
  show Ok mX5_judge none 0 [some (.ref 0), none, none] [] (mW r m im wa fr hi lt rw rf (nI L) (nI R) pl nu sd) 0 0 _
  refine o_aload_n dX5_judge_0 rfl rfl ?_
  refine o_getf (j := 10) dX5_judge_1 rfl hcX5 inX5 (Nat.le_of_ble_eq_true rfl) wd696 rfl rfl ?_
  refine o_istn_1 dX5_judge_4 rfl rfl (Nat.le_of_ble_eq_true rfl) ?_
  refine o_aload_n dX5_judge_5 rfl rfl ?_
  refine o_iconst dX5_judge_6 ic_0 ?_
  refine o_putf (j := 10) tyX5 dX5_judge_7 rfl hcX5 inX5 tyX5_ok nmX5 (Nat.le_of_ble_eq_true rfl) wd696 rfl rfl (fun _ => vp_nar_int _) (fun _ => rfl) (Nat.le_of_ble_eq_true rfl) rfl ?_
  refine o_iconst dX5_judge_10 ic_0 ?_
  refine o_istn_2 dX5_judge_11 rfl rfl (Nat.le_of_ble_eq_true rfl) ?_
  exact o_post (fun a w h => by obtain ⟨rfl, rfl⟩ := h; exact MP.mk (σ := (r, im, hi, lt, L, rw, 0, rf)) rfl) (o_eqa (by rw [nI_0]) rfl (lX5_judge hR hS R 0 (by omega) rfl))
theorem tX5_clear {r m im wa fr lt rw rf nu : Nat → Int32} {hi pl sd : Int32} {L R : Nat} (hS : SOk r) : PM mX5_clear [.ref 0] (mW r m im wa fr hi lt rw rf (nI L) (nI R) pl nu sd) (MP (s_clear (r, im, hi, lt, L, rw, R, rf))) := by
  refine PM.ofp 1 (by decide) (Nat.le_of_ble_eq_true rfl) ?_
  show Ok mX5_clear none 0 [some (.ref 0), none] [] (mW r m im wa fr hi lt rw rf (nI L) (nI R) pl nu sd) 0 0 _
  refine o_aload_n dX5_clear_0 rfl rfl ?_
  refine o_getf (j := 10) dX5_clear_1 rfl hcX5 inX5 (Nat.le_of_ble_eq_true rfl) wd696 rfl rfl ?_
  refine o_istn_1 dX5_clear_4 rfl rfl (Nat.le_of_ble_eq_true rfl) ?_
  refine o_aload_n dX5_clear_5 rfl rfl ?_
  refine o_iconst dX5_clear_6 ic_0 ?_
  refine o_putf (j := 10) tyX5 dX5_clear_7 rfl hcX5 inX5 tyX5_ok nmX5 (Nat.le_of_ble_eq_true rfl) wd696 rfl rfl (fun _ => vp_nar_int _) (fun _ => rfl) (Nat.le_of_ble_eq_true rfl) rfl ?_
  refine o_iload_n dX5_clear_10 rfl rfl ?_
  refine o_iret dX5_clear_11 rfl (vp_nar_int _) (Nat.le_of_ble_eq_true rfl) (Nat.le_of_ble_eq_true rfl) ?_
  exact MP.mk (σ := (r, im, hi, lt, L, rw, 0, rf)) (rfl)
theorem tX5_image {r m im wa fr lt rw rf nu : Nat → Int32} {hi pl sd : Int32} {L R : Nat} (hS : SOk r) : PM mX5_image [.ref 0] (mW r m im wa fr hi lt rw rf (nI L) (nI R) pl nu sd) (MP (s_image (r, im, hi, lt, L, rw, R, rf))) := by
  refine PM.ofp 0 (by decide) (Nat.le_of_ble_eq_true rfl) ?_
  show Ok mX5_image none 0 [some (.ref 0)] [] (mW r m im wa fr hi lt rw rf (nI L) (nI R) pl nu sd) 0 0 _
  refine o_aload_n dX5_image_0 rfl rfl ?_
  refine o_getf (j := 0) dX5_image_1 rfl hcX5 inX5 (Nat.le_of_ble_eq_true rfl) wd686 rfl rfl ?_
  refine o_aload_n dX5_image_4 rfl rfl ?_
  refine o_getf (j := 2) dX5_image_5 rfl hcX5 inX5 (Nat.le_of_ble_eq_true rfl) wd688 rfl rfl ?_
  refine o_callSd (is := [1, 3]) (tX5_copies) ⟨rfl, rfl⟩ dX5_image_8 wd763 csX5_copies rfl ⟨(Nat.le_of_ble_eq_true rfl), (Nat.le_of_ble_eq_true rfl)⟩ rfl rfl rfl (Nat.le_of_ble_eq_true rfl) (Nat.le_of_ble_eq_true rfl) (Nat.le_of_ble_eq_true rfl) rfl ?_
  refine o_aload_n dX5_image_11 rfl rfl ?_
  refine o_iconst dX5_image_12 ic_1 ?_
  refine o_putf (j := 5) tyX5 dX5_image_13 rfl hcX5 inX5 tyX5_ok nmX5 (Nat.le_of_ble_eq_true rfl) wd691 rfl rfl (fun _ => rfl) (fun _ => rfl) (Nat.le_of_ble_eq_true rfl) rfl ?_
  refine o_aload_n dX5_image_16 rfl rfl ?_
  refine o_getf (j := 0) dX5_image_17 rfl hcX5 inX5 (Nat.le_of_ble_eq_true rfl) wd686 rfl rfl ?_
  refine o_iconst dX5_image_20 ic_2 ?_
  refine o_ialp (i := 2) dX5_image_21 rfl (rfl) (by decide) ?_
  refine o_iret dX5_image_22 rfl (vp_nar_int _) (Nat.le_of_ble_eq_true rfl) (Nat.le_of_ble_eq_true rfl) ?_
  exact MP.mk (σ := (r, r, 1, lt, L, rw, R, rf)) (rfl)
theorem tX5_on {r m im wa fr lt rw rf nu : Nat → Int32} {hi pl sd : Int32} {L R : Nat} (hS : SOk r) : PM mX5_on [.ref 0] (mW r m im wa fr hi lt rw rf (nI L) (nI R) pl nu sd) (MP (s_on (r, im, hi, lt, L, rw, R, rf))) := by
  refine PM.ofp 0 (by decide) (Nat.le_of_ble_eq_true rfl) ?_
  show Ok mX5_on none 0 [some (.ref 0)] [] (mW r m im wa fr hi lt rw rf (nI L) (nI R) pl nu sd) 0 0 _
  refine o_aload_n dX5_on_0 rfl rfl ?_
  refine o_getf (j := 5) dX5_on_1 rfl hcX5 inX5 (Nat.le_of_ble_eq_true rfl) wd691 rfl rfl ?_
  refine o_if_ne (tgt := 14) dX5_on_4 (by decide) (fun c_4 => ?_) (fun c_4 => ?_)
  · skip
    refine o_aload_n dX5_on_14 rfl rfl ?_
    refine o_getf (j := 2) dX5_on_15 rfl hcX5 inX5 (Nat.le_of_ble_eq_true rfl) wd688 rfl rfl ?_
    refine o_aload_n dX5_on_18 rfl rfl ?_
    refine o_getf (j := 0) dX5_on_19 rfl hcX5 inX5 (Nat.le_of_ble_eq_true rfl) wd686 rfl rfl ?_
    refine o_callSd (is := [3, 1]) (tX5_copies) ⟨rfl, rfl⟩ dX5_on_22 wd763 csX5_copies rfl ⟨(Nat.le_of_ble_eq_true rfl), (Nat.le_of_ble_eq_true rfl)⟩ rfl rfl rfl (Nat.le_of_ble_eq_true rfl) (Nat.le_of_ble_eq_true rfl) (Nat.le_of_ble_eq_true rfl) rfl ?_
    refine o_aload_n dX5_on_25 rfl rfl ?_
    refine o_getf (j := 0) dX5_on_26 rfl hcX5 inX5 (Nat.le_of_ble_eq_true rfl) wd686 rfl rfl ?_
    refine o_iconst dX5_on_29 ic_2 ?_
    refine o_ialp (i := 2) dX5_on_30 rfl (rfl) (by decide) ?_
    refine o_iret dX5_on_31 rfl (vp_nar_int _) (Nat.le_of_ble_eq_true rfl) (Nat.le_of_ble_eq_true rfl) ?_
    exact MP.mk (σ := (im, im, hi, lt, L, rw, R, rf)) (by simp only [s_on, if_neg c_4])
  · skip
    refine o_aload_n dX5_on_7 rfl rfl ?_
    refine o_bipush dX5_on_8 bp_m3 ?_
    refine o_callVd (is := [0, 1, 2, 3, 4, 5, 6, 7, 8, 9]) (tX5_no (c := 3) rfl (by decide)) ⟨rfl, rfl⟩ dX5_on_10 wd733 cvX5_no rfl ⟨(Nat.le_of_ble_eq_true rfl), (Nat.le_of_ble_eq_true rfl)⟩ hcX5 rfl rfl rfl rfl (Nat.le_of_ble_eq_true rfl) (Nat.le_of_ble_eq_true rfl) (Nat.le_of_ble_eq_true rfl) rfl ?_
    refine o_iret dX5_on_13 rfl (vp_nar_int _) (Nat.le_of_ble_eq_true rfl) (Nat.le_of_ble_eq_true rfl) ?_
    exact MP.mk (σ := (r, im, hi, lt, L, rw, R, rfu rf 3)) (by simp only [s_on, if_pos c_4]; rfl)
theorem isInB_yes {x : Int32} {a b : Nat} (hb : b < 2147483648) (ha : a < 2147483648) (h : isInB x (nI a) (nI b) = true) : ∃ q, a ≤ q ∧ q ≤ b ∧ x = nI q := by
  simp only [isInB, Bool.and_eq_true, Bool.not_eq_true', decide_eq_false_iff_not] at h
  have h0 : ¬ x < 0 := fun q => h.1 (by
    have h3 := Int32.lt_iff_toInt_lt.mp q
    refine Int32.lt_iff_toInt_lt.mpr ?_
    rw [nI_toInt ha]
    have z : (0 : Int32).toInt = 0 := by decide
    omega)
  obtain ⟨q, h3, rfl⟩ := rng hb h0 h.2
  exact ⟨q, Nat.not_lt.mp (fun g => h.1 ((nI_ltI (by omega) ha).mpr g)), h3, rfl⟩
theorem tX5_count {r m im wa fr lt rw rf nu : Nat → Int32} {hi pl sd : Int32} {L R : Nat} (hS : SOk r) {w : Int32} : PM mX5_count [.ref 0, .int w] (mW r m im wa fr hi lt rw rf (nI L) (nI R) pl nu sd) (MP (s_count w (r, im, hi, lt, L, rw, R, rf))) := by
  refine PM.ofp 0 (by decide) (Nat.le_of_ble_eq_true rfl) ?_
  show Ok mX5_count none 0 [some (.ref 0), some (.int w)] [] (mW r m im wa fr hi lt rw rf (nI L) (nI R) pl nu sd) 0 0 _
  have h6 := hS.n6
  refine o_iload_n dX5_count_0 rfl rfl ?_
  refine o_bipush dX5_count_1 bp_11 ?_
  refine o_bipush dX5_count_3 bp_16 ?_
  refine o_callSr (is := []) (tX5_isIn) ⟨rfl, rfl⟩ dX5_count_5 wd760 csX5_isIn rfl ⟨(Nat.le_of_ble_eq_true rfl), (Nat.le_of_ble_eq_true rfl)⟩ rfl rfl rfl (Nat.le_of_ble_eq_true rfl) (Nat.le_of_ble_eq_true rfl) (Nat.le_of_ble_eq_true rfl) ?_
  refine o_if_eq (tgt := 21) dX5_count_8 (by decide) (fun c_8 => ?_) (fun c_8 => ?_)
  · have hi1 := bI_0.mp c_8
    refine o_iload_n dX5_count_21 rfl rfl ?_
    refine o_sw (lo := 0) (hi := 7) 8 (by decide) (by decide) (by decide) (fun hsw => ?_) (fun j hj hsw => ?_)
    · refine o_tabOut (tgt := 98) dX5_count_22 hsw (by decide) ?_
      refine o_bipush dX5_count_98 bp_m9 ?_
      refine o_iret dX5_count_100 rfl (vp_nar_int _) (Nat.le_of_ble_eq_true rfl) (Nat.le_of_ble_eq_true rfl) ?_
      have hr : inR 4 w = false := by
        cases h : inR 4 w with
        | false => rfl
        | true =>
          obtain ⟨u, hu, rfl⟩ := inR_yes (by omega) h
          rw [nI_toInt (by omega)] at hsw
          omega
      have n4 := sw_ne hsw 4 (by decide)
      have n5 := sw_ne hsw 5 (by decide)
      have n6 := sw_ne hsw 6 (by decide)
      have n7 := sw_ne hsw 7 (by decide)
      exact MP.mk (σ := (r, im, hi, lt, L, rw, R, rf)) (by simp [s_count, hi1, hr, n4, n5, n6, n7])
    · match j, hj, hsw with
      | 0, _, hsw =>
        refine o_tabInE (tgt := 68) (off := 46) dX5_count_22 hsw (by decide) (by decide) (by decide) (by decide) ?_
        have hsw := sw_eq (l := 0) hsw (by decide)
        refine o_aload_n dX5_count_68 rfl rfl ?_
        refine o_getf (j := 0) dX5_count_69 rfl hcX5 inX5 (Nat.le_of_ble_eq_true rfl) wd686 rfl rfl ?_
        refine o_iload_n dX5_count_72 rfl rfl ?_
        refine o_ialp (i := 0) dX5_count_73 rfl (hsw) (by decide) ?_
        refine o_iret dX5_count_74 rfl (vp_nar_int _) (Nat.le_of_ble_eq_true rfl) (Nat.le_of_ble_eq_true rfl) ?_
        exact MP.mk (σ := (r, im, hi, lt, L, rw, R, rf)) (by rw [hsw]; rfl)
      | 1, _, hsw =>
        refine o_tabInE (tgt := 68) (off := 46) dX5_count_22 hsw (by decide) (by decide) (by decide) (by decide) ?_
        have hsw := sw_eq (l := 1) hsw (by decide)
        refine o_aload_n dX5_count_68 rfl rfl ?_
        refine o_getf (j := 0) dX5_count_69 rfl hcX5 inX5 (Nat.le_of_ble_eq_true rfl) wd686 rfl rfl ?_
        refine o_iload_n dX5_count_72 rfl rfl ?_
        refine o_ialp (i := 1) dX5_count_73 rfl (hsw) (by decide) ?_
        refine o_iret dX5_count_74 rfl (vp_nar_int _) (Nat.le_of_ble_eq_true rfl) (Nat.le_of_ble_eq_true rfl) ?_
        exact MP.mk (σ := (r, im, hi, lt, L, rw, R, rf)) (by rw [hsw]; rfl)
      | 2, _, hsw =>
        refine o_tabInE (tgt := 68) (off := 46) dX5_count_22 hsw (by decide) (by decide) (by decide) (by decide) ?_
        have hsw := sw_eq (l := 2) hsw (by decide)
        refine o_aload_n dX5_count_68 rfl rfl ?_
        refine o_getf (j := 0) dX5_count_69 rfl hcX5 inX5 (Nat.le_of_ble_eq_true rfl) wd686 rfl rfl ?_
        refine o_iload_n dX5_count_72 rfl rfl ?_
        refine o_ialp (i := 2) dX5_count_73 rfl (hsw) (by decide) ?_
        refine o_iret dX5_count_74 rfl (vp_nar_int _) (Nat.le_of_ble_eq_true rfl) (Nat.le_of_ble_eq_true rfl) ?_
        exact MP.mk (σ := (r, im, hi, lt, L, rw, R, rf)) (by rw [hsw]; rfl)
      | 3, _, hsw =>
        refine o_tabInE (tgt := 68) (off := 46) dX5_count_22 hsw (by decide) (by decide) (by decide) (by decide) ?_
        have hsw := sw_eq (l := 3) hsw (by decide)
        refine o_aload_n dX5_count_68 rfl rfl ?_
        refine o_getf (j := 0) dX5_count_69 rfl hcX5 inX5 (Nat.le_of_ble_eq_true rfl) wd686 rfl rfl ?_
        refine o_iload_n dX5_count_72 rfl rfl ?_
        refine o_ialp (i := 3) dX5_count_73 rfl (hsw) (by decide) ?_
        refine o_iret dX5_count_74 rfl (vp_nar_int _) (Nat.le_of_ble_eq_true rfl) (Nat.le_of_ble_eq_true rfl) ?_
        exact MP.mk (σ := (r, im, hi, lt, L, rw, R, rf)) (by rw [hsw]; rfl)
      | 4, _, hsw =>
        refine o_tabInE (tgt := 75) (off := 53) dX5_count_22 hsw (by decide) (by decide) (by decide) (by decide) ?_
        have hsw := sw_eq (l := 4) hsw (by decide)
        refine o_aload_n dX5_count_75 rfl rfl ?_
        refine o_getf (j := 0) dX5_count_76 rfl hcX5 inX5 (Nat.le_of_ble_eq_true rfl) wd686 rfl rfl ?_
        refine o_callSr (is := [1]) (tX5_homeIn (by omega) hS.e1) ⟨rfl, rfl⟩ dX5_count_79 wd883 csX5_homeIn rfl ⟨(Nat.le_of_ble_eq_true rfl), (Nat.le_of_ble_eq_true rfl)⟩ rfl rfl rfl (Nat.le_of_ble_eq_true rfl) (Nat.le_of_ble_eq_true rfl) (Nat.le_of_ble_eq_true rfl) ?_
        refine o_iret dX5_count_82 rfl (vp_nar_int _) (Nat.le_of_ble_eq_true rfl) (Nat.le_of_ble_eq_true rfl) ?_
        exact MP.mk (σ := (r, im, hi, lt, L, rw, R, rf)) (by rw [hsw]; rfl)
      | 5, _, hsw =>
        refine o_tabInE (tgt := 83) (off := 61) dX5_count_22 hsw (by decide) (by decide) (by decide) (by decide) ?_
        have hsw := sw_eq (l := 5) hsw (by decide)
        refine o_aload_n dX5_count_83 rfl rfl ?_
        refine o_callVr (is := [0, 1, 2, 3, 4, 5, 6, 7, 8, 9]) (tX5_allMoods hS) ⟨rfl, rfl⟩ dX5_count_84 wd1024 cvX5_allMoods rfl ⟨(Nat.le_of_ble_eq_true rfl), (Nat.le_of_ble_eq_true rfl)⟩ hcX5 rfl rfl rfl rfl (Nat.le_of_ble_eq_true rfl) (Nat.le_of_ble_eq_true rfl) (Nat.le_of_ble_eq_true rfl) ?_
        refine o_iret dX5_count_87 rfl (vp_nar_int _) (Nat.le_of_ble_eq_true rfl) (Nat.le_of_ble_eq_true rfl) ?_
        exact MP.mk (σ := (r, im, hi, lt, L, rw, R, rf)) (by rw [hsw]; rfl)
      | 6, _, hsw =>
        refine o_tabInE (tgt := 88) (off := 66) dX5_count_22 hsw (by decide) (by decide) (by decide) (by decide) ?_
        have hsw := sw_eq (l := 6) hsw (by decide)
        refine o_aload_n dX5_count_88 rfl rfl ?_
        refine o_getf (j := 10) dX5_count_89 rfl hcX5 inX5 (Nat.le_of_ble_eq_true rfl) wd696 rfl rfl ?_
        refine o_iret dX5_count_92 rfl (vp_nar_int _) (Nat.le_of_ble_eq_true rfl) (Nat.le_of_ble_eq_true rfl) ?_
        exact MP.mk (σ := (r, im, hi, lt, L, rw, R, rf)) (by rw [hsw]; rfl)
      | 7, _, hsw =>
        refine o_tabInE (tgt := 93) (off := 71) dX5_count_22 hsw (by decide) (by decide) (by decide) (by decide) ?_
        have hsw := sw_eq (l := 7) hsw (by decide)
        refine o_aload_n dX5_count_93 rfl rfl ?_
        refine o_getf (j := 9) dX5_count_94 rfl hcX5 inX5 (Nat.le_of_ble_eq_true rfl) wd695 rfl rfl ?_
        refine o_iret dX5_count_97 rfl (vp_nar_int _) (Nat.le_of_ble_eq_true rfl) (Nat.le_of_ble_eq_true rfl) ?_
        exact MP.mk (σ := (r, im, hi, lt, L, rw, R, rf)) (by rw [hsw]; rfl)
      | j + 8, hj, _ => exact absurd hj (by omega)
  · have hi1 := bI_ne c_8
    obtain ⟨u, hu1, hu2, rfl⟩ := isInB_yes (a := 11) (b := 16) (by omega) (by omega) hi1
    have eu := cN_nI (d := u) (by omega)
    have es : nI u - 10 = nI (u - 10) := pk_sub (b := 10) (by omega)
    refine o_aload_n dX5_count_11 rfl rfl ?_
    refine o_getf (j := 8) dX5_count_12 rfl hcX5 inX5 (Nat.le_of_ble_eq_true rfl) wd694 rfl rfl ?_
    refine o_iload_n dX5_count_15 rfl rfl ?_
    refine o_bipush dX5_count_16 bp_10 ?_
    refine o_isub dX5_count_18 ?_
    refine o_ialp (i := u - 10) dX5_count_19 rfl (es) (by omega) ?_
    refine o_iret dX5_count_20 rfl (vp_nar_int _) (Nat.le_of_ble_eq_true rfl) (Nat.le_of_ble_eq_true rfl) ?_
    exact MP.mk (σ := (r, im, hi, lt, L, rw, R, rf)) (by simp only [s_count, hi1, if_true, eu])
