theorem at_pp {b s n d : Nat} {r : Nat → Int32} {p : Int32} (hn : n < 2147483648) (hp : p = nI d) (hd : d < n) : PD mX4_at [.ref 0, .int p] [.inl (n, prj b s n r)] (some (.int (r (b + s * d)))) [.inl (n, prj b s n r)] := (at_f hn hp hd).mono (by rw [prj_at hd])
theorem doorP_yes {r fs : Nat → Int32} {D N p : Nat} {h : Int32} {fire : Bool} (hn : ¬ doorP r fs D N p h fire < 0) : ∃ j, j < D ∧ doorP r fs D N p h fire = nI j := by
  rcases doorP_cases (r := r) (fs := fs) (D := D) (N := N) (p := p) (h := h) (fire := fire) with ⟨e1, -⟩ | ⟨j, hj, -, e1, -⟩
  · exact absurd (by rw [e1]; exact m9_neg) hn
  · exact ⟨j, hj, e1⟩
theorem lX3_gh1 {r ws fs : Nat → Int32} {D N : Nat} {n i w0 : Int32} {fire : Bool} {P : Option Value → PW → Prop} (hT : TOk r D N) (hP : ∀ i5 i6, Ok mX3_goHours none 133 [some (.ref 0), some (.int n), some (.int (bI fire)), some (.int (w0 + wentS fs D N fire r N)), some (.int i), some (.int i5), i6] [] (tW (hstep fs D N fire r N) ws fs) 0 0 P) : ∀ (q k : Nat) (dd : Option Value), N - k < q → k ≤ N → Ok mX3_goHours none 24 [some (.ref 0), some (.int n), some (.int (bI fire)), some (.int (w0 + wentS fs D N fire r k)), some (.int i), some (.int (nI k)), dd] [] (tW (hstep fs D N fire r k) ws fs) 0 0 (P) := by
  intro q
  induction q with
  | zero => intro k dd hq hk; omega
  | succ q ih =>
  intro k dd hq hk
  have hTk := hT.hstep (fs := fs) (fire := fire) k hk
  have hN7 := hT.2.2.2.1
  have hD9 := hT.2.1
  refine o_iload dX3_goHours_24 rfl ?_
  refine o_aload_n dX3_goHours_26 rfl rfl ?_
  refine o_getf (j := 4) dX3_goHours_27 rfl hcX3 inX3 (Nat.le_of_ble_eq_true rfl) wd148 rfl rfl ?_
  refine o_icmp_ge (tgt := 133) dX3_goHours_30 (by decide) (fun c_30 => ?_) (fun c_30 => ?_)
  · rw [hTk.2.2.1] at c_30
    have hkN : k = N := Nat.le_antisymm hk (geI (by omega) (by omega) c_30)
    subst hkN
    exact hP _ _
  · rw [hTk.2.2.1] at c_30
    have hkN : k < N := ltI (by omega) (by omega) c_30
    refine o_aload_n dX3_goHours_33 rfl rfl ?_
    refine o_iload dX3_goHours_34 rfl ?_
    refine o_aload_n dX3_goHours_36 rfl rfl ?_
    refine o_getf (j := 5) dX3_goHours_37 rfl hcX3 inX3 (Nat.le_of_ble_eq_true rfl) wd151 rfl rfl ?_
    refine o_iload_n dX3_goHours_40 rfl rfl ?_
    refine o_callVr (is := [0, 1, 2, 3, 4, 5, 6, 7, 8, 9, 10, 11]) (tX3_doorFor hTk hkN) ⟨rfl, rfl⟩ dX3_goHours_41 wd342 cvX3_doorFor rfl ⟨(Nat.le_of_ble_eq_true rfl), (Nat.le_of_ble_eq_true rfl)⟩ hcX3 rfl rfl rfl rfl (Nat.le_of_ble_eq_true rfl) (Nat.le_of_ble_eq_true rfl) (Nat.le_of_ble_eq_true rfl) ?_
    refine o_istg_6 dX3_goHours_44 rfl (Nat.le_of_ble_eq_true rfl) ?_
    refine o_iload dX3_goHours_46 rfl ?_
    refine o_if_lt (tgt := 94) dX3_goHours_48 (by decide) (fun c_48 => ?_) (fun c_48 => ?_)
    · skip
      refine o_aload_n dX3_goHours_94 rfl rfl ?_
      refine o_iload dX3_goHours_95 rfl ?_
      refine o_callVr (is := [0, 1, 2, 3, 4, 5, 6, 7, 8, 9, 10, 11]) (tX3_isHome (by omega)) ⟨rfl, rfl⟩ dX3_goHours_97 wd365 cvX3_isHome rfl ⟨(Nat.le_of_ble_eq_true rfl), (Nat.le_of_ble_eq_true rfl)⟩ hcX3 rfl rfl rfl rfl (Nat.le_of_ble_eq_true rfl) (Nat.le_of_ble_eq_true rfl) (Nat.le_of_ble_eq_true rfl) ?_
      refine o_if_ne (tgt := 127) dX3_goHours_100 (by decide) (fun c_100 => ?_) (fun c_100 => ?_)
      · skip
        refine o_inc_5 dX3_goHours_127 rfl ic_1 (Nat.le_of_ble_eq_true rfl) ?_
        refine o_goto (tgt := 24) dX3_goHours_130 (by decide) ?_
        exact o_eqa (by rw [nI_1, wentS, if_pos c_48]) (by rw [hstep, pstep, if_pos c_48, if_pos (by cases hd : decide ((hstep fs D N fire r k) (50 + 3 * k) = (hstep fs D N fire r k) (51 + 3 * k)) with
          | true => exact of_decide_eq_true hd
          | false => exact absurd (by rw [hd]; rfl) c_100)]) (ih (k + 1) _ (by omega) (by omega))
      · skip
        refine o_aload_n dX3_goHours_103 rfl rfl ?_
        refine o_getf (j := 3) dX3_goHours_104 rfl hcX3 inX3 (Nat.le_of_ble_eq_true rfl) wd146 rfl rfl ?_
        refine o_iload dX3_goHours_107 rfl ?_
        refine o_iconst dX3_goHours_109 ic_0 ?_
        refine o_aload_n dX3_goHours_110 rfl rfl ?_
        refine o_getf (j := 3) dX3_goHours_111 rfl hcX3 inX3 (Nat.le_of_ble_eq_true rfl) wd146 rfl rfl ?_
        refine o_iload dX3_goHours_114 rfl ?_
        refine o_callSNr (is := [11]) (at_p (by decide) (by omega)) ⟨rfl, rfl⟩ dX3_goHours_116 wd346 csX4_at rfl ⟨(Nat.le_of_ble_eq_true rfl), (Nat.le_of_ble_eq_true rfl)⟩ rfl rfl rfl (Nat.le_of_ble_eq_true rfl) (Nat.le_of_ble_eq_true rfl) (Nat.le_of_ble_eq_true rfl) ?_
        refine o_iconst dX3_goHours_119 ic_1 ?_
        refine o_isub dX3_goHours_120 ?_
        refine o_mmax dX3_goHours_121 wd358 wd184 wd60 wd185 (Nat.le_of_ble_eq_true rfl) (Nat.le_of_ble_eq_true rfl) (Nat.le_of_ble_eq_true rfl) (Nat.le_of_ble_eq_true rfl) ?_
        refine o_callSNd (is := [11]) (put_f (by decide) rfl (by omega)) ⟨rfl, rfl⟩ dX3_goHours_124 wd314 csX4_put rfl ⟨(Nat.le_of_ble_eq_true rfl), (Nat.le_of_ble_eq_true rfl)⟩ rfl rfl rfl (Nat.le_of_ble_eq_true rfl) (Nat.le_of_ble_eq_true rfl) (Nat.le_of_ble_eq_true rfl) rfl ?_
        refine o_eqw (w2 := tW (upd (hstep fs D N fire r k) (52 + 3 * k) (if 0 < (hstep fs D N fire r k) (52 + 3 * k) - 1 then (hstep fs D N fire r k) (52 + 3 * k) - 1 else 0)) ws fs) (by rw [tW_mood (by omega)]; rfl) ?_
        refine o_inc_5 dX3_goHours_127 rfl ic_1 (Nat.le_of_ble_eq_true rfl) ?_
        refine o_goto (tgt := 24) dX3_goHours_130 (by decide) ?_
        have hnh : ¬ (hstep fs D N fire r k) (50 + 3 * k) = (hstep fs D N fire r k) (51 + 3 * k) := by rw [bI_0] at c_100; simpa using c_100
        exact o_eqa (by rw [nI_1, wentS, if_pos c_48]) (by rw [hstep, pstep, if_pos c_48, if_neg hnh]) (ih (k + 1) _ (by omega) (by omega))
    · obtain ⟨j, hj, e1⟩ := doorP_yes c_48
      have ec : cN (nI j) = j := nI_clamp (by omega)
      refine o_aload_n dX3_goHours_51 rfl rfl ?_
      refine o_getf (j := 1) dX3_goHours_52 rfl hcX3 inX3 (Nat.le_of_ble_eq_true rfl) wd140 rfl rfl ?_
      refine o_iload dX3_goHours_55 rfl ?_
      refine o_aload_n dX3_goHours_57 rfl rfl ?_
      refine o_getf (j := 0) dX3_goHours_58 rfl hcX3 inX3 (Nat.le_of_ble_eq_true rfl) wd137 rfl rfl ?_
      refine o_getf (j := 3) dX3_goHours_61 rfl hcX0 inX0 (Nat.le_of_ble_eq_true rfl) wd110 rfl rfl ?_
      refine o_iload dX3_goHours_64 rfl ?_
      refine o_callSNr (is := [5]) (at_pp (by decide) e1 (by omega)) ⟨rfl, rfl⟩ dX3_goHours_66 wd346 csX4_at rfl ⟨(Nat.le_of_ble_eq_true rfl), (Nat.le_of_ble_eq_true rfl)⟩ rfl rfl rfl (Nat.le_of_ble_eq_true rfl) (Nat.le_of_ble_eq_true rfl) (Nat.le_of_ble_eq_true rfl) ?_
      refine o_callSNd (is := [9]) (put_f (by decide) rfl (by omega)) ⟨rfl, rfl⟩ dX3_goHours_69 wd314 csX4_put rfl ⟨(Nat.le_of_ble_eq_true rfl), (Nat.le_of_ble_eq_true rfl)⟩ rfl rfl rfl (Nat.le_of_ble_eq_true rfl) (Nat.le_of_ble_eq_true rfl) (Nat.le_of_ble_eq_true rfl) rfl ?_
      refine o_eqw (w2 := tW (upd (hstep fs D N fire r k) (50 + 3 * k) ((hstep fs D N fire r k) (8 + 5 * j))) ws fs) (by rw [tW_room (by omega)]; rfl) ?_
      refine o_aload_n dX3_goHours_72 rfl rfl ?_
      refine o_sipush dX3_goHours_73 sp_9999 ?_
      refine o_aload_n dX3_goHours_76 rfl rfl ?_
      refine o_getf (j := 6) dX3_goHours_77 rfl hcX3 inX3 (Nat.le_of_ble_eq_true rfl) wd154 rfl rfl ?_
      refine o_iconst dX3_goHours_80 ic_1 ?_
      refine o_iadd dX3_goHours_81 ?_
      refine o_mmin dX3_goHours_82 wd364 wd285 wd60 wd286 (Nat.le_of_ble_eq_true rfl) (Nat.le_of_ble_eq_true rfl) (Nat.le_of_ble_eq_true rfl) (Nat.le_of_ble_eq_true rfl) ?_
      refine o_putf (j := 6) tyX3 dX3_goHours_85 rfl hcX3 inX3 tyX3_ok nmX3 (Nat.le_of_ble_eq_true rfl) wd154 rfl rfl (fun _ => vp_nar_int _) (fun _ => rfl) (Nat.le_of_ble_eq_true rfl) rfl ?_
      refine o_eqw tW_l ?_
      refine o_inc_3 dX3_goHours_88 rfl ic_1 (Nat.le_of_ble_eq_true rfl) ?_
      refine o_goto (tgt := 127) dX3_goHours_91 (by decide) ?_
      refine o_inc_5 dX3_goHours_127 rfl ic_1 (Nat.le_of_ble_eq_true rfl) ?_
      refine o_goto (tgt := 24) dX3_goHours_130 (by decide) ?_
      exact o_eqa (by rw [nI_1, wentS, if_neg c_48, Int32.add_assoc]) (by rw [hstep, pstep, if_neg c_48, e1, ec, upd_ne (show (3 : Nat) ≠ 50 + 3 * k by omega)]) (ih (k + 1) _ (by omega) (by omega))
theorem lX3_gh2 {r ws fs : Nat → Int32} {D N n : Nat} {fire : Bool} (hn : n < 2147483648) (hT : TOk r D N) : ∀ (q k : Nat) (x5 x6 : Option Value), n - k < q → k ≤ n → Ok mX3_goHours none 5 [some (.ref 0), some (.int (nI n)), some (.int (bI fire)), some (.int (wentC fs D N fire r k)), some (.int (nI k)), x5, x6] [] (tW (hoursC fs D N fire r k) ws fs) 0 0 (fun r2 w2 => r2 = some (.int (wentC fs D N fire r n)) ∧ w2 = tW (hoursC fs D N fire r n) ws fs) := by
  intro q
  induction q with
  | zero => intro k x5 x6 hq hk; omega
  | succ q ih =>
  intro k x5 x6 hq hk
  have hTk := hT.hoursC (fs := fs) (fire := fire) k
  refine o_iload dX3_goHours_5 rfl ?_
  refine o_iload_n dX3_goHours_7 rfl rfl ?_
  refine o_icmp_ge (tgt := 139) dX3_goHours_8 (by decide) (fun c_8 => ?_) (fun c_8 => ?_)
  · have hkN : k = n := Nat.le_antisymm hk (geI (by omega) (by omega) c_8)
    subst hkN
    refine o_iload_n dX3_goHours_139 rfl rfl ?_
    refine o_iret dX3_goHours_140 rfl (vp_nar_int _) (Nat.le_of_ble_eq_true rfl) (Nat.le_of_ble_eq_true rfl) ?_
    exact ⟨rfl, rfl⟩
  · have hkN : k < n := ltI (by omega) (by omega) c_8
    refine o_aload_n dX3_goHours_11 rfl rfl ?_
    refine o_dup dX3_goHours_12 rfl ?_
    refine o_getf (j := 5) dX3_goHours_13 rfl hcX3 inX3 (Nat.le_of_ble_eq_true rfl) wd151 rfl rfl ?_
    refine o_iconst dX3_goHours_16 ic_1 ?_
    refine o_iadd dX3_goHours_17 ?_
    refine o_putf (j := 5) tyX3 dX3_goHours_18 rfl hcX3 inX3 tyX3_ok nmX3 (Nat.le_of_ble_eq_true rfl) wd151 rfl rfl (fun _ => vp_nar_int _) (fun _ => rfl) (Nat.le_of_ble_eq_true rfl) rfl ?_
    refine o_eqw tW_h ?_
    refine o_iconst dX3_goHours_21 ic_0 ?_
    refine o_istg_5 dX3_goHours_22 rfl (Nat.le_of_ble_eq_true rfl) ?_
    refine o_eqa (by rw [nI_0, wentS, Int32.add_zero]) rfl (lX3_gh1 (w0 := wentC fs D N fire r k) (fire := fire) hTk.hour (fun i5 i6 => ?_) (N + 1) 0 _ (by omega) (by omega))
    refine o_inc_4 dX3_goHours_133 rfl ic_1 (Nat.le_of_ble_eq_true rfl) ?_
    refine o_goto (tgt := 5) dX3_goHours_136 (by decide) ?_
    exact o_eqa (by rw [nI_1]; rfl) rfl (ih (k + 1) _ _ (by omega) (by omega))
theorem tX3_goHours {r ws fs : Nat → Int32} {D N n : Nat} {fire : Bool} (hn : n < 2147483648) (hT : TOk r D N) : PD mX3_goHours [.ref 0, .int (nI n), .int (bI fire)] (tW r ws fs) (some (.int (wentC fs D N fire r n))) (tW (hoursC fs D N fire r n) ws fs) := by
  refine PM.ofp 4 (by decide) (Nat.le_of_ble_eq_true rfl) ?_
  show Ok mX3_goHours none 0 [some (.ref 0), some (.int (nI n)), some (.int (bI fire)), none, none, none, none] [] (tW r ws fs) 0 0 _
  refine o_iconst dX3_goHours_0 ic_0 ?_
  refine o_istn_3 dX3_goHours_1 rfl rfl (Nat.le_of_ble_eq_true rfl) ?_
  refine o_iconst dX3_goHours_2 ic_0 ?_
  refine o_istg_4 dX3_goHours_3 rfl (Nat.le_of_ble_eq_true rfl) ?_
  exact o_eqa (by rw [nI_0]; rfl) rfl (lX3_gh2 hn hT (n + 1) 0 _ _ (by omega) (by omega))
