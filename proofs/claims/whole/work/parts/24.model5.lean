theorem o_wr3 {M : MI} {S : Scr} {pc : Nat} {ls : List (Option Value)} {st : List Value} {w : PW} {k n : Nat} {P : Option Value → PW → Prop} {v a b : Int32} (h1 : v < a → Ok M S pc ls (.int (-4) :: st) w k n P) (h2 : ¬ v < a → b < v → Ok M S pc ls (.int (-6) :: st) w k n P) (h3 : ¬ v < a → ¬ b < v → Ok M S pc ls (.int 0 :: st) w k n P) : Ok M S pc ls (.int (wrF v a b) :: st) w k n P := by
  unfold wrF
  split
  · rename_i h; exact h1 h
  · rename_i h
    split
    · rename_i g; exact h2 h g
    · rename_i g; exact h3 h g
theorem rng {x : Int32} {b : Nat} (hb : b < 2147483648) (h1 : ¬ x < 0) (h2 : ¬ nI b < x) : ∃ q, q ≤ b ∧ x = nI q := by
  obtain ⟨q, h3, rfl⟩ := nI_of h1
  exact ⟨q, Nat.not_lt.mp (fun h => h2 ((nI_ltI hb h3).mpr h)), rfl⟩
theorem rng1 {x : Int32} {b : Nat} (hb : b < 2147483648) (h1 : ¬ x < 1) (h2 : ¬ nI b < x) : ∃ q, 1 ≤ q ∧ q ≤ b ∧ x = nI q := by
  have h0 : ¬ x < 0 := fun h => h1 (by
    have h3 := Int32.lt_iff_toInt_lt.mp h
    exact Int32.lt_iff_toInt_lt.mpr (Int.lt_trans h3 (by decide)))
  obtain ⟨q, h3, rfl⟩ := rng hb h0 h2
  refine ⟨q, ?_, h3, rfl⟩
  rcases Nat.eq_zero_or_pos q with h | h
  · subst h; exact absurd (by decide) h1
  · exact h
theorem tX5_moods {r m im wa fr lt rw rf nu : Nat → Int32} {hi pl sd : Int32} {L R : Nat} (hS : SOk r) {x v : Int32} : PM mX5_moods [.ref 0, .int x, .int v] (mW r m im wa fr hi lt rw rf (nI L) (nI R) pl nu sd) (MP (s_moods x v (r, im, hi, lt, L, rw, R, rf))) := by
  refine PM.ofp 2 (by decide) (Nat.le_of_ble_eq_true rfl) ?_
  show Ok mX5_moods none 0 [some (.ref 0), some (.int x), some (.int v), none, none] [] (mW r m im wa fr hi lt rw rf (nI L) (nI R) pl nu sd) 0 0 _
  refine o_aload_n dX5_moods_0 rfl rfl ?_
  refine o_iload_n dX5_moods_1 rfl rfl ?_
  refine o_callVr (is := [0, 1, 2, 3, 4, 5, 6, 7, 8, 9]) (tX5_isPerson hS) ⟨rfl, rfl⟩ dX5_moods_2 wd786 cvX5_isPerson rfl ⟨(Nat.le_of_ble_eq_true rfl), (Nat.le_of_ble_eq_true rfl)⟩ hcX5 rfl rfl rfl rfl (Nat.le_of_ble_eq_true rfl) (Nat.le_of_ble_eq_true rfl) (Nat.le_of_ble_eq_true rfl) ?_
  refine o_if_eq (tgt := 18) dX5_moods_5 (by decide) (fun c_5 => ?_) (fun c_5 => ?_)
  · have hno := bI_0.mp c_5
    refine o_iconst dX5_moods_18 ic_m1 ?_
    refine o_istn_3 dX5_moods_19 rfl rfl (Nat.le_of_ble_eq_true rfl) ?_
    refine o_iload_n dX5_moods_20 rfl rfl ?_
    refine o_if_eq (tgt := 30) dX5_moods_21 (by decide) (fun cq => absurd cq (by decide)) (fun _ => ?_)
    refine o_aload_n dX5_moods_24 rfl rfl ?_
    refine o_iload_n dX5_moods_25 rfl rfl ?_
    refine o_callVd (is := [0, 1, 2, 3, 4, 5, 6, 7, 8, 9]) (tX5_no (c := 1) rfl (by decide)) ⟨rfl, rfl⟩ dX5_moods_26 wd733 cvX5_no rfl ⟨(Nat.le_of_ble_eq_true rfl), (Nat.le_of_ble_eq_true rfl)⟩ hcX5 rfl rfl rfl rfl (Nat.le_of_ble_eq_true rfl) (Nat.le_of_ble_eq_true rfl) (Nat.le_of_ble_eq_true rfl) rfl ?_
    refine o_iret dX5_moods_29 rfl (vp_nar_int _) (Nat.le_of_ble_eq_true rfl) (Nat.le_of_ble_eq_true rfl) ?_
    exact MP.mk (σ := (r, im, hi, lt, L, rw, R, rfu rf 1)) (by simp only [s_moods, hno]; rfl)
  · obtain ⟨d, hd, rfl⟩ := inR_yes (by have := hS.n6; omega) (bI_ne c_5)
    have h9 := hS.n6
    have hin := inR_nI (D := nN r) (by omega) hd
    have ec := cN_nI (d := d) (by omega)
    refine o_iload_n dX5_moods_8 rfl rfl ?_
    refine o_iconst dX5_moods_9 ic_0 ?_
    refine o_bipush dX5_moods_10 bp_9 ?_
    refine o_callSr (is := []) (tX5_wrongBy) ⟨rfl, rfl⟩ dX5_moods_12 wd872 csX5_wrongBy rfl ⟨(Nat.le_of_ble_eq_true rfl), (Nat.le_of_ble_eq_true rfl)⟩ rfl rfl rfl (Nat.le_of_ble_eq_true rfl) (Nat.le_of_ble_eq_true rfl) (Nat.le_of_ble_eq_true rfl) ?_
    refine o_wr3 (fun hw => ?_) (fun hw1 hw2 => ?_) (fun hw1 hw2 => ?_)
    · skip
      refine o_goto (tgt := 19) dX5_moods_15 (by decide) ?_
      refine o_istn_3 dX5_moods_19 rfl rfl (Nat.le_of_ble_eq_true rfl) ?_
      refine o_iload_n dX5_moods_20 rfl rfl ?_
      refine o_if_eq (tgt := 30) dX5_moods_21 (by decide) (fun cq => absurd cq (by decide)) (fun _ => ?_)
      refine o_aload_n dX5_moods_24 rfl rfl ?_
      refine o_iload_n dX5_moods_25 rfl rfl ?_
      refine o_callVd (is := [0, 1, 2, 3, 4, 5, 6, 7, 8, 9]) (tX5_no (c := 4) rfl (by decide)) ⟨rfl, rfl⟩ dX5_moods_26 wd733 cvX5_no rfl ⟨(Nat.le_of_ble_eq_true rfl), (Nat.le_of_ble_eq_true rfl)⟩ hcX5 rfl rfl rfl rfl (Nat.le_of_ble_eq_true rfl) (Nat.le_of_ble_eq_true rfl) (Nat.le_of_ble_eq_true rfl) rfl ?_
      refine o_iret dX5_moods_29 rfl (vp_nar_int _) (Nat.le_of_ble_eq_true rfl) (Nat.le_of_ble_eq_true rfl) ?_
      exact MP.mk (σ := (r, im, hi, lt, L, rw, R, rfu rf 4)) (by simp only [s_moods, hin, if_true, wrB, if_pos hw]; rfl)
    · skip
      refine o_goto (tgt := 19) dX5_moods_15 (by decide) ?_
      refine o_istn_3 dX5_moods_19 rfl rfl (Nat.le_of_ble_eq_true rfl) ?_
      refine o_iload_n dX5_moods_20 rfl rfl ?_
      refine o_if_eq (tgt := 30) dX5_moods_21 (by decide) (fun cq => absurd cq (by decide)) (fun _ => ?_)
      refine o_aload_n dX5_moods_24 rfl rfl ?_
      refine o_iload_n dX5_moods_25 rfl rfl ?_
      refine o_callVd (is := [0, 1, 2, 3, 4, 5, 6, 7, 8, 9]) (tX5_no (c := 6) rfl (by decide)) ⟨rfl, rfl⟩ dX5_moods_26 wd733 cvX5_no rfl ⟨(Nat.le_of_ble_eq_true rfl), (Nat.le_of_ble_eq_true rfl)⟩ hcX5 rfl rfl rfl rfl (Nat.le_of_ble_eq_true rfl) (Nat.le_of_ble_eq_true rfl) (Nat.le_of_ble_eq_true rfl) rfl ?_
      refine o_iret dX5_moods_29 rfl (vp_nar_int _) (Nat.le_of_ble_eq_true rfl) (Nat.le_of_ble_eq_true rfl) ?_
      exact MP.mk (σ := (r, im, hi, lt, L, rw, R, rfu rf 6)) (by simp only [s_moods, hin, if_true, wrB, if_neg hw1, show nI 9 < v from hw2, if_true]; rfl)
    · obtain ⟨q, hq, rfl⟩ := rng (b := 9) (by omega) hw1 hw2
      have eq := cN_nI (d := q) (by omega)
      refine o_goto (tgt := 19) dX5_moods_15 (by decide) ?_
      refine o_istn_3 dX5_moods_19 rfl rfl (Nat.le_of_ble_eq_true rfl) ?_
      refine o_iload_n dX5_moods_20 rfl rfl ?_
      refine o_if_eq (tgt := 30) dX5_moods_21 (by decide) (fun _ => ?_) (fun cq => absurd (by decide) cq)
      refine o_aload_n dX5_moods_30 rfl rfl ?_
      refine o_getf (j := 0) dX5_moods_31 rfl hcX5 inX5 (Nat.le_of_ble_eq_true rfl) wd686 rfl rfl ?_
      refine o_iload_n dX5_moods_34 rfl rfl ?_
      refine o_iconst dX5_moods_35 ic_2 ?_
      refine o_callSr (is := []) (ofP2) ⟨rfl, rfl⟩ dX5_moods_36 wd783 csX5_ofP rfl ⟨(Nat.le_of_ble_eq_true rfl), (Nat.le_of_ble_eq_true rfl)⟩ rfl rfl rfl (Nat.le_of_ble_eq_true rfl) (Nat.le_of_ble_eq_true rfl) (Nat.le_of_ble_eq_true rfl) ?_
      refine o_ialp (i := 52 + 3 * d) dX5_moods_39 rfl (rfl) (by omega) ?_
      refine o_istg_4 dX5_moods_40 rfl (Nat.le_of_ble_eq_true rfl) ?_
      refine o_aload_n dX5_moods_42 rfl rfl ?_
      refine o_getf (j := 0) dX5_moods_43 rfl hcX5 inX5 (Nat.le_of_ble_eq_true rfl) wd686 rfl rfl ?_
      refine o_iload_n dX5_moods_46 rfl rfl ?_
      refine o_iconst dX5_moods_47 ic_2 ?_
      refine o_callSr (is := []) (ofP2) ⟨rfl, rfl⟩ dX5_moods_48 wd783 csX5_ofP rfl ⟨(Nat.le_of_ble_eq_true rfl), (Nat.le_of_ble_eq_true rfl)⟩ rfl rfl rfl (Nat.le_of_ble_eq_true rfl) (Nat.le_of_ble_eq_true rfl) (Nat.le_of_ble_eq_true rfl) ?_
      refine o_iload_n dX5_moods_51 rfl rfl ?_
      refine o_iasp (i := 52 + 3 * d) dX5_moods_52 rfl (rfl) (by omega) rfl ?_
      refine o_iload dX5_moods_53 rfl ?_
      refine o_iret dX5_moods_55 rfl (vp_nar_int _) (Nat.le_of_ble_eq_true rfl) (Nat.le_of_ble_eq_true rfl) ?_
      exact MP.mk (σ := (upd r (52 + 3 * d) (nI q), im, hi, lt, L, rw, R, rf)) (by simp only [s_moods, hin, if_true, wrB, if_neg hw1, show ¬ nI 9 < nI q from hw2, if_false, ec, stR])
theorem tX5_changes {r m im wa fr lt rw rf nu : Nat → Int32} {hi pl sd : Int32} {L R : Nat} (hS : SOk r) {x kk f : Int32} : PM mX5_changes [.ref 0, .int x, .int kk, .int f] (mW r m im wa fr hi lt rw rf (nI L) (nI R) pl nu sd) (MP (s_changes x kk f (r, im, hi, lt, L, rw, R, rf))) := by
  refine PM.ofp 2 (by decide) (Nat.le_of_ble_eq_true rfl) ?_
  show Ok mX5_changes none 0 [some (.ref 0), some (.int x), some (.int kk), some (.int f), none, none] [] (mW r m im wa fr hi lt rw rf (nI L) (nI R) pl nu sd) 0 0 _
  refine o_aload_n dX5_changes_0 rfl rfl ?_
  refine o_iload_n dX5_changes_1 rfl rfl ?_
  refine o_callVr (is := [0, 1, 2, 3, 4, 5, 6, 7, 8, 9]) (tX5_isDoor hS) ⟨rfl, rfl⟩ dX5_changes_2 wd790 cvX5_isDoor rfl ⟨(Nat.le_of_ble_eq_true rfl), (Nat.le_of_ble_eq_true rfl)⟩ hcX5 rfl rfl rfl rfl (Nat.le_of_ble_eq_true rfl) (Nat.le_of_ble_eq_true rfl) (Nat.le_of_ble_eq_true rfl) ?_
  refine o_if_ne (tgt := 12) dX5_changes_5 (by decide) (fun c_5 => ?_) (fun c_5 => ?_)
  · obtain ⟨d, hd, rfl⟩ := inR_yes (by have := hS.d9; omega) (bI_ne c_5)
    have h9 := hS.d9
    have hin := inR_nI (D := dN r) (by omega) hd
    have ec := cN_nI (d := d) (by omega)
    refine o_iload_n dX5_changes_12 rfl rfl ?_
    refine o_iconst dX5_changes_13 ic_0 ?_
    refine o_iconst dX5_changes_14 ic_5 ?_
    refine o_callSr (is := []) (tX5_isIn) ⟨rfl, rfl⟩ dX5_changes_15 wd760 csX5_isIn rfl ⟨(Nat.le_of_ble_eq_true rfl), (Nat.le_of_ble_eq_true rfl)⟩ rfl rfl rfl (Nat.le_of_ble_eq_true rfl) (Nat.le_of_ble_eq_true rfl) (Nat.le_of_ble_eq_true rfl) ?_
    refine o_if_ne (tgt := 26) dX5_changes_18 (by decide) (fun c_18 => ?_) (fun c_18 => ?_)
    · have hk : inR 6 kk = true := by rw [← isInB_eq 5 (by omega)]; exact bI_ne c_18
      refine o_iload_n dX5_changes_26 rfl rfl ?_
      refine o_iconst dX5_changes_27 ic_0 ?_
      refine o_bipush dX5_changes_28 bp_9 ?_
      refine o_callSr (is := []) (tX5_wrongBy) ⟨rfl, rfl⟩ dX5_changes_30 wd872 csX5_wrongBy rfl ⟨(Nat.le_of_ble_eq_true rfl), (Nat.le_of_ble_eq_true rfl)⟩ rfl rfl rfl (Nat.le_of_ble_eq_true rfl) (Nat.le_of_ble_eq_true rfl) (Nat.le_of_ble_eq_true rfl) ?_
      refine o_wr3 (fun hw => ?_) (fun hw1 hw2 => ?_) (fun hw1 hw2 => ?_)
      · skip
        refine o_istg_4 dX5_changes_33 rfl (Nat.le_of_ble_eq_true rfl) ?_
        refine o_iload dX5_changes_35 rfl ?_
        refine o_if_eq (tgt := 47) dX5_changes_37 (by decide) (fun cq => absurd cq (by decide)) (fun _ => ?_)
        refine o_aload_n dX5_changes_40 rfl rfl ?_
        refine o_iload dX5_changes_41 rfl ?_
        refine o_callVd (is := [0, 1, 2, 3, 4, 5, 6, 7, 8, 9]) (tX5_no (c := 4) rfl (by decide)) ⟨rfl, rfl⟩ dX5_changes_43 wd733 cvX5_no rfl ⟨(Nat.le_of_ble_eq_true rfl), (Nat.le_of_ble_eq_true rfl)⟩ hcX5 rfl rfl rfl rfl (Nat.le_of_ble_eq_true rfl) (Nat.le_of_ble_eq_true rfl) (Nat.le_of_ble_eq_true rfl) rfl ?_
        refine o_iret dX5_changes_46 rfl (vp_nar_int _) (Nat.le_of_ble_eq_true rfl) (Nat.le_of_ble_eq_true rfl) ?_
        exact MP.mk (σ := (r, im, hi, lt, L, rw, R, rfu rf 4)) (by simp only [s_changes, hin, hk, if_true, wrB, if_pos hw]; rfl)
      · skip
        refine o_istg_4 dX5_changes_33 rfl (Nat.le_of_ble_eq_true rfl) ?_
        refine o_iload dX5_changes_35 rfl ?_
        refine o_if_eq (tgt := 47) dX5_changes_37 (by decide) (fun cq => absurd cq (by decide)) (fun _ => ?_)
        refine o_aload_n dX5_changes_40 rfl rfl ?_
        refine o_iload dX5_changes_41 rfl ?_
        refine o_callVd (is := [0, 1, 2, 3, 4, 5, 6, 7, 8, 9]) (tX5_no (c := 6) rfl (by decide)) ⟨rfl, rfl⟩ dX5_changes_43 wd733 cvX5_no rfl ⟨(Nat.le_of_ble_eq_true rfl), (Nat.le_of_ble_eq_true rfl)⟩ hcX5 rfl rfl rfl rfl (Nat.le_of_ble_eq_true rfl) (Nat.le_of_ble_eq_true rfl) (Nat.le_of_ble_eq_true rfl) rfl ?_
        refine o_iret dX5_changes_46 rfl (vp_nar_int _) (Nat.le_of_ble_eq_true rfl) (Nat.le_of_ble_eq_true rfl) ?_
        exact MP.mk (σ := (r, im, hi, lt, L, rw, R, rfu rf 6)) (by simp only [s_changes, hin, hk, if_true, wrB, if_neg hw1, show nI 9 < f from hw2, if_true]; rfl)
      · obtain ⟨q, hq, rfl⟩ := rng (b := 9) (by omega) hw1 hw2
        have eq := cN_nI (d := q) (by omega)
        refine o_istg_4 dX5_changes_33 rfl (Nat.le_of_ble_eq_true rfl) ?_
        refine o_iload dX5_changes_35 rfl ?_
        refine o_if_eq (tgt := 47) dX5_changes_37 (by decide) (fun _ => ?_) (fun cq => absurd (by decide) cq)
        refine o_bipush dX5_changes_47 bp_10 ?_
        refine o_aload_n dX5_changes_49 rfl rfl ?_
        refine o_getf (j := 0) dX5_changes_50 rfl hcX5 inX5 (Nat.le_of_ble_eq_true rfl) wd686 rfl rfl ?_
        refine o_iload_n dX5_changes_53 rfl rfl ?_
        refine o_iconst dX5_changes_54 ic_0 ?_
        refine o_callSr (is := []) (ofD0) ⟨rfl, rfl⟩ dX5_changes_55 wd777 csX5_ofD rfl ⟨(Nat.le_of_ble_eq_true rfl), (Nat.le_of_ble_eq_true rfl)⟩ rfl rfl rfl (Nat.le_of_ble_eq_true rfl) (Nat.le_of_ble_eq_true rfl) (Nat.le_of_ble_eq_true rfl) ?_
        refine o_ialp (i := 5 + 5 * d) dX5_changes_58 rfl (rfl) (by omega) ?_
        refine o_imul dX5_changes_59 ?_
        refine o_aload_n dX5_changes_60 rfl rfl ?_
        refine o_getf (j := 0) dX5_changes_61 rfl hcX5 inX5 (Nat.le_of_ble_eq_true rfl) wd686 rfl rfl ?_
        refine o_iload_n dX5_changes_64 rfl rfl ?_
        refine o_iconst dX5_changes_65 ic_1 ?_
        refine o_callSr (is := []) (ofD1) ⟨rfl, rfl⟩ dX5_changes_66 wd777 csX5_ofD rfl ⟨(Nat.le_of_ble_eq_true rfl), (Nat.le_of_ble_eq_true rfl)⟩ rfl rfl rfl (Nat.le_of_ble_eq_true rfl) (Nat.le_of_ble_eq_true rfl) (Nat.le_of_ble_eq_true rfl) ?_
        refine o_ialp (i := 6 + 5 * d) dX5_changes_69 rfl (rfl) (by omega) ?_
        refine o_iadd dX5_changes_70 ?_
        refine o_istg_5 dX5_changes_71 rfl (Nat.le_of_ble_eq_true rfl) ?_
        refine o_aload_n dX5_changes_73 rfl rfl ?_
        refine o_getf (j := 0) dX5_changes_74 rfl hcX5 inX5 (Nat.le_of_ble_eq_true rfl) wd686 rfl rfl ?_
        refine o_iload_n dX5_changes_77 rfl rfl ?_
        refine o_iconst dX5_changes_78 ic_0 ?_
        refine o_callSr (is := []) (ofD0) ⟨rfl, rfl⟩ dX5_changes_79 wd777 csX5_ofD rfl ⟨(Nat.le_of_ble_eq_true rfl), (Nat.le_of_ble_eq_true rfl)⟩ rfl rfl rfl (Nat.le_of_ble_eq_true rfl) (Nat.le_of_ble_eq_true rfl) (Nat.le_of_ble_eq_true rfl) ?_
        refine o_iload_n dX5_changes_82 rfl rfl ?_
        refine o_iasp (i := 5 + 5 * d) dX5_changes_83 rfl (rfl) (by omega) rfl ?_
        refine o_aload_n dX5_changes_84 rfl rfl ?_
        refine o_getf (j := 0) dX5_changes_85 rfl hcX5 inX5 (Nat.le_of_ble_eq_true rfl) wd686 rfl rfl ?_
        refine o_iload_n dX5_changes_88 rfl rfl ?_
        refine o_iconst dX5_changes_89 ic_1 ?_
        refine o_callSr (is := []) (ofD1) ⟨rfl, rfl⟩ dX5_changes_90 wd777 csX5_ofD rfl ⟨(Nat.le_of_ble_eq_true rfl), (Nat.le_of_ble_eq_true rfl)⟩ rfl rfl rfl (Nat.le_of_ble_eq_true rfl) (Nat.le_of_ble_eq_true rfl) (Nat.le_of_ble_eq_true rfl) ?_
        refine o_iload_n dX5_changes_93 rfl rfl ?_
        refine o_iasp (i := 6 + 5 * d) dX5_changes_94 rfl (rfl) (by omega) rfl ?_
        refine o_iload dX5_changes_95 rfl ?_
        refine o_iret dX5_changes_97 rfl (vp_nar_int _) (Nat.le_of_ble_eq_true rfl) (Nat.le_of_ble_eq_true rfl) ?_
        exact MP.mk (σ := (upd (upd r (5 + 5 * d) kk) (6 + 5 * d) (nI q), im, hi, lt, L, rw, R, rf)) (by simp only [s_changes, hin, hk, if_true, wrB, if_neg hw1, show ¬ nI 9 < nI q from hw2, if_false, ec, stR])
    · have hk : inR 6 kk = false := by rw [← isInB_eq 5 (by omega)]; exact bI_0.mp c_18
      refine o_bipush dX5_changes_21 bp_m2 ?_
      refine o_goto (tgt := 33) dX5_changes_23 (by decide) ?_
      refine o_istg_4 dX5_changes_33 rfl (Nat.le_of_ble_eq_true rfl) ?_
      refine o_iload dX5_changes_35 rfl ?_
      refine o_if_eq (tgt := 47) dX5_changes_37 (by decide) (fun cq => absurd cq (by decide)) (fun _ => ?_)
      refine o_aload_n dX5_changes_40 rfl rfl ?_
      refine o_iload dX5_changes_41 rfl ?_
      refine o_callVd (is := [0, 1, 2, 3, 4, 5, 6, 7, 8, 9]) (tX5_no (c := 2) rfl (by decide)) ⟨rfl, rfl⟩ dX5_changes_43 wd733 cvX5_no rfl ⟨(Nat.le_of_ble_eq_true rfl), (Nat.le_of_ble_eq_true rfl)⟩ hcX5 rfl rfl rfl rfl (Nat.le_of_ble_eq_true rfl) (Nat.le_of_ble_eq_true rfl) (Nat.le_of_ble_eq_true rfl) rfl ?_
      refine o_iret dX5_changes_46 rfl (vp_nar_int _) (Nat.le_of_ble_eq_true rfl) (Nat.le_of_ble_eq_true rfl) ?_
      exact MP.mk (σ := (r, im, hi, lt, L, rw, R, rfu rf 2)) (by simp only [s_changes, hin, hk, if_true]; rfl)
  · have hno := bI_0.mp c_5
    refine o_iconst dX5_changes_8 ic_m1 ?_
    refine o_goto (tgt := 33) dX5_changes_9 (by decide) ?_
    refine o_istg_4 dX5_changes_33 rfl (Nat.le_of_ble_eq_true rfl) ?_
    refine o_iload dX5_changes_35 rfl ?_
    refine o_if_eq (tgt := 47) dX5_changes_37 (by decide) (fun cq => absurd cq (by decide)) (fun _ => ?_)
    refine o_aload_n dX5_changes_40 rfl rfl ?_
    refine o_iload dX5_changes_41 rfl ?_
    refine o_callVd (is := [0, 1, 2, 3, 4, 5, 6, 7, 8, 9]) (tX5_no (c := 1) rfl (by decide)) ⟨rfl, rfl⟩ dX5_changes_43 wd733 cvX5_no rfl ⟨(Nat.le_of_ble_eq_true rfl), (Nat.le_of_ble_eq_true rfl)⟩ hcX5 rfl rfl rfl rfl (Nat.le_of_ble_eq_true rfl) (Nat.le_of_ble_eq_true rfl) (Nat.le_of_ble_eq_true rfl) rfl ?_
    refine o_iret dX5_changes_46 rfl (vp_nar_int _) (Nat.le_of_ble_eq_true rfl) (Nat.le_of_ble_eq_true rfl) ?_
    exact MP.mk (σ := (r, im, hi, lt, L, rw, R, rfu rf 1)) (by simp only [s_changes, hno]; rfl)
theorem tX5_takes {r m im wa fr lt rw rf nu : Nat → Int32} {hi pl sd : Int32} {L R : Nat} (hS : SOk r) {n : Nat} (hn : n ≤ 100) : PD mX5_takes [.ref 0, .int (nI n)] (mW r m im wa fr hi lt rw rf (nI L) (nI R) pl nu sd) none (mW r (hrs r n) im wa (nF (farOf r)) hi lt rw rf (nI L) (nI R) pl nu sd) := by
  refine PM.ofp 0 (by decide) (Nat.le_of_ble_eq_true rfl) ?_
  show Ok mX5_takes none 0 [some (.ref 0), some (.int (nI n))] [] (mW r m im wa fr hi lt rw rf (nI L) (nI R) pl nu sd) 0 0 _
  refine o_aload_n dX5_takes_0 rfl rfl ?_
  refine o_getf (j := 0) dX5_takes_1 rfl hcX5 inX5 (Nat.le_of_ble_eq_true rfl) wd686 rfl rfl ?_
  refine o_aload_n dX5_takes_4 rfl rfl ?_
  refine o_getf (j := 1) dX5_takes_5 rfl hcX5 inX5 (Nat.le_of_ble_eq_true rfl) wd687 rfl rfl ?_
  refine o_callSd (is := [1, 2]) (tX5_copies) ⟨rfl, rfl⟩ dX5_takes_8 wd763 csX5_copies rfl ⟨(Nat.le_of_ble_eq_true rfl), (Nat.le_of_ble_eq_true rfl)⟩ rfl rfl rfl (Nat.le_of_ble_eq_true rfl) (Nat.le_of_ble_eq_true rfl) (Nat.le_of_ble_eq_true rfl) rfl ?_
  refine o_aload_n dX5_takes_11 rfl rfl ?_
  refine o_aload_n dX5_takes_12 rfl rfl ?_
  refine o_getf (j := 1) dX5_takes_13 rfl hcX5 inX5 (Nat.le_of_ble_eq_true rfl) wd687 rfl rfl ?_
  refine o_iload_n dX5_takes_16 rfl rfl ?_
  refine o_callVd (is := [0, 1, 2, 3, 4, 5, 6, 7, 8, 9]) (tX5_hoursOn_m (r := r) hS.1 (by have := hS.2.2.1; omega)) ⟨rfl, rfl⟩ dX5_takes_17 wd797 cvX5_hoursOn rfl ⟨(Nat.le_of_ble_eq_true rfl), (Nat.le_of_ble_eq_true rfl)⟩ hcX5 rfl rfl rfl rfl (Nat.le_of_ble_eq_true rfl) (Nat.le_of_ble_eq_true rfl) (Nat.le_of_ble_eq_true rfl) rfl ?_
  refine o_vret dX5_takes_20 rfl (Nat.le_of_ble_eq_true rfl) (Nat.le_of_ble_eq_true rfl) ?_
  exact ⟨rfl, rfl⟩
theorem tX5_hours {r m im wa fr lt rw rf nu : Nat → Int32} {hi pl sd : Int32} {L R : Nat} (hS : SOk r) {x : Int32} : PM mX5_hours [.ref 0, .int x] (mW r m im wa fr hi lt rw rf (nI L) (nI R) pl nu sd) (MP (s_hours x (r, im, hi, lt, L, rw, R, rf))) := by
  refine PM.ofp 0 (by decide) (Nat.le_of_ble_eq_true rfl) ?_
  show Ok mX5_hours none 0 [some (.ref 0), some (.int x)] [] (mW r m im wa fr hi lt rw rf (nI L) (nI R) pl nu sd) 0 0 _
  refine o_iload_n dX5_hours_0 rfl rfl ?_
  refine o_iconst dX5_hours_1 ic_1 ?_
  refine o_icmp_ge (tgt := 12) dX5_hours_2 (by decide) (fun c_2 => ?_) (fun c_2 => ?_)
  · have q1 : ¬ x < 1 := Int32.not_lt.mpr c_2
    refine o_iload_n dX5_hours_12 rfl rfl ?_
    refine o_bipush dX5_hours_13 bp_60 ?_
    refine o_icmp_gt (tgt := 32) dX5_hours_15 (by decide) (fun c_15 => ?_) (fun c_15 => ?_)
    · skip
      refine o_aload_n dX5_hours_32 rfl rfl ?_
      refine o_bipush dX5_hours_33 bp_m6 ?_
      refine o_callVd (is := [0, 1, 2, 3, 4, 5, 6, 7, 8, 9]) (tX5_no (c := 6) rfl (by decide)) ⟨rfl, rfl⟩ dX5_hours_35 wd733 cvX5_no rfl ⟨(Nat.le_of_ble_eq_true rfl), (Nat.le_of_ble_eq_true rfl)⟩ hcX5 rfl rfl rfl rfl (Nat.le_of_ble_eq_true rfl) (Nat.le_of_ble_eq_true rfl) (Nat.le_of_ble_eq_true rfl) rfl ?_
      refine o_iret dX5_hours_38 rfl (vp_nar_int _) (Nat.le_of_ble_eq_true rfl) (Nat.le_of_ble_eq_true rfl) ?_
      exact MP.mk (σ := (r, im, hi, lt, L, rw, R, rfu rf 6)) (by simp only [s_hours, if_neg q1, c_15, true_or, if_true]; rfl)
    · skip
      refine o_aload_n dX5_hours_18 rfl rfl ?_
      refine o_getf (j := 0) dX5_hours_19 rfl hcX5 inX5 (Nat.le_of_ble_eq_true rfl) wd686 rfl rfl ?_
      refine o_iconst dX5_hours_22 ic_2 ?_
      refine o_ialp (i := 2) dX5_hours_23 rfl (rfl) (by decide) ?_
      refine o_iload_n dX5_hours_24 rfl rfl ?_
      refine o_iadd dX5_hours_25 ?_
      refine o_sipush dX5_hours_26 sp_999 ?_
      refine o_icmp_le (tgt := 39) dX5_hours_29 (by decide) (fun c_29 => ?_) (fun c_29 => ?_)
      · have q3 : ¬ 999 < r 2 + x := Int32.not_lt.mpr c_29
        obtain ⟨q, hq1, hq, rfl⟩ := rng1 (b := 60) (by omega) q1 c_15
        have eq := cN_nI (d := q) (by omega)
        refine o_aload_n dX5_hours_39 rfl rfl ?_
        refine o_aload_n dX5_hours_40 rfl rfl ?_
        refine o_getf (j := 0) dX5_hours_41 rfl hcX5 inX5 (Nat.le_of_ble_eq_true rfl) wd686 rfl rfl ?_
        refine o_iload_n dX5_hours_44 rfl rfl ?_
        refine o_callVd (is := [0, 1, 2, 3, 4, 5, 6, 7, 8, 9]) (tX5_hoursOn_s hS.1 (by have := hS.2.2.1; omega)) ⟨rfl, rfl⟩ dX5_hours_45 wd797 cvX5_hoursOn rfl ⟨(Nat.le_of_ble_eq_true rfl), (Nat.le_of_ble_eq_true rfl)⟩ hcX5 rfl rfl rfl rfl (Nat.le_of_ble_eq_true rfl) (Nat.le_of_ble_eq_true rfl) (Nat.le_of_ble_eq_true rfl) rfl ?_
        refine o_aload_n dX5_hours_48 rfl rfl ?_
        refine o_getf (j := 0) dX5_hours_49 rfl hcX5 inX5 (Nat.le_of_ble_eq_true rfl) wd686 rfl rfl ?_
        refine o_callSr (is := [1]) (tX5_homeIn (by have := hS.n6; omega) (hrs_n hS q)) ⟨rfl, rfl⟩ dX5_hours_52 wd883 csX5_homeIn rfl ⟨(Nat.le_of_ble_eq_true rfl), (Nat.le_of_ble_eq_true rfl)⟩ rfl rfl rfl (Nat.le_of_ble_eq_true rfl) (Nat.le_of_ble_eq_true rfl) (Nat.le_of_ble_eq_true rfl) ?_
        refine o_callSr (is := []) (tX5_bits) ⟨rfl, rfl⟩ dX5_hours_55 wd886 csX5_bits rfl ⟨(Nat.le_of_ble_eq_true rfl), (Nat.le_of_ble_eq_true rfl)⟩ rfl rfl rfl (Nat.le_of_ble_eq_true rfl) (Nat.le_of_ble_eq_true rfl) (Nat.le_of_ble_eq_true rfl) ?_
        refine o_iret dX5_hours_58 rfl (vp_nar_int _) (Nat.le_of_ble_eq_true rfl) (Nat.le_of_ble_eq_true rfl) ?_
        exact MP.mk (σ := (hrs r q, im, hi, lt, L, rw, R, rf)) (by simp only [s_hours, if_neg q1, c_15, q3, or_self, if_false, eq, stR] <;> rfl)
      · have q3 : 999 < r 2 + x := Int32.not_le.mp c_29
        refine o_aload_n dX5_hours_32 rfl rfl ?_
        refine o_bipush dX5_hours_33 bp_m6 ?_
        refine o_callVd (is := [0, 1, 2, 3, 4, 5, 6, 7, 8, 9]) (tX5_no (c := 6) rfl (by decide)) ⟨rfl, rfl⟩ dX5_hours_35 wd733 cvX5_no rfl ⟨(Nat.le_of_ble_eq_true rfl), (Nat.le_of_ble_eq_true rfl)⟩ hcX5 rfl rfl rfl rfl (Nat.le_of_ble_eq_true rfl) (Nat.le_of_ble_eq_true rfl) (Nat.le_of_ble_eq_true rfl) rfl ?_
        refine o_iret dX5_hours_38 rfl (vp_nar_int _) (Nat.le_of_ble_eq_true rfl) (Nat.le_of_ble_eq_true rfl) ?_
        exact MP.mk (σ := (r, im, hi, lt, L, rw, R, rfu rf 6)) (by simp only [s_hours, if_neg q1, q3, or_true, if_true]; rfl)
  · have q1 : x < 1 := Int32.not_le.mp c_2
    refine o_aload_n dX5_hours_5 rfl rfl ?_
    refine o_bipush dX5_hours_6 bp_m4 ?_
    refine o_callVd (is := [0, 1, 2, 3, 4, 5, 6, 7, 8, 9]) (tX5_no (c := 4) rfl (by decide)) ⟨rfl, rfl⟩ dX5_hours_8 wd733 cvX5_no rfl ⟨(Nat.le_of_ble_eq_true rfl), (Nat.le_of_ble_eq_true rfl)⟩ hcX5 rfl rfl rfl rfl (Nat.le_of_ble_eq_true rfl) (Nat.le_of_ble_eq_true rfl) (Nat.le_of_ble_eq_true rfl) rfl ?_
    refine o_iret dX5_hours_11 rfl (vp_nar_int _) (Nat.le_of_ble_eq_true rfl) (Nat.le_of_ble_eq_true rfl) ?_
    exact MP.mk (σ := (r, im, hi, lt, L, rw, R, rfu rf 4)) (by simp only [s_hours, if_pos q1]; rfl)
theorem tX5_letThen {r m im wa fr lt rw rf nu : Nat → Int32} {hi pl sd : Int32} {L R : Nat} (hS : SOk r) {x : Int32} : PM mX5_letThen [.ref 0, .int x] (mW r m im wa fr hi lt rw rf (nI L) (nI R) pl nu sd) (MP (s_letThen x (r, im, hi, lt, L, rw, R, rf))) := by
  refine PM.ofp 1 (by decide) (Nat.le_of_ble_eq_true rfl) ?_
  show Ok mX5_letThen none 0 [some (.ref 0), some (.int x), none] [] (mW r m im wa fr hi lt rw rf (nI L) (nI R) pl nu sd) 0 0 _
  refine o_iload_n dX5_letThen_0 rfl rfl ?_
  refine o_iconst dX5_letThen_1 ic_0 ?_
  refine o_bipush dX5_letThen_2 bp_60 ?_
  refine o_callSr (is := []) (tX5_wrongBy) ⟨rfl, rfl⟩ dX5_letThen_4 wd872 csX5_wrongBy rfl ⟨(Nat.le_of_ble_eq_true rfl), (Nat.le_of_ble_eq_true rfl)⟩ rfl rfl rfl (Nat.le_of_ble_eq_true rfl) (Nat.le_of_ble_eq_true rfl) (Nat.le_of_ble_eq_true rfl) ?_
  refine o_wr3 (fun hw => ?_) (fun hw1 hw2 => ?_) (fun hw1 hw2 => ?_)
  · skip
    refine o_istn_2 dX5_letThen_7 rfl rfl (Nat.le_of_ble_eq_true rfl) ?_
    refine o_iload_n dX5_letThen_8 rfl rfl ?_
    refine o_if_eq (tgt := 18) dX5_letThen_9 (by decide) (fun cq => absurd cq (by decide)) (fun _ => ?_)
    refine o_aload_n dX5_letThen_12 rfl rfl ?_
    refine o_iload_n dX5_letThen_13 rfl rfl ?_
    refine o_callVd (is := [0, 1, 2, 3, 4, 5, 6, 7, 8, 9]) (tX5_no (c := 4) rfl (by decide)) ⟨rfl, rfl⟩ dX5_letThen_14 wd733 cvX5_no rfl ⟨(Nat.le_of_ble_eq_true rfl), (Nat.le_of_ble_eq_true rfl)⟩ hcX5 rfl rfl rfl rfl (Nat.le_of_ble_eq_true rfl) (Nat.le_of_ble_eq_true rfl) (Nat.le_of_ble_eq_true rfl) rfl ?_
    refine o_iret dX5_letThen_17 rfl (vp_nar_int _) (Nat.le_of_ble_eq_true rfl) (Nat.le_of_ble_eq_true rfl) ?_
    exact MP.mk (σ := (r, im, hi, lt, L, rw, R, rfu rf 4)) (by simp only [s_letThen, wrB, if_pos hw]; rfl)
  · skip
    refine o_istn_2 dX5_letThen_7 rfl rfl (Nat.le_of_ble_eq_true rfl) ?_
    refine o_iload_n dX5_letThen_8 rfl rfl ?_
    refine o_if_eq (tgt := 18) dX5_letThen_9 (by decide) (fun cq => absurd cq (by decide)) (fun _ => ?_)
    refine o_aload_n dX5_letThen_12 rfl rfl ?_
    refine o_iload_n dX5_letThen_13 rfl rfl ?_
    refine o_callVd (is := [0, 1, 2, 3, 4, 5, 6, 7, 8, 9]) (tX5_no (c := 6) rfl (by decide)) ⟨rfl, rfl⟩ dX5_letThen_14 wd733 cvX5_no rfl ⟨(Nat.le_of_ble_eq_true rfl), (Nat.le_of_ble_eq_true rfl)⟩ hcX5 rfl rfl rfl rfl (Nat.le_of_ble_eq_true rfl) (Nat.le_of_ble_eq_true rfl) (Nat.le_of_ble_eq_true rfl) rfl ?_
    refine o_iret dX5_letThen_17 rfl (vp_nar_int _) (Nat.le_of_ble_eq_true rfl) (Nat.le_of_ble_eq_true rfl) ?_
    exact MP.mk (σ := (r, im, hi, lt, L, rw, R, rfu rf 6)) (by simp only [s_letThen, wrB, if_neg hw1, show nI 60 < x from hw2, if_true]; rfl)
  · obtain ⟨q, hq, rfl⟩ := rng (b := 60) (by omega) hw1 hw2
    have eq := cN_nI (d := q) (by omega)
    refine o_istn_2 dX5_letThen_7 rfl rfl (Nat.le_of_ble_eq_true rfl) ?_
    refine o_iload_n dX5_letThen_8 rfl rfl ?_
    refine o_if_eq (tgt := 18) dX5_letThen_9 (by decide) (fun _ => ?_) (fun cq => absurd (by decide) cq)
    refine o_aload_n dX5_letThen_18 rfl rfl ?_
    refine o_iload_n dX5_letThen_19 rfl rfl ?_
    refine o_callVd (is := [0, 1, 2, 3, 4, 5, 6, 7, 8, 9]) (tX5_takes hS (by omega)) ⟨rfl, rfl⟩ dX5_letThen_20 wd893 cvX5_takes rfl ⟨(Nat.le_of_ble_eq_true rfl), (Nat.le_of_ble_eq_true rfl)⟩ hcX5 rfl rfl rfl rfl (Nat.le_of_ble_eq_true rfl) (Nat.le_of_ble_eq_true rfl) (Nat.le_of_ble_eq_true rfl) rfl ?_
    refine o_aload_n dX5_letThen_23 rfl rfl ?_
    refine o_getf (j := 1) dX5_letThen_24 rfl hcX5 inX5 (Nat.le_of_ble_eq_true rfl) wd687 rfl rfl ?_
    refine o_iconst dX5_letThen_27 ic_3 ?_
    refine o_ialp (i := 3) dX5_letThen_28 rfl (rfl) (by decide) ?_
    refine o_iret dX5_letThen_29 rfl (vp_nar_int _) (Nat.le_of_ble_eq_true rfl) (Nat.le_of_ble_eq_true rfl) ?_
    exact MP.mk (σ := (r, im, hi, lt, L, rw, R, rf)) (by simp only [s_letThen, wrB, if_neg hw1, show ¬ nI 60 < nI q from hw2, if_false, eq] <;> rfl)
theorem tX5_personThen {r m im wa fr lt rw rf nu : Nat → Int32} {hi pl sd : Int32} {L R : Nat} (hS : SOk r) {x n w : Int32} : PM mX5_personThen [.ref 0, .int x, .int n, .int w] (mW r m im wa fr hi lt rw rf (nI L) (nI R) pl nu sd) (MP (s_personThen x n w (r, im, hi, lt, L, rw, R, rf))) := by
  refine PM.ofp 1 (by decide) (Nat.le_of_ble_eq_true rfl) ?_
  show Ok mX5_personThen none 0 [some (.ref 0), some (.int x), some (.int n), some (.int w), none] [] (mW r m im wa fr hi lt rw rf (nI L) (nI R) pl nu sd) 0 0 _
  refine o_aload_n dX5_personThen_0 rfl rfl ?_
  refine o_iload_n dX5_personThen_1 rfl rfl ?_
  refine o_callVr (is := [0, 1, 2, 3, 4, 5, 6, 7, 8, 9]) (tX5_isPerson hS) ⟨rfl, rfl⟩ dX5_personThen_2 wd786 cvX5_isPerson rfl ⟨(Nat.le_of_ble_eq_true rfl), (Nat.le_of_ble_eq_true rfl)⟩ hcX5 rfl rfl rfl rfl (Nat.le_of_ble_eq_true rfl) (Nat.le_of_ble_eq_true rfl) (Nat.le_of_ble_eq_true rfl) ?_
  refine o_if_eq (tgt := 18) dX5_personThen_5 (by decide) (fun c_5 => ?_) (fun c_5 => ?_)
  · have hno := bI_0.mp c_5
    refine o_iconst dX5_personThen_18 ic_m1 ?_
    refine o_istg_4 dX5_personThen_19 rfl (Nat.le_of_ble_eq_true rfl) ?_
    refine o_iload dX5_personThen_21 rfl ?_
    refine o_if_ne (tgt := 39) dX5_personThen_23 (by decide) (fun _ => ?_) (fun cq => absurd cq (by decide))
    refine o_iload dX5_personThen_39 rfl ?_
    refine o_if_eq (tgt := 51) dX5_personThen_41 (by decide) (fun cq => absurd cq (by decide)) (fun _ => ?_)
    refine o_aload_n dX5_personThen_44 rfl rfl ?_
    refine o_iload dX5_personThen_45 rfl ?_
    refine o_callVd (is := [0, 1, 2, 3, 4, 5, 6, 7, 8, 9]) (tX5_no (c := 1) rfl (by decide)) ⟨rfl, rfl⟩ dX5_personThen_47 wd733 cvX5_no rfl ⟨(Nat.le_of_ble_eq_true rfl), (Nat.le_of_ble_eq_true rfl)⟩ hcX5 rfl rfl rfl rfl (Nat.le_of_ble_eq_true rfl) (Nat.le_of_ble_eq_true rfl) (Nat.le_of_ble_eq_true rfl) rfl ?_
    refine o_iret dX5_personThen_50 rfl (vp_nar_int _) (Nat.le_of_ble_eq_true rfl) (Nat.le_of_ble_eq_true rfl) ?_
    exact MP.mk (σ := (r, im, hi, lt, L, rw, R, rfu rf 1)) (by simp only [s_personThen, hno]; rfl)
  · obtain ⟨d, hd, rfl⟩ := inR_yes (by have := hS.n6; omega) (bI_ne c_5)
    have h9 := hS.n6
    have hin := inR_nI (D := nN r) (by omega) hd
    have ec := cN_nI (d := d) (by omega)
    refine o_iload_n dX5_personThen_8 rfl rfl ?_
    refine o_iconst dX5_personThen_9 ic_0 ?_
    refine o_bipush dX5_personThen_10 bp_60 ?_
    refine o_callSr (is := []) (tX5_wrongBy) ⟨rfl, rfl⟩ dX5_personThen_12 wd872 csX5_wrongBy rfl ⟨(Nat.le_of_ble_eq_true rfl), (Nat.le_of_ble_eq_true rfl)⟩ rfl rfl rfl (Nat.le_of_ble_eq_true rfl) (Nat.le_of_ble_eq_true rfl) (Nat.le_of_ble_eq_true rfl) ?_
    refine o_wr3 (fun hw => ?_) (fun hw1 hw2 => ?_) (fun hw1 hw2 => ?_)
    · skip
      refine o_goto (tgt := 19) dX5_personThen_15 (by decide) ?_
      refine o_istg_4 dX5_personThen_19 rfl (Nat.le_of_ble_eq_true rfl) ?_
      refine o_iload dX5_personThen_21 rfl ?_
      refine o_if_ne (tgt := 39) dX5_personThen_23 (by decide) (fun _ => ?_) (fun cq => absurd cq (by decide))
      refine o_iload dX5_personThen_39 rfl ?_
      refine o_if_eq (tgt := 51) dX5_personThen_41 (by decide) (fun cq => absurd cq (by decide)) (fun _ => ?_)
      refine o_aload_n dX5_personThen_44 rfl rfl ?_
      refine o_iload dX5_personThen_45 rfl ?_
      refine o_callVd (is := [0, 1, 2, 3, 4, 5, 6, 7, 8, 9]) (tX5_no (c := 4) rfl (by decide)) ⟨rfl, rfl⟩ dX5_personThen_47 wd733 cvX5_no rfl ⟨(Nat.le_of_ble_eq_true rfl), (Nat.le_of_ble_eq_true rfl)⟩ hcX5 rfl rfl rfl rfl (Nat.le_of_ble_eq_true rfl) (Nat.le_of_ble_eq_true rfl) (Nat.le_of_ble_eq_true rfl) rfl ?_
      refine o_iret dX5_personThen_50 rfl (vp_nar_int _) (Nat.le_of_ble_eq_true rfl) (Nat.le_of_ble_eq_true rfl) ?_
      exact MP.mk (σ := (r, im, hi, lt, L, rw, R, rfu rf 4)) (by simp only [s_personThen, hin, if_true, wrB, if_pos hw]; rfl)
    · skip
      refine o_goto (tgt := 19) dX5_personThen_15 (by decide) ?_
      refine o_istg_4 dX5_personThen_19 rfl (Nat.le_of_ble_eq_true rfl) ?_
      refine o_iload dX5_personThen_21 rfl ?_
      refine o_if_ne (tgt := 39) dX5_personThen_23 (by decide) (fun _ => ?_) (fun cq => absurd cq (by decide))
      refine o_iload dX5_personThen_39 rfl ?_
      refine o_if_eq (tgt := 51) dX5_personThen_41 (by decide) (fun cq => absurd cq (by decide)) (fun _ => ?_)
      refine o_aload_n dX5_personThen_44 rfl rfl ?_
      refine o_iload dX5_personThen_45 rfl ?_
      refine o_callVd (is := [0, 1, 2, 3, 4, 5, 6, 7, 8, 9]) (tX5_no (c := 6) rfl (by decide)) ⟨rfl, rfl⟩ dX5_personThen_47 wd733 cvX5_no rfl ⟨(Nat.le_of_ble_eq_true rfl), (Nat.le_of_ble_eq_true rfl)⟩ hcX5 rfl rfl rfl rfl (Nat.le_of_ble_eq_true rfl) (Nat.le_of_ble_eq_true rfl) (Nat.le_of_ble_eq_true rfl) rfl ?_
      refine o_iret dX5_personThen_50 rfl (vp_nar_int _) (Nat.le_of_ble_eq_true rfl) (Nat.le_of_ble_eq_true rfl) ?_
      exact MP.mk (σ := (r, im, hi, lt, L, rw, R, rfu rf 6)) (by simp only [s_personThen, hin, if_true, wrB, if_neg hw1, show nI 60 < n from hw2, if_true]; rfl)
    · obtain ⟨q, hq, rfl⟩ := rng (b := 60) (by omega) hw1 hw2
      have eq := cN_nI (d := q) (by omega)
      refine o_goto (tgt := 19) dX5_personThen_15 (by decide) ?_
      refine o_istg_4 dX5_personThen_19 rfl (Nat.le_of_ble_eq_true rfl) ?_
      refine o_iload dX5_personThen_21 rfl ?_
      refine o_if_ne (tgt := 39) dX5_personThen_23 (by decide) (fun cq => absurd (by decide) cq) (fun _ => ?_)
      refine o_iload_n dX5_personThen_26 rfl rfl ?_
      refine o_iconst dX5_personThen_27 ic_0 ?_
      refine o_iconst dX5_personThen_28 ic_1 ?_
      refine o_callSr (is := []) (tX5_isIn) ⟨rfl, rfl⟩ dX5_personThen_29 wd760 csX5_isIn rfl ⟨(Nat.le_of_ble_eq_true rfl), (Nat.le_of_ble_eq_true rfl)⟩ rfl rfl rfl (Nat.le_of_ble_eq_true rfl) (Nat.le_of_ble_eq_true rfl) (Nat.le_of_ble_eq_true rfl) ?_
      refine o_if_ne (tgt := 39) dX5_personThen_32 (by decide) (fun c_32 => ?_) (fun c_32 => ?_)
      · have hww : inR 2 w = true := by rw [← isInB_eq 1 (by omega)]; exact bI_ne c_32
        refine o_iload dX5_personThen_39 rfl ?_
        refine o_if_eq (tgt := 51) dX5_personThen_41 (by decide) (fun _ => ?_) (fun cq => absurd (by decide) cq)
        refine o_aload_n dX5_personThen_51 rfl rfl ?_
        refine o_iload_n dX5_personThen_52 rfl rfl ?_
        refine o_callVd (is := [0, 1, 2, 3, 4, 5, 6, 7, 8, 9]) (tX5_takes hS (by omega)) ⟨rfl, rfl⟩ dX5_personThen_53 wd893 cvX5_takes rfl ⟨(Nat.le_of_ble_eq_true rfl), (Nat.le_of_ble_eq_true rfl)⟩ hcX5 rfl rfl rfl rfl (Nat.le_of_ble_eq_true rfl) (Nat.le_of_ble_eq_true rfl) (Nat.le_of_ble_eq_true rfl) rfl ?_
        refine o_aload_n dX5_personThen_56 rfl rfl ?_
        refine o_getf (j := 1) dX5_personThen_57 rfl hcX5 inX5 (Nat.le_of_ble_eq_true rfl) wd687 rfl rfl ?_
        refine o_iload_n dX5_personThen_60 rfl rfl ?_
        refine o_iload_n dX5_personThen_61 rfl rfl ?_
        refine o_if_ne (tgt := 69) dX5_personThen_62 (by decide) (fun c_62 => ?_) (fun c_62 => ?_)
        · skip
          refine o_iconst dX5_personThen_69 ic_2 ?_
          refine o_callSr (is := []) (ofP2) ⟨rfl, rfl⟩ dX5_personThen_70 wd783 csX5_ofP rfl ⟨(Nat.le_of_ble_eq_true rfl), (Nat.le_of_ble_eq_true rfl)⟩ rfl rfl rfl (Nat.le_of_ble_eq_true rfl) (Nat.le_of_ble_eq_true rfl) (Nat.le_of_ble_eq_true rfl) ?_
          refine o_ialp (i := 52 + 3 * d) dX5_personThen_73 rfl (rfl) (by omega) ?_
          refine o_iret dX5_personThen_74 rfl (vp_nar_int _) (Nat.le_of_ble_eq_true rfl) (Nat.le_of_ble_eq_true rfl) ?_
          exact MP.mk (σ := (r, im, hi, lt, L, rw, R, rf)) (by simp only [s_personThen, hin, if_true, wrB, if_neg hw1, show ¬ nI 60 < nI q from hw2, if_false, hww, eq, ec, if_neg c_62])
        · skip
          refine o_iconst dX5_personThen_65 ic_0 ?_
          refine o_goto (tgt := 70) dX5_personThen_66 (by decide) ?_
          refine o_callSr (is := []) (ofP0) ⟨rfl, rfl⟩ dX5_personThen_70 wd783 csX5_ofP rfl ⟨(Nat.le_of_ble_eq_true rfl), (Nat.le_of_ble_eq_true rfl)⟩ rfl rfl rfl (Nat.le_of_ble_eq_true rfl) (Nat.le_of_ble_eq_true rfl) (Nat.le_of_ble_eq_true rfl) ?_
          refine o_ialp (i := 50 + 3 * d) dX5_personThen_73 rfl (rfl) (by omega) ?_
          refine o_iret dX5_personThen_74 rfl (vp_nar_int _) (Nat.le_of_ble_eq_true rfl) (Nat.le_of_ble_eq_true rfl) ?_
          exact MP.mk (σ := (r, im, hi, lt, L, rw, R, rf)) (by simp only [s_personThen, hin, if_true, wrB, if_neg hw1, show ¬ nI 60 < nI q from hw2, if_false, hww, eq, ec, if_pos c_62])
      · have hww : inR 2 w = false := by rw [← isInB_eq 1 (by omega)]; exact bI_0.mp c_32
        refine o_bipush dX5_personThen_35 bp_m2 ?_
        refine o_istg_4 dX5_personThen_37 rfl (Nat.le_of_ble_eq_true rfl) ?_
        refine o_iload dX5_personThen_39 rfl ?_
        refine o_if_eq (tgt := 51) dX5_personThen_41 (by decide) (fun cq => absurd cq (by decide)) (fun _ => ?_)
        refine o_aload_n dX5_personThen_44 rfl rfl ?_
        refine o_iload dX5_personThen_45 rfl ?_
        refine o_callVd (is := [0, 1, 2, 3, 4, 5, 6, 7, 8, 9]) (tX5_no (c := 2) rfl (by decide)) ⟨rfl, rfl⟩ dX5_personThen_47 wd733 cvX5_no rfl ⟨(Nat.le_of_ble_eq_true rfl), (Nat.le_of_ble_eq_true rfl)⟩ hcX5 rfl rfl rfl rfl (Nat.le_of_ble_eq_true rfl) (Nat.le_of_ble_eq_true rfl) (Nat.le_of_ble_eq_true rfl) rfl ?_
        refine o_iret dX5_personThen_50 rfl (vp_nar_int _) (Nat.le_of_ble_eq_true rfl) (Nat.le_of_ble_eq_true rfl) ?_
        exact MP.mk (σ := (r, im, hi, lt, L, rw, R, rfu rf 2)) (by simp only [s_personThen, hin, if_true, wrB, if_neg hw1, show ¬ nI 60 < nI q from hw2, if_false, hww]; rfl)
theorem lX5_comesTo {r im wa lt rw rf nu : Nat → Int32} {hi pl sd : Int32} {L R : Nat} (hS : SOk r) {x : Int32} {d : Nat} (hd : d < nN r) : ∀ (q k : Nat), k + q = 61 → dfS (fun n => decide (hrs r n (50 + 3 * d) = x)) q k = cmF r d x → Ok mX5_comesTo none 7 [some (.ref 0), some (.int (nI d)), some (.int x), some (.int (nI k))] [] (mW r (hrs r k) im wa (nF (farOf r)) hi lt rw rf (nI L) (nI R) pl nu sd) 0 0 (fun a w => a = some (.int (cmF r d x)) ∧ ∃ m2 fr2, w = mW r m2 im wa fr2 hi lt rw rf (nI L) (nI R) pl nu sd) := by
  have h6 := hS.n6
  intro q
  induction q with
  | zero =>
    intro k hk hR
    have hk : k = 61 := by omega
    subst hk
    refine o_iload_n dX5_comesTo_7 rfl rfl ?_
    refine o_bipush dX5_comesTo_8 bp_60 ?_
    refine o_icmp_gt (tgt := 43) dX5_comesTo_10 (by decide) (fun _ => ?_) (fun c => absurd (by decide) c)
    refine o_bipush dX5_comesTo_43 bp_m9 ?_
    refine o_iret dX5_comesTo_45 rfl (vp_nar_int _) (Nat.le_of_ble_eq_true rfl) (Nat.le_of_ble_eq_true rfl) ?_
    exact ⟨by rw [← hR]; rfl, _, _, rfl⟩
  | succ q ih =>
  intro k hk hR
  refine o_iload_n dX5_comesTo_7 rfl rfl ?_
  refine o_bipush dX5_comesTo_8 bp_60 ?_
  refine o_icmp_gt (tgt := 43) dX5_comesTo_10 (by decide) (fun c_10 => ?_) (fun c_10 => ?_)
  · exact absurd ((nI_ltI (a := 60) (by omega) (by omega)).mp c_10) (by omega)
  · skip
    refine o_aload_n dX5_comesTo_13 rfl rfl ?_
    refine o_getf (j := 1) dX5_comesTo_14 rfl hcX5 inX5 (Nat.le_of_ble_eq_true rfl) wd687 rfl rfl ?_
    refine o_iload_n dX5_comesTo_17 rfl rfl ?_
    refine o_iconst dX5_comesTo_18 ic_0 ?_
    refine o_callSr (is := []) (ofP0) ⟨rfl, rfl⟩ dX5_comesTo_19 wd783 csX5_ofP rfl ⟨(Nat.le_of_ble_eq_true rfl), (Nat.le_of_ble_eq_true rfl)⟩ rfl rfl rfl (Nat.le_of_ble_eq_true rfl) (Nat.le_of_ble_eq_true rfl) (Nat.le_of_ble_eq_true rfl) ?_
    refine o_ialp (i := 50 + 3 * d) dX5_comesTo_22 rfl (rfl) (by omega) ?_
    refine o_iload_n dX5_comesTo_23 rfl rfl ?_
    refine o_icmp_ne (tgt := 29) dX5_comesTo_24 (by decide) (fun c_24 => ?_) (fun c_24 => ?_)
    · skip
      refine o_aload_n dX5_comesTo_29 rfl rfl ?_
      refine o_aload_n dX5_comesTo_30 rfl rfl ?_
      refine o_getf (j := 1) dX5_comesTo_31 rfl hcX5 inX5 (Nat.le_of_ble_eq_true rfl) wd687 rfl rfl ?_
      refine o_callVd (is := [0, 1, 2, 3, 4, 5, 6, 7, 8, 9]) (tX5_hour_m frT_le (hS.1.hours k) (by have := hS.2.2.1; omega)) ⟨rfl, rfl⟩ dX5_comesTo_34 wd808 cvX5_hour rfl ⟨(Nat.le_of_ble_eq_true rfl), (Nat.le_of_ble_eq_true rfl)⟩ hcX5 rfl rfl rfl rfl (Nat.le_of_ble_eq_true rfl) (Nat.le_of_ble_eq_true rfl) (Nat.le_of_ble_eq_true rfl) rfl ?_
      refine o_inc_3 dX5_comesTo_37 rfl ic_1 (Nat.le_of_ble_eq_true rfl) ?_
      refine o_goto (tgt := 7) dX5_comesTo_40 (by decide) ?_
      exact o_eqa (by rw [nI_1]) rfl (ih (k + 1) (by omega) (by rw [← hR, dfS, decide_eq_false c_24]; rfl))
    · skip
      refine o_iload_n dX5_comesTo_27 rfl rfl ?_
      refine o_iret dX5_comesTo_28 rfl (vp_nar_int _) (Nat.le_of_ble_eq_true rfl) (Nat.le_of_ble_eq_true rfl) ?_
      exact ⟨by rw [← hR, dfS, if_pos (decide_eq_true c_24)], _, _, rfl⟩
theorem tX5_comesTo {r m im wa fr lt rw rf nu : Nat → Int32} {hi pl sd : Int32} {L R : Nat} (hS : SOk r) {x : Int32} {d : Nat} (hd : d < nN r) : PM mX5_comesTo [.ref 0, .int (nI d), .int x] (mW r m im wa fr hi lt rw rf (nI L) (nI R) pl nu sd) (fun a w => a = some (.int (cmF r d x)) ∧ ∃ m2 fr2, w = mW r m2 im wa fr2 hi lt rw rf (nI L) (nI R) pl nu sd) := by
  refine PM.ofp 1 (by decide) (Nat.le_of_ble_eq_true rfl) ?_
  show Ok mX5_comesTo none 0 [some (.ref 0), some (.int (nI d)), some (.int x), none] [] (mW r m im wa fr hi lt rw rf (nI L) (nI R) pl nu sd) 0 0 _
  refine o_aload_n dX5_comesTo_0 rfl rfl ?_
  refine o_iconst dX5_comesTo_1 ic_0 ?_
  refine o_callVd (is := [0, 1, 2, 3, 4, 5, 6, 7, 8, 9]) (tX5_takes (n := 0) hS (by omega)) ⟨rfl, rfl⟩ dX5_comesTo_2 wd893 cvX5_takes rfl ⟨(Nat.le_of_ble_eq_true rfl), (Nat.le_of_ble_eq_true rfl)⟩ hcX5 rfl rfl rfl rfl (Nat.le_of_ble_eq_true rfl) (Nat.le_of_ble_eq_true rfl) (Nat.le_of_ble_eq_true rfl) rfl ?_
  refine o_iconst dX5_comesTo_5 ic_0 ?_
  refine o_istn_3 dX5_comesTo_6 rfl rfl (Nat.le_of_ble_eq_true rfl) ?_
  exact o_eqa (by rw [nI_0]) rfl (lX5_comesTo hS hd 61 0 (by omega) rfl)
theorem tX5_comes {r m im wa fr lt rw rf nu : Nat → Int32} {hi pl sd : Int32} {L R : Nat} (hS : SOk r) {x y : Int32} : PM mX5_comes [.ref 0, .int x, .int y] (mW r m im wa fr hi lt rw rf (nI L) (nI R) pl nu sd) (MP (s_comes x y (r, im, hi, lt, L, rw, R, rf))) := by
  refine PM.ofp 0 (by decide) (Nat.le_of_ble_eq_true rfl) ?_
  show Ok mX5_comes none 0 [some (.ref 0), some (.int x), some (.int y)] [] (mW r m im wa fr hi lt rw rf (nI L) (nI R) pl nu sd) 0 0 _
  refine o_aload_n dX5_comes_0 rfl rfl ?_
  refine o_iload_n dX5_comes_1 rfl rfl ?_
  refine o_iload_n dX5_comes_2 rfl rfl ?_
  refine o_callVr (is := [0, 1, 2, 3, 4, 5, 6, 7, 8, 9]) (tX5_areWrong hS) ⟨rfl, rfl⟩ dX5_comes_3 wd860 cvX5_areWrong rfl ⟨(Nat.le_of_ble_eq_true rfl), (Nat.le_of_ble_eq_true rfl)⟩ hcX5 rfl rfl rfl rfl (Nat.le_of_ble_eq_true rfl) (Nat.le_of_ble_eq_true rfl) (Nat.le_of_ble_eq_true rfl) ?_
  refine o_if_eq (tgt := 17) dX5_comes_6 (by decide) (fun c_6 => ?_) (fun c_6 => ?_)
  · have hyes := bI_n0 c_6
    have hy2 := hyes
    simp only [Bool.and_eq_true] at hy2
    obtain ⟨d, hd, rfl⟩ := inR_yes (by have := hS.n6; omega) hy2.1
    have h9 := hS.n6
    have ec := cN_nI (d := d) (by omega)
    refine o_aload_n dX5_comes_17 rfl rfl ?_
    refine o_iload_n dX5_comes_18 rfl rfl ?_
    refine o_iload_n dX5_comes_19 rfl rfl ?_
    refine o_callV (is := [0, 1, 2, 3, 4, 5, 6, 7, 8, 9]) (tX5_comesTo hS hd) ⟨rfl, rfl⟩ dX5_comes_20 wd905 cvX5_comesTo rfl ⟨(Nat.le_of_ble_eq_true rfl), (Nat.le_of_ble_eq_true rfl)⟩ hcX5 rfl rfl rfl rfl (Nat.le_of_ble_eq_true rfl) (Nat.le_of_ble_eq_true rfl) (Nat.le_of_ble_eq_true rfl) (fun ra wb hq hqn => ?_)
    obtain ⟨rfl, m2, fr2, rfl⟩ := hq
    refine o_iret dX5_comes_23 rfl (vp_nar_int _) (Nat.le_of_ble_eq_true rfl) (Nat.le_of_ble_eq_true rfl) ?_
    exact MP.mk (σ := (r, im, hi, lt, L, rw, R, rf)) (by simp only [s_comes, hyes, if_true, ec])
  · have hno := bI_nt c_6
    refine o_aload_n dX5_comes_9 rfl rfl ?_
    refine o_iconst dX5_comes_10 ic_m1 ?_
    refine o_callVd (is := [0, 1, 2, 3, 4, 5, 6, 7, 8, 9]) (tX5_no (c := 1) rfl (by decide)) ⟨rfl, rfl⟩ dX5_comes_11 wd733 cvX5_no rfl ⟨(Nat.le_of_ble_eq_true rfl), (Nat.le_of_ble_eq_true rfl)⟩ hcX5 rfl rfl rfl rfl (Nat.le_of_ble_eq_true rfl) (Nat.le_of_ble_eq_true rfl) (Nat.le_of_ble_eq_true rfl) rfl ?_
    refine o_goto (tgt := 23) dX5_comes_14 (by decide) ?_
    refine o_iret dX5_comes_23 rfl (vp_nar_int _) (Nat.le_of_ble_eq_true rfl) (Nat.le_of_ble_eq_true rfl) ?_
    exact MP.mk (σ := (r, im, hi, lt, L, rw, R, rfu rf 1)) (by simp only [s_comes, hno]; rfl)
theorem lX5_allHome {r im wa lt rw rf nu : Nat → Int32} {hi pl sd : Int32} {L R : Nat} (hS : SOk r) : ∀ (q k : Nat), k + q = 61 → dfS (fun n => decide (bitsM (homeM (hrs r n) (nN r)) 9 = nI (nN r))) q k = ahF r → Ok mX5_allHome none 7 [some (.ref 0), some (.int (nI k))] [] (mW r (hrs r k) im wa (nF (farOf r)) hi lt rw rf (nI L) (nI R) pl nu sd) 0 0 (fun a w => a = some (.int (ahF r)) ∧ ∃ m2 fr2, w = mW r m2 im wa fr2 hi lt rw rf (nI L) (nI R) pl nu sd) := by
  have h6 := hS.n6
  intro q
  induction q with
  | zero =>
    intro k hk hR
    have hk : k = 61 := by omega
    subst hk
    refine o_iload_n dX5_allHome_7 rfl rfl ?_
    refine o_bipush dX5_allHome_8 bp_60 ?_
    refine o_icmp_gt (tgt := 48) dX5_allHome_10 (by decide) (fun _ => ?_) (fun c => absurd (by decide) c)
    refine o_bipush dX5_allHome_48 bp_m9 ?_
    refine o_iret dX5_allHome_50 rfl (vp_nar_int _) (Nat.le_of_ble_eq_true rfl) (Nat.le_of_ble_eq_true rfl) ?_
    exact ⟨by rw [← hR]; rfl, _, _, rfl⟩
  | succ q ih =>
  intro k hk hR
  refine o_iload_n dX5_allHome_7 rfl rfl ?_
  refine o_bipush dX5_allHome_8 bp_60 ?_
  refine o_icmp_gt (tgt := 48) dX5_allHome_10 (by decide) (fun c_10 => ?_) (fun c_10 => ?_)
  · exact absurd ((nI_ltI (a := 60) (by omega) (by omega)).mp c_10) (by omega)
  · skip
    refine o_aload_n dX5_allHome_13 rfl rfl ?_
    refine o_getf (j := 1) dX5_allHome_14 rfl hcX5 inX5 (Nat.le_of_ble_eq_true rfl) wd687 rfl rfl ?_
    refine o_callSr (is := [2]) (tX5_homeIn (by omega) (hrs_n hS k)) ⟨rfl, rfl⟩ dX5_allHome_17 wd883 csX5_homeIn rfl ⟨(Nat.le_of_ble_eq_true rfl), (Nat.le_of_ble_eq_true rfl)⟩ rfl rfl rfl (Nat.le_of_ble_eq_true rfl) (Nat.le_of_ble_eq_true rfl) (Nat.le_of_ble_eq_true rfl) ?_
    refine o_callSr (is := []) (tX5_bits) ⟨rfl, rfl⟩ dX5_allHome_20 wd886 csX5_bits rfl ⟨(Nat.le_of_ble_eq_true rfl), (Nat.le_of_ble_eq_true rfl)⟩ rfl rfl rfl (Nat.le_of_ble_eq_true rfl) (Nat.le_of_ble_eq_true rfl) (Nat.le_of_ble_eq_true rfl) ?_
    refine o_aload_n dX5_allHome_23 rfl rfl ?_
    refine o_getf (j := 1) dX5_allHome_24 rfl hcX5 inX5 (Nat.le_of_ble_eq_true rfl) wd687 rfl rfl ?_
    refine o_iconst dX5_allHome_27 ic_1 ?_
    refine o_ialp (i := 1) dX5_allHome_28 rfl (rfl) (by decide) ?_
    refine o_icmp_ne (tgt := 34) dX5_allHome_29 (by decide) (fun c_29 => ?_) (fun c_29 => ?_)
    · rw [hrs_n hS k] at c_29
      refine o_aload_n dX5_allHome_34 rfl rfl ?_
      refine o_aload_n dX5_allHome_35 rfl rfl ?_
      refine o_getf (j := 1) dX5_allHome_36 rfl hcX5 inX5 (Nat.le_of_ble_eq_true rfl) wd687 rfl rfl ?_
      refine o_callVd (is := [0, 1, 2, 3, 4, 5, 6, 7, 8, 9]) (tX5_hour_m frT_le (hS.1.hours k) (by have := hS.2.2.1; omega)) ⟨rfl, rfl⟩ dX5_allHome_39 wd808 cvX5_hour rfl ⟨(Nat.le_of_ble_eq_true rfl), (Nat.le_of_ble_eq_true rfl)⟩ hcX5 rfl rfl rfl rfl (Nat.le_of_ble_eq_true rfl) (Nat.le_of_ble_eq_true rfl) (Nat.le_of_ble_eq_true rfl) rfl ?_
      refine o_inc_1 dX5_allHome_42 rfl ic_1 (Nat.le_of_ble_eq_true rfl) ?_
      refine o_goto (tgt := 7) dX5_allHome_45 (by decide) ?_
      exact o_eqa (by rw [nI_1]) rfl (ih (k + 1) (by omega) (by rw [← hR, dfS, decide_eq_false c_29]; rfl))
    · rw [hrs_n hS k] at c_29
      refine o_iload_n dX5_allHome_32 rfl rfl ?_
      refine o_iret dX5_allHome_33 rfl (vp_nar_int _) (Nat.le_of_ble_eq_true rfl) (Nat.le_of_ble_eq_true rfl) ?_
      exact ⟨by rw [← hR, dfS, if_pos (decide_eq_true c_29)], _, _, rfl⟩
theorem tX5_allHome {r m im wa fr lt rw rf nu : Nat → Int32} {hi pl sd : Int32} {L R : Nat} (hS : SOk r) : PM mX5_allHome [.ref 0] (mW r m im wa fr hi lt rw rf (nI L) (nI R) pl nu sd) (fun a w => a = some (.int (ahF r)) ∧ ∃ m2 fr2, w = mW r m2 im wa fr2 hi lt rw rf (nI L) (nI R) pl nu sd) := by
  refine PM.ofp 1 (by decide) (Nat.le_of_ble_eq_true rfl) ?_
  show Ok mX5_allHome none 0 [some (.ref 0), none] [] (mW r m im wa fr hi lt rw rf (nI L) (nI R) pl nu sd) 0 0 _
  refine o_aload_n dX5_allHome_0 rfl rfl ?_
  refine o_iconst dX5_allHome_1 ic_0 ?_
  refine o_callVd (is := [0, 1, 2, 3, 4, 5, 6, 7, 8, 9]) (tX5_takes (n := 0) hS (by omega)) ⟨rfl, rfl⟩ dX5_allHome_2 wd893 cvX5_takes rfl ⟨(Nat.le_of_ble_eq_true rfl), (Nat.le_of_ble_eq_true rfl)⟩ hcX5 rfl rfl rfl rfl (Nat.le_of_ble_eq_true rfl) (Nat.le_of_ble_eq_true rfl) (Nat.le_of_ble_eq_true rfl) rfl ?_
  refine o_iconst dX5_allHome_5 ic_0 ?_
  refine o_istn_1 dX5_allHome_6 rfl rfl (Nat.le_of_ble_eq_true rfl) ?_
  exact o_eqa (by rw [nI_0]) rfl (lX5_allHome hS 61 0 (by omega) rfl)
theorem tX5_home {r m im wa fr lt rw rf nu : Nat → Int32} {hi pl sd : Int32} {L R : Nat} (hS : SOk r) {x : Int32} : PM mX5_home [.ref 0, .int x] (mW r m im wa fr hi lt rw rf (nI L) (nI R) pl nu sd) (MP (s_home x (r, im, hi, lt, L, rw, R, rf))) := by
  refine PM.ofp 0 (by decide) (Nat.le_of_ble_eq_true rfl) ?_
  show Ok mX5_home none 0 [some (.ref 0), some (.int x)] [] (mW r m im wa fr hi lt rw rf (nI L) (nI R) pl nu sd) 0 0 _
  refine o_iload_n dX5_home_0 rfl rfl ?_
  refine o_iconst dX5_home_1 ic_m1 ?_
  refine o_icmp_ne (tgt := 12) dX5_home_2 (by decide) (fun c_2 => ?_) (fun c_2 => ?_)
  · skip
    refine o_aload_n dX5_home_12 rfl rfl ?_
    refine o_iload_n dX5_home_13 rfl rfl ?_
    refine o_callVr (is := [0, 1, 2, 3, 4, 5, 6, 7, 8, 9]) (tX5_isPerson hS) ⟨rfl, rfl⟩ dX5_home_14 wd786 cvX5_isPerson rfl ⟨(Nat.le_of_ble_eq_true rfl), (Nat.le_of_ble_eq_true rfl)⟩ hcX5 rfl rfl rfl rfl (Nat.le_of_ble_eq_true rfl) (Nat.le_of_ble_eq_true rfl) (Nat.le_of_ble_eq_true rfl) ?_
    refine o_if_eq (tgt := 38) dX5_home_17 (by decide) (fun c_17 => ?_) (fun c_17 => ?_)
    · have hno := bI_0.mp c_17
      refine o_aload_n dX5_home_38 rfl rfl ?_
      refine o_iconst dX5_home_39 ic_m1 ?_
      refine o_callVd (is := [0, 1, 2, 3, 4, 5, 6, 7, 8, 9]) (tX5_no (c := 1) rfl (by decide)) ⟨rfl, rfl⟩ dX5_home_40 wd733 cvX5_no rfl ⟨(Nat.le_of_ble_eq_true rfl), (Nat.le_of_ble_eq_true rfl)⟩ hcX5 rfl rfl rfl rfl (Nat.le_of_ble_eq_true rfl) (Nat.le_of_ble_eq_true rfl) (Nat.le_of_ble_eq_true rfl) rfl ?_
      refine o_iret dX5_home_43 rfl (vp_nar_int _) (Nat.le_of_ble_eq_true rfl) (Nat.le_of_ble_eq_true rfl) ?_
      exact MP.mk (σ := (r, im, hi, lt, L, rw, R, rfu rf 1)) (by simp only [s_home, if_neg c_2, hno]; rfl)
    · obtain ⟨d, hd, rfl⟩ := inR_yes (by have := hS.n6; omega) (bI_ne c_17)
      have h9 := hS.n6
      have hin := inR_nI (D := nN r) (by omega) hd
      have ec := cN_nI (d := d) (by omega)
      refine o_aload_n dX5_home_20 rfl rfl ?_
      refine o_iload_n dX5_home_21 rfl rfl ?_
      refine o_aload_n dX5_home_22 rfl rfl ?_
      refine o_getf (j := 0) dX5_home_23 rfl hcX5 inX5 (Nat.le_of_ble_eq_true rfl) wd686 rfl rfl ?_
      refine o_iload_n dX5_home_26 rfl rfl ?_
      refine o_iconst dX5_home_27 ic_1 ?_
      refine o_callSr (is := []) (ofP1) ⟨rfl, rfl⟩ dX5_home_28 wd783 csX5_ofP rfl ⟨(Nat.le_of_ble_eq_true rfl), (Nat.le_of_ble_eq_true rfl)⟩ rfl rfl rfl (Nat.le_of_ble_eq_true rfl) (Nat.le_of_ble_eq_true rfl) (Nat.le_of_ble_eq_true rfl) ?_
      refine o_ialp (i := 51 + 3 * d) dX5_home_31 rfl (rfl) (by omega) ?_
      refine o_callV (is := [0, 1, 2, 3, 4, 5, 6, 7, 8, 9]) (tX5_comesTo hS hd) ⟨rfl, rfl⟩ dX5_home_32 wd905 cvX5_comesTo rfl ⟨(Nat.le_of_ble_eq_true rfl), (Nat.le_of_ble_eq_true rfl)⟩ hcX5 rfl rfl rfl rfl (Nat.le_of_ble_eq_true rfl) (Nat.le_of_ble_eq_true rfl) (Nat.le_of_ble_eq_true rfl) (fun ra wb hq hqn => ?_)
      obtain ⟨rfl, m2, fr2, rfl⟩ := hq
      refine o_goto (tgt := 43) dX5_home_35 (by decide) ?_
      refine o_iret dX5_home_43 rfl (vp_nar_int _) (Nat.le_of_ble_eq_true rfl) (Nat.le_of_ble_eq_true rfl) ?_
      exact MP.mk (σ := (r, im, hi, lt, L, rw, R, rf)) (by simp only [s_home, if_neg c_2, hin, if_true, ec])
  · skip
    refine o_aload_n dX5_home_5 rfl rfl ?_
    refine o_callV (is := [0, 1, 2, 3, 4, 5, 6, 7, 8, 9]) (tX5_allHome hS) ⟨rfl, rfl⟩ dX5_home_6 wd913 cvX5_allHome rfl ⟨(Nat.le_of_ble_eq_true rfl), (Nat.le_of_ble_eq_true rfl)⟩ hcX5 rfl rfl rfl rfl (Nat.le_of_ble_eq_true rfl) (Nat.le_of_ble_eq_true rfl) (Nat.le_of_ble_eq_true rfl) (fun ra wb hq hqn => ?_)
    obtain ⟨rfl, m2, fr2, rfl⟩ := hq
    refine o_goto (tgt := 43) dX5_home_9 (by decide) ?_
    refine o_iret dX5_home_43 rfl (vp_nar_int _) (Nat.le_of_ble_eq_true rfl) (Nat.le_of_ble_eq_true rfl) ?_
    exact MP.mk (σ := (r, im, hi, lt, L, rw, R, rf)) (by simp only [s_home, if_pos c_2])
