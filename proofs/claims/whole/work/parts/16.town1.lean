theorem rm_dec {a : Nat} (ha : a < 2147483648) : isRoomB (nI a) = decide (a < 8) := by
  have h1 := nI_pos (n := a) ha
  by_cases h : a < 8
  · rw [rm_in h]; simp [h]
  · have h2 : (8 : Int32) ≤ nI a := nI_le (a := 8) (b := a) (by omega) ha
    simp [isRoomB, h2, h]
theorem tX0_addDoor_no {kd fg fr io wg ws fs : Nat → Int32} {K F : Int32} {D a b : Nat} (hD : D ≤ 9) (ha : a < 2147483648) (hb : b < 2147483648) (hno : ¬ (D < 9 ∧ a < 8 ∧ b < 8 ∧ a ≠ b)) : PD mX0_addDoor [.ref 0, .int K, .int F, .int (nI a), .int (nI b)] (dG kd fg fr io wg ws fs (nI D)) (some (.int 0)) (dG kd fg fr io wg ws fs (nI D)) := by
  refine PM.ofp 0 (by decide) (Nat.le_of_ble_eq_true rfl) ?_
  show Ok mX0_addDoor none 0 [some (.ref 0), some (.int K), some (.int F), some (.int (nI a)), some (.int (nI b))] [] (dG kd fg fr io wg ws fs (nI D)) 0 0 _
  refine o_aload_n dX0_addDoor_0 rfl rfl ?_
  refine o_getf (j := 7) dX0_addDoor_1 rfl hcX0 inX0 (Nat.le_of_ble_eq_true rfl) wd116 rfl rfl ?_
  refine o_bipush dX0_addDoor_4 bp_9 ?_
  refine o_icmp_ge (tgt := 30) dX0_addDoor_6 (by decide) (fun c_6 => ?_) (fun c_6 => ?_)
  · skip
    refine o_iconst dX0_addDoor_30 ic_0 ?_
    refine o_iret dX0_addDoor_31 rfl (by first | exact nz_b _ | decide) (Nat.le_of_ble_eq_true rfl) (Nat.le_of_ble_eq_true rfl) ?_
    exact ⟨rfl, rfl⟩
  · have q1 : D < 9 := ltI (b := 9) (by omega) (by omega) c_6
    refine o_iload_n dX0_addDoor_9 rfl rfl ?_
    refine o_callSNr (is := []) (tX4_isRoom) ⟨rfl, rfl⟩ dX0_addDoor_10 wd303 csX4_isRoom rfl ⟨(Nat.le_of_ble_eq_true rfl), (Nat.le_of_ble_eq_true rfl)⟩ rfl rfl rfl (Nat.le_of_ble_eq_true rfl) (Nat.le_of_ble_eq_true rfl) (Nat.le_of_ble_eq_true rfl) ?_
    refine o_if_eq (tgt := 30) dX0_addDoor_13 (by decide) (fun c_13 => ?_) (fun c_13 => ?_)
    · skip
      refine o_iconst dX0_addDoor_30 ic_0 ?_
      refine o_iret dX0_addDoor_31 rfl (by first | exact nz_b _ | decide) (Nat.le_of_ble_eq_true rfl) (Nat.le_of_ble_eq_true rfl) ?_
      exact ⟨rfl, rfl⟩
    · have q2 : a < 8 := by rw [bI_0, rm_dec ha] at c_13; simpa using c_13
      refine o_iload dX0_addDoor_16 rfl ?_
      refine o_callSNr (is := []) (tX4_isRoom) ⟨rfl, rfl⟩ dX0_addDoor_18 wd303 csX4_isRoom rfl ⟨(Nat.le_of_ble_eq_true rfl), (Nat.le_of_ble_eq_true rfl)⟩ rfl rfl rfl (Nat.le_of_ble_eq_true rfl) (Nat.le_of_ble_eq_true rfl) (Nat.le_of_ble_eq_true rfl) ?_
      refine o_if_eq (tgt := 30) dX0_addDoor_21 (by decide) (fun c_21 => ?_) (fun c_21 => ?_)
      · skip
        refine o_iconst dX0_addDoor_30 ic_0 ?_
        refine o_iret dX0_addDoor_31 rfl (by first | exact nz_b _ | decide) (Nat.le_of_ble_eq_true rfl) (Nat.le_of_ble_eq_true rfl) ?_
        exact ⟨rfl, rfl⟩
      · have q3 : b < 8 := by rw [bI_0, rm_dec hb] at c_21; simpa using c_21
        refine o_iload_n dX0_addDoor_24 rfl rfl ?_
        refine o_iload dX0_addDoor_25 rfl ?_
        refine o_icmp_ne (tgt := 32) dX0_addDoor_27 (by decide) (fun c_27 => ?_) (fun c_27 => ?_)
        · exact absurd ⟨q1, q2, q3, fun e => c_27 (by rw [e])⟩ hno
        · skip
          refine o_iconst dX0_addDoor_30 ic_0 ?_
          refine o_iret dX0_addDoor_31 rfl (by first | exact nz_b _ | decide) (Nat.le_of_ble_eq_true rfl) (Nat.le_of_ble_eq_true rfl) ?_
          exact ⟨rfl, rfl⟩
theorem tX0_addDoor_yes {kd fg fr io wg ws fs : Nat → Int32} {K F : Int32} {D a b : Nat} {fa fb : Nat → Nat} (hD : D < 9) (ha : a < 8) (hb : b < 8) (hab : a ≠ b) (hOk : DOk (D + 1) (upd fr D (nI a)) (upd io D (nI b)) fa fb) : PD mX0_addDoor [.ref 0, .int K, .int F, .int (nI a), .int (nI b)] (dG kd fg fr io wg ws fs (nI D)) (some (.int 1)) (dG (upd kd D K) (upd fg D F) (upd fr D (nI a)) (upd io D (nI b)) (upd wg D 0) (nF (wyT fa fb (D + 1))) (fsT fa fb (D + 1)) (nI (D + 1))) := by
  refine PM.ofp 0 (by decide) (Nat.le_of_ble_eq_true rfl) ?_
  show Ok mX0_addDoor none 0 [some (.ref 0), some (.int K), some (.int F), some (.int (nI a)), some (.int (nI b))] [] (dG kd fg fr io wg ws fs (nI D)) 0 0 _
  refine o_aload_n dX0_addDoor_0 rfl rfl ?_
  refine o_getf (j := 7) dX0_addDoor_1 rfl hcX0 inX0 (Nat.le_of_ble_eq_true rfl) wd116 rfl rfl ?_
  refine o_bipush dX0_addDoor_4 bp_9 ?_
  refine o_icmp_ge (tgt := 30) dX0_addDoor_6 (by decide) (fun c_6 => ?_) (fun c_6 => ?_)
  · exact absurd (geI (b := 9) (by omega) (by omega) c_6) (by omega)
  · skip
    refine o_iload_n dX0_addDoor_9 rfl rfl ?_
    refine o_callSNr (is := []) (tX4_isRoom) ⟨rfl, rfl⟩ dX0_addDoor_10 wd303 csX4_isRoom rfl ⟨(Nat.le_of_ble_eq_true rfl), (Nat.le_of_ble_eq_true rfl)⟩ rfl rfl rfl (Nat.le_of_ble_eq_true rfl) (Nat.le_of_ble_eq_true rfl) (Nat.le_of_ble_eq_true rfl) ?_
    refine o_if_eq (tgt := 30) dX0_addDoor_13 (by decide) (fun c_13 => ?_) (fun c_13 => ?_)
    · exact absurd c_13 (by rw [bI_0, rm_in ha]; decide)
    · skip
      refine o_iload dX0_addDoor_16 rfl ?_
      refine o_callSNr (is := []) (tX4_isRoom) ⟨rfl, rfl⟩ dX0_addDoor_18 wd303 csX4_isRoom rfl ⟨(Nat.le_of_ble_eq_true rfl), (Nat.le_of_ble_eq_true rfl)⟩ rfl rfl rfl (Nat.le_of_ble_eq_true rfl) (Nat.le_of_ble_eq_true rfl) (Nat.le_of_ble_eq_true rfl) ?_
      refine o_if_eq (tgt := 30) dX0_addDoor_21 (by decide) (fun c_21 => ?_) (fun c_21 => ?_)
      · exact absurd c_21 (by rw [bI_0, rm_in hb]; decide)
      · skip
        refine o_iload_n dX0_addDoor_24 rfl rfl ?_
        refine o_iload dX0_addDoor_25 rfl ?_
        refine o_icmp_ne (tgt := 32) dX0_addDoor_27 (by decide) (fun c_27 => ?_) (fun c_27 => ?_)
        · skip
          refine o_aload_n dX0_addDoor_32 rfl rfl ?_
          refine o_getf (j := 0) dX0_addDoor_33 rfl hcX0 inX0 (Nat.le_of_ble_eq_true rfl) wd102 rfl rfl ?_
          refine o_aload_n dX0_addDoor_36 rfl rfl ?_
          refine o_getf (j := 7) dX0_addDoor_37 rfl hcX0 inX0 (Nat.le_of_ble_eq_true rfl) wd116 rfl rfl ?_
          refine o_iload_n dX0_addDoor_40 rfl rfl ?_
          refine o_callSNd (is := [1]) (put_f (by decide) rfl hD) ⟨rfl, rfl⟩ dX0_addDoor_41 wd88 csX4_put rfl ⟨(Nat.le_of_ble_eq_true rfl), (Nat.le_of_ble_eq_true rfl)⟩ rfl rfl rfl (Nat.le_of_ble_eq_true rfl) (Nat.le_of_ble_eq_true rfl) (Nat.le_of_ble_eq_true rfl) rfl ?_
          refine o_aload_n dX0_addDoor_44 rfl rfl ?_
          refine o_getf (j := 1) dX0_addDoor_45 rfl hcX0 inX0 (Nat.le_of_ble_eq_true rfl) wd104 rfl rfl ?_
          refine o_aload_n dX0_addDoor_48 rfl rfl ?_
          refine o_getf (j := 7) dX0_addDoor_49 rfl hcX0 inX0 (Nat.le_of_ble_eq_true rfl) wd116 rfl rfl ?_
          refine o_iload_n dX0_addDoor_52 rfl rfl ?_
          refine o_callSNd (is := [2]) (put_f (by decide) rfl hD) ⟨rfl, rfl⟩ dX0_addDoor_53 wd88 csX4_put rfl ⟨(Nat.le_of_ble_eq_true rfl), (Nat.le_of_ble_eq_true rfl)⟩ rfl rfl rfl (Nat.le_of_ble_eq_true rfl) (Nat.le_of_ble_eq_true rfl) (Nat.le_of_ble_eq_true rfl) rfl ?_
          refine o_aload_n dX0_addDoor_56 rfl rfl ?_
          refine o_getf (j := 2) dX0_addDoor_57 rfl hcX0 inX0 (Nat.le_of_ble_eq_true rfl) wd106 rfl rfl ?_
          refine o_aload_n dX0_addDoor_60 rfl rfl ?_
          refine o_getf (j := 7) dX0_addDoor_61 rfl hcX0 inX0 (Nat.le_of_ble_eq_true rfl) wd116 rfl rfl ?_
          refine o_iload_n dX0_addDoor_64 rfl rfl ?_
          refine o_callSNd (is := [3]) (put_f (by decide) rfl hD) ⟨rfl, rfl⟩ dX0_addDoor_65 wd88 csX4_put rfl ⟨(Nat.le_of_ble_eq_true rfl), (Nat.le_of_ble_eq_true rfl)⟩ rfl rfl rfl (Nat.le_of_ble_eq_true rfl) (Nat.le_of_ble_eq_true rfl) (Nat.le_of_ble_eq_true rfl) rfl ?_
          refine o_aload_n dX0_addDoor_68 rfl rfl ?_
          refine o_getf (j := 3) dX0_addDoor_69 rfl hcX0 inX0 (Nat.le_of_ble_eq_true rfl) wd108 rfl rfl ?_
          refine o_aload_n dX0_addDoor_72 rfl rfl ?_
          refine o_getf (j := 7) dX0_addDoor_73 rfl hcX0 inX0 (Nat.le_of_ble_eq_true rfl) wd116 rfl rfl ?_
          refine o_iload dX0_addDoor_76 rfl ?_
          refine o_callSNd (is := [4]) (put_f (by decide) rfl hD) ⟨rfl, rfl⟩ dX0_addDoor_78 wd88 csX4_put rfl ⟨(Nat.le_of_ble_eq_true rfl), (Nat.le_of_ble_eq_true rfl)⟩ rfl rfl rfl (Nat.le_of_ble_eq_true rfl) (Nat.le_of_ble_eq_true rfl) (Nat.le_of_ble_eq_true rfl) rfl ?_
          refine o_aload_n dX0_addDoor_81 rfl rfl ?_
          refine o_getf (j := 4) dX0_addDoor_82 rfl hcX0 inX0 (Nat.le_of_ble_eq_true rfl) wd111 rfl rfl ?_
          refine o_aload_n dX0_addDoor_85 rfl rfl ?_
          refine o_getf (j := 7) dX0_addDoor_86 rfl hcX0 inX0 (Nat.le_of_ble_eq_true rfl) wd116 rfl rfl ?_
          refine o_iconst dX0_addDoor_89 ic_0 ?_
          refine o_callSNd (is := [5]) (put_f (by decide) rfl hD) ⟨rfl, rfl⟩ dX0_addDoor_90 wd88 csX4_put rfl ⟨(Nat.le_of_ble_eq_true rfl), (Nat.le_of_ble_eq_true rfl)⟩ rfl rfl rfl (Nat.le_of_ble_eq_true rfl) (Nat.le_of_ble_eq_true rfl) (Nat.le_of_ble_eq_true rfl) rfl ?_
          refine o_aload_n dX0_addDoor_93 rfl rfl ?_
          refine o_dup dX0_addDoor_94 rfl ?_
          refine o_getf (j := 7) dX0_addDoor_95 rfl hcX0 inX0 (Nat.le_of_ble_eq_true rfl) wd116 rfl rfl ?_
          refine o_iconst dX0_addDoor_98 ic_1 ?_
          refine o_iadd dX0_addDoor_99 ?_
          refine o_putf (j := 7) tyX0 dX0_addDoor_100 rfl hcX0 inX0 tyX0_ok nmX0 (Nat.le_of_ble_eq_true rfl) wd116 rfl rfl (fun _ => vp_nar_int _) (fun _ => rfl) (Nat.le_of_ble_eq_true rfl) rfl ?_
          refine o_eqw (w2 := dG (upd kd D K) (upd fg D F) (upd fr D (nI a)) (upd io D (nI b)) (upd wg D 0) ws fs (nI (D + 1))) (by rw [← nI_1]; rfl) ?_
          refine o_aload_n dX0_addDoor_103 rfl rfl ?_
          refine o_callVd (is := [0, 1, 2, 3, 4, 5, 6, 7]) (tX0_measureWays hOk) ⟨rfl, rfl⟩ dX0_addDoor_104 wd84 cvX0_measureWays rfl ⟨(Nat.le_of_ble_eq_true rfl), (Nat.le_of_ble_eq_true rfl)⟩ hcX0 rfl rfl rfl rfl (Nat.le_of_ble_eq_true rfl) (Nat.le_of_ble_eq_true rfl) (Nat.le_of_ble_eq_true rfl) rfl ?_
          refine o_iconst dX0_addDoor_107 ic_1 ?_
          refine o_iret dX0_addDoor_108 rfl (by first | exact nz_b _ | decide) (Nat.le_of_ble_eq_true rfl) (Nat.le_of_ble_eq_true rfl) ?_
          exact ⟨rfl, rfl⟩
        · exact absurd ((nI_eq (by omega) (by omega)).mp c_27) hab
abbrev dG2 (kd fg fr io wg ws fs : Nat → Int32) (sz : Int32) (kd' fg' fr' io' wg' ws' fs' : Nat → Int32) (sz' : Int32) : PW := [.inr (0, [.ref 1, .ref 2, .ref 3, .ref 4, .ref 5, .ref 6, .ref 7, .int sz]), .inl (9, kd), .inl (9, fg), .inl (9, fr), .inl (9, io), .inl (9, wg), .inl (64, ws), .inl (64, fs),
  .inr (0, [.ref 9, .ref 10, .ref 11, .ref 12, .ref 13, .ref 14, .ref 15, .int sz']), .inl (9, kd'), .inl (9, fg'), .inl (9, fr'), .inl (9, io'), .inl (9, wg'), .inl (64, ws'), .inl (64, fs')]
theorem tX0_become {kd fg fr io wg ws fs kd' fg' fr' io' wg' ws' fs' : Nat → Int32} {sz sz' : Int32} : PD mX0_become [.ref 0, .ref 8] (dG2 kd fg fr io wg ws fs sz kd' fg' fr' io' wg' ws' fs' sz') (none) (dG2 kd' fg' fr' io' wg' ws' fs' sz' kd' fg' fr' io' wg' ws' fs' sz') := by
  refine PM.ofp 0 (by decide) (Nat.le_of_ble_eq_true rfl) ?_
  show Ok mX0_become none 0 [some (.ref 0), some (.ref 8)] [] (dG2 kd fg fr io wg ws fs sz kd' fg' fr' io' wg' ws' fs' sz') 0 0 _
  refine o_aload_n dX0_become_0 rfl rfl ?_
  refine o_getf (j := 0) dX0_become_1 rfl hcX0 inX0 (Nat.le_of_ble_eq_true rfl) wd102 rfl rfl ?_
  refine o_aload_n dX0_become_4 rfl rfl ?_
  refine o_getf (j := 0) dX0_become_5 rfl hcX0 inX0 (Nat.le_of_ble_eq_true rfl) wd102 rfl rfl ?_
  refine o_callSNd (is := [9, 1]) (tX4_copy (by decide)) ⟨rfl, rfl⟩ dX0_become_8 wd281 csX4_copy rfl ⟨(Nat.le_of_ble_eq_true rfl), (Nat.le_of_ble_eq_true rfl)⟩ rfl rfl rfl (Nat.le_of_ble_eq_true rfl) (Nat.le_of_ble_eq_true rfl) (Nat.le_of_ble_eq_true rfl) rfl ?_
  refine o_aload_n dX0_become_11 rfl rfl ?_
  refine o_getf (j := 1) dX0_become_12 rfl hcX0 inX0 (Nat.le_of_ble_eq_true rfl) wd104 rfl rfl ?_
  refine o_aload_n dX0_become_15 rfl rfl ?_
  refine o_getf (j := 1) dX0_become_16 rfl hcX0 inX0 (Nat.le_of_ble_eq_true rfl) wd104 rfl rfl ?_
  refine o_callSNd (is := [10, 2]) (tX4_copy (by decide)) ⟨rfl, rfl⟩ dX0_become_19 wd281 csX4_copy rfl ⟨(Nat.le_of_ble_eq_true rfl), (Nat.le_of_ble_eq_true rfl)⟩ rfl rfl rfl (Nat.le_of_ble_eq_true rfl) (Nat.le_of_ble_eq_true rfl) (Nat.le_of_ble_eq_true rfl) rfl ?_
  refine o_aload_n dX0_become_22 rfl rfl ?_
  refine o_getf (j := 2) dX0_become_23 rfl hcX0 inX0 (Nat.le_of_ble_eq_true rfl) wd106 rfl rfl ?_
  refine o_aload_n dX0_become_26 rfl rfl ?_
  refine o_getf (j := 2) dX0_become_27 rfl hcX0 inX0 (Nat.le_of_ble_eq_true rfl) wd106 rfl rfl ?_
  refine o_callSNd (is := [11, 3]) (tX4_copy (by decide)) ⟨rfl, rfl⟩ dX0_become_30 wd281 csX4_copy rfl ⟨(Nat.le_of_ble_eq_true rfl), (Nat.le_of_ble_eq_true rfl)⟩ rfl rfl rfl (Nat.le_of_ble_eq_true rfl) (Nat.le_of_ble_eq_true rfl) (Nat.le_of_ble_eq_true rfl) rfl ?_
  refine o_aload_n dX0_become_33 rfl rfl ?_
  refine o_getf (j := 3) dX0_become_34 rfl hcX0 inX0 (Nat.le_of_ble_eq_true rfl) wd108 rfl rfl ?_
  refine o_aload_n dX0_become_37 rfl rfl ?_
  refine o_getf (j := 3) dX0_become_38 rfl hcX0 inX0 (Nat.le_of_ble_eq_true rfl) wd108 rfl rfl ?_
  refine o_callSNd (is := [12, 4]) (tX4_copy (by decide)) ⟨rfl, rfl⟩ dX0_become_41 wd281 csX4_copy rfl ⟨(Nat.le_of_ble_eq_true rfl), (Nat.le_of_ble_eq_true rfl)⟩ rfl rfl rfl (Nat.le_of_ble_eq_true rfl) (Nat.le_of_ble_eq_true rfl) (Nat.le_of_ble_eq_true rfl) rfl ?_
  refine o_aload_n dX0_become_44 rfl rfl ?_
  refine o_getf (j := 4) dX0_become_45 rfl hcX0 inX0 (Nat.le_of_ble_eq_true rfl) wd111 rfl rfl ?_
  refine o_aload_n dX0_become_48 rfl rfl ?_
  refine o_getf (j := 4) dX0_become_49 rfl hcX0 inX0 (Nat.le_of_ble_eq_true rfl) wd111 rfl rfl ?_
  refine o_callSNd (is := [13, 5]) (tX4_copy (by decide)) ⟨rfl, rfl⟩ dX0_become_52 wd281 csX4_copy rfl ⟨(Nat.le_of_ble_eq_true rfl), (Nat.le_of_ble_eq_true rfl)⟩ rfl rfl rfl (Nat.le_of_ble_eq_true rfl) (Nat.le_of_ble_eq_true rfl) (Nat.le_of_ble_eq_true rfl) rfl ?_
  refine o_aload_n dX0_become_55 rfl rfl ?_
  refine o_getf (j := 5) dX0_become_56 rfl hcX0 inX0 (Nat.le_of_ble_eq_true rfl) wd114 rfl rfl ?_
  refine o_aload_n dX0_become_59 rfl rfl ?_
  refine o_getf (j := 5) dX0_become_60 rfl hcX0 inX0 (Nat.le_of_ble_eq_true rfl) wd114 rfl rfl ?_
  refine o_callSNd (is := [14, 6]) (tX4_copy (by decide)) ⟨rfl, rfl⟩ dX0_become_63 wd281 csX4_copy rfl ⟨(Nat.le_of_ble_eq_true rfl), (Nat.le_of_ble_eq_true rfl)⟩ rfl rfl rfl (Nat.le_of_ble_eq_true rfl) (Nat.le_of_ble_eq_true rfl) (Nat.le_of_ble_eq_true rfl) rfl ?_
  refine o_aload_n dX0_become_66 rfl rfl ?_
  refine o_getf (j := 6) dX0_become_67 rfl hcX0 inX0 (Nat.le_of_ble_eq_true rfl) wd115 rfl rfl ?_
  refine o_aload_n dX0_become_70 rfl rfl ?_
  refine o_getf (j := 6) dX0_become_71 rfl hcX0 inX0 (Nat.le_of_ble_eq_true rfl) wd115 rfl rfl ?_
  refine o_callSNd (is := [15, 7]) (tX4_copy (by decide)) ⟨rfl, rfl⟩ dX0_become_74 wd281 csX4_copy rfl ⟨(Nat.le_of_ble_eq_true rfl), (Nat.le_of_ble_eq_true rfl)⟩ rfl rfl rfl (Nat.le_of_ble_eq_true rfl) (Nat.le_of_ble_eq_true rfl) (Nat.le_of_ble_eq_true rfl) rfl ?_
  refine o_aload_n dX0_become_77 rfl rfl ?_
  refine o_aload_n dX0_become_78 rfl rfl ?_
  refine o_getf (j := 7) dX0_become_79 rfl hcX0 inX0 (Nat.le_of_ble_eq_true rfl) wd116 rfl rfl ?_
  refine o_putf (j := 7) tyX0 dX0_become_82 rfl hcX0 inX0 tyX0_ok nmX0 (Nat.le_of_ble_eq_true rfl) wd116 rfl rfl (fun _ => vp_nar_int _) (fun _ => rfl) (Nat.le_of_ble_eq_true rfl) rfl ?_
  refine o_vret dX0_become_85 rfl (Nat.le_of_ble_eq_true rfl) (Nat.le_of_ble_eq_true rfl) ?_
  exact ⟨rfl, rfl⟩
def prj (b s n : Nat) (r : Nat → Int32) : Nat → Int32 := fun d => if d < n then r (b + s * d) else 0
theorem prj_at {b s n d : Nat} {r : Nat → Int32} (h : d < n) : prj b s n r d = r (b + s * d) := if_pos h
theorem prj_ne {b s n i : Nat} {r : Nat → Int32} {v : Int32} (h : ∀ d, d < n → b + s * d ≠ i) : prj b s n (upd r i v) = prj b s n r := by
  funext d
  unfold prj upd
  by_cases hd : d < n
  · simp [hd, h d hd]
  · simp [hd]
theorem prj_up {b s n d : Nat} {r : Nat → Int32} {v : Int32} (hs : 0 < s) (hd : d < n) : prj b s n (upd r (b + s * d) v) = upd (prj b s n r) d v := by
  funext e
  unfold prj upd
  by_cases h : e = d
  · subst h; simp [hd]
  · have hne : ¬ s * e = s * d := fun q => h (Nat.eq_of_mul_eq_mul_left hs q)
    by_cases he : e < n
    · simp [h, he, hne]
    · simp [h, he]
abbrev kdO := prj 5 5 9
abbrev fgO := prj 6 5 9
abbrev frO := prj 7 5 9
abbrev inO := prj 8 5 9
abbrev wdO := prj 9 5 9
abbrev rmO := prj 50 3 7
abbrev glO := prj 51 3 7
abbrev mdO := prj 52 3 7
abbrev tG (kd fg fr io wg ws fs rm gl md : Nat → Int32) (sz n h l : Int32) : PW := [.inr (3, [.ref 1, .ref 9, .ref 10, .ref 11, .int n, .int h, .int l]), .inr (0, [.ref 2, .ref 3, .ref 4, .ref 5, .ref 6, .ref 7, .ref 8, .int sz]), .inl (9, kd), .inl (9, fg), .inl (9, fr), .inl (9, io), .inl (9, wg), .inl (64, ws), .inl (64, fs), .inl (7, rm), .inl (7, gl), .inl (7, md)]
abbrev tW (r ws fs : Nat → Int32) : PW := tG (kdO r) (fgO r) (frO r) (inO r) (wdO r) ws fs (rmO r) (glO r) (mdO r) (r 0) (r 1) (r 2) (r 3)
abbrev dW (r ws fs : Nat → Int32) : PW := dG (kdO r) (fgO r) (frO r) (inO r) (wdO r) ws fs (r 0)
theorem upd_ne {f : Nat → Int32} {i j : Nat} {v : Int32} (h : j ≠ i) : upd f i v j = f j := pk_un h
theorem upd_eq {f : Nat → Int32} {i : Nat} {v : Int32} : upd f i v i = v := pk_us
theorem tW_room {r ws fs : Nat → Int32} {p : Nat} {v : Int32} (hp : p < 7) : tW (upd r (50 + 3 * p) v) ws fs = tG (kdO r) (fgO r) (frO r) (inO r) (wdO r) ws fs (upd (rmO r) p v) (glO r) (mdO r) (r 0) (r 1) (r 2) (r 3) := by
  have e0 : kdO (upd r (50 + 3 * p) v) = kdO r := prj_ne (fun d hd => by omega)
  have e1 : fgO (upd r (50 + 3 * p) v) = fgO r := prj_ne (fun d hd => by omega)
  have e2 : frO (upd r (50 + 3 * p) v) = frO r := prj_ne (fun d hd => by omega)
  have e3 : inO (upd r (50 + 3 * p) v) = inO r := prj_ne (fun d hd => by omega)
  have e4 : wdO (upd r (50 + 3 * p) v) = wdO r := prj_ne (fun d hd => by omega)
  have e5 : rmO (upd r (50 + 3 * p) v) = upd (rmO r) p v := prj_up (by omega) hp
  have e6 : glO (upd r (50 + 3 * p) v) = glO r := prj_ne (fun d hd => by omega)
  have e7 : mdO (upd r (50 + 3 * p) v) = mdO r := prj_ne (fun d hd => by omega)
  show tG (kdO _) (fgO _) (frO _) (inO _) (wdO _) ws fs (rmO _) (glO _) (mdO _) _ _ _ _ = _
  rw [e0, e1, e2, e3, e4, e5, e6, e7, upd_ne (by omega), upd_ne (by omega), upd_ne (by omega), upd_ne (by omega)]
theorem tW_goal {r ws fs : Nat → Int32} {p : Nat} {v : Int32} (hp : p < 7) : tW (upd r (51 + 3 * p) v) ws fs = tG (kdO r) (fgO r) (frO r) (inO r) (wdO r) ws fs (rmO r) (upd (glO r) p v) (mdO r) (r 0) (r 1) (r 2) (r 3) := by
  have e0 : kdO (upd r (51 + 3 * p) v) = kdO r := prj_ne (fun d hd => by omega)
  have e1 : fgO (upd r (51 + 3 * p) v) = fgO r := prj_ne (fun d hd => by omega)
  have e2 : frO (upd r (51 + 3 * p) v) = frO r := prj_ne (fun d hd => by omega)
  have e3 : inO (upd r (51 + 3 * p) v) = inO r := prj_ne (fun d hd => by omega)
  have e4 : wdO (upd r (51 + 3 * p) v) = wdO r := prj_ne (fun d hd => by omega)
  have e5 : rmO (upd r (51 + 3 * p) v) = rmO r := prj_ne (fun d hd => by omega)
  have e6 : glO (upd r (51 + 3 * p) v) = upd (glO r) p v := prj_up (by omega) hp
  have e7 : mdO (upd r (51 + 3 * p) v) = mdO r := prj_ne (fun d hd => by omega)
  show tG (kdO _) (fgO _) (frO _) (inO _) (wdO _) ws fs (rmO _) (glO _) (mdO _) _ _ _ _ = _
  rw [e0, e1, e2, e3, e4, e5, e6, e7, upd_ne (by omega), upd_ne (by omega), upd_ne (by omega), upd_ne (by omega)]
theorem tW_mood {r ws fs : Nat → Int32} {p : Nat} {v : Int32} (hp : p < 7) : tW (upd r (52 + 3 * p) v) ws fs = tG (kdO r) (fgO r) (frO r) (inO r) (wdO r) ws fs (rmO r) (glO r) (upd (mdO r) p v) (r 0) (r 1) (r 2) (r 3) := by
  have e0 : kdO (upd r (52 + 3 * p) v) = kdO r := prj_ne (fun d hd => by omega)
  have e1 : fgO (upd r (52 + 3 * p) v) = fgO r := prj_ne (fun d hd => by omega)
  have e2 : frO (upd r (52 + 3 * p) v) = frO r := prj_ne (fun d hd => by omega)
  have e3 : inO (upd r (52 + 3 * p) v) = inO r := prj_ne (fun d hd => by omega)
  have e4 : wdO (upd r (52 + 3 * p) v) = wdO r := prj_ne (fun d hd => by omega)
  have e5 : rmO (upd r (52 + 3 * p) v) = rmO r := prj_ne (fun d hd => by omega)
  have e6 : glO (upd r (52 + 3 * p) v) = glO r := prj_ne (fun d hd => by omega)
  have e7 : mdO (upd r (52 + 3 * p) v) = upd (mdO r) p v := prj_up (by omega) hp
  show tG (kdO _) (fgO _) (frO _) (inO _) (wdO _) ws fs (rmO _) (glO _) (mdO _) _ _ _ _ = _
  rw [e0, e1, e2, e3, e4, e5, e6, e7, upd_ne (by omega), upd_ne (by omega), upd_ne (by omega), upd_ne (by omega)]
theorem tW_sc {r ws fs : Nat → Int32} {i : Nat} {v : Int32} (hi : i < 5) : tW (upd r i v) ws fs = tG (kdO r) (fgO r) (frO r) (inO r) (wdO r) ws fs (rmO r) (glO r) (mdO r) (upd r i v 0) (upd r i v 1) (upd r i v 2) (upd r i v 3) := by
  have e0 : kdO (upd r (i) v) = kdO r := prj_ne (fun d hd => by omega)
  have e1 : fgO (upd r (i) v) = fgO r := prj_ne (fun d hd => by omega)
  have e2 : frO (upd r (i) v) = frO r := prj_ne (fun d hd => by omega)
  have e3 : inO (upd r (i) v) = inO r := prj_ne (fun d hd => by omega)
  have e4 : wdO (upd r (i) v) = wdO r := prj_ne (fun d hd => by omega)
  have e5 : rmO (upd r (i) v) = rmO r := prj_ne (fun d hd => by omega)
  have e6 : glO (upd r (i) v) = glO r := prj_ne (fun d hd => by omega)
  have e7 : mdO (upd r (i) v) = mdO r := prj_ne (fun d hd => by omega)
  show tG (kdO _) (fgO _) (frO _) (inO _) (wdO _) ws fs (rmO _) (glO _) (mdO _) _ _ _ _ = _
  rw [e0, e1, e2, e3, e4, e5, e6, e7]
theorem tW_n {r ws fs : Nat → Int32} {v : Int32} : tG (kdO r) (fgO r) (frO r) (inO r) (wdO r) ws fs (rmO r) (glO r) (mdO r) (r 0) v (r 2) (r 3) = tW (upd r 1 v) ws fs := by rw [tW_sc (by omega)]; rfl
theorem tW_h {r ws fs : Nat → Int32} {v : Int32} : tG (kdO r) (fgO r) (frO r) (inO r) (wdO r) ws fs (rmO r) (glO r) (mdO r) (r 0) (r 1) v (r 3) = tW (upd r 2 v) ws fs := by rw [tW_sc (by omega)]; rfl
theorem tW_l {r ws fs : Nat → Int32} {v : Int32} : tG (kdO r) (fgO r) (frO r) (inO r) (wdO r) ws fs (rmO r) (glO r) (mdO r) (r 0) (r 1) (r 2) v = tW (upd r 3 v) ws fs := by rw [tW_sc (by omega)]; rfl
theorem at_p {b s n d : Nat} {r : Nat → Int32} (hn : n < 2147483648) (hd : d < n) : PD mX4_at [.ref 0, .int (nI d)] [.inl (n, prj b s n r)] (some (.int (r (b + s * d)))) [.inl (n, prj b s n r)] := (at_f hn rfl hd).mono (by rw [prj_at hd])
def RmI (x : Int32) : Prop := ∃ a, a < 8 ∧ x = nI a
def TOk (r : Nat → Int32) (D N : Nat) : Prop := r 0 = nI D ∧ D ≤ 9 ∧ r 1 = nI N ∧ N ≤ 7 ∧ (∀ p, p < N → RmI (r (50 + 3 * p)) ∧ RmI (r (51 + 3 * p))) ∧ ∀ d, d < D → RmI (r (7 + 5 * d)) ∧ RmI (r (8 + 5 * d))
def cN (x : Int32) : Nat := x.toNatClampNeg
theorem RmI.cN {x : Int32} (h : RmI x) : cN x < 8 ∧ x = nI (cN x) := by
  obtain ⟨a, h1, rfl⟩ := h
  have e : (nI a).toNatClampNeg = a := nI_clamp (by omega)
  show (nI a).toNatClampNeg < 8 ∧ nI a = nI (nI a).toNatClampNeg
  rw [e]; exact ⟨h1, rfl⟩
def fA (r : Nat → Int32) (d : Nat) : Nat := cN (r (7 + 5 * d))
def fB (r : Nat → Int32) (d : Nat) : Nat := cN (r (8 + 5 * d))
theorem TOk.D {r : Nat → Int32} {D N : Nat} (h : TOk r D N) : DOk D (frO r) (inO r) (fA r) (fB r) := by
  refine ⟨h.2.1, fun d hd => ?_⟩
  obtain ⟨h1, h2⟩ := h.2.2.2.2.2 d hd
  have h9 := h.2.1
  have q1 := h1.cN
  have q2 := h2.cN
  have e1 : frO r d = r (7 + 5 * d) := prj_at (by omega)
  have e2 : inO r d = r (8 + 5 * d) := prj_at (by omega)
  rw [e1, e2]
  exact ⟨q1.2, q1.1, q2.2, q2.1⟩
def homeS (r : Nat → Int32) : Nat → Int32
  | 0 => 0
  | k + 1 => if r (50 + 3 * k) = r (51 + 3 * k) then homeS r k ||| (1 <<< (nI k &&& 31)) else homeS r k
def moodS (r : Nat → Int32) : Nat → Int32
  | 0 => 0
  | k + 1 => moodS r k + r (52 + 3 * k)
def adP (r : Nat → Int32) (N : Nat) (a b c : Int32) : Nat → Int32 := upd (upd (upd (upd r (50 + 3 * N) a) (51 + 3 * N) b) (52 + 3 * N) c) 1 (nI (N + 1))
theorem tX3_has {r ws fs : Nat → Int32} {x : Int32} : PD mX3_has [.ref 0, .int x] (tW r ws fs) (some (.int (bI (!decide (x < 0) && !decide (r 1 ≤ x))))) (tW r ws fs) := by
  refine PM.ofp 0 (by decide) (Nat.le_of_ble_eq_true rfl) ?_
  show Ok mX3_has none 0 [some (.ref 0), some (.int x)] [] (tW r ws fs) 0 0 _
  refine o_iload_n dX3_has_0 rfl rfl ?_
  refine o_if_lt (tgt := 16) dX3_has_1 (by decide) (fun c_1 => ?_) (fun c_1 => ?_)
  · skip
    refine o_iconst dX3_has_16 ic_0 ?_
    refine o_iret dX3_has_17 rfl (by first | exact nz_b _ | decide) (Nat.le_of_ble_eq_true rfl) (Nat.le_of_ble_eq_true rfl) ?_
    exact ⟨by simp [bI, *], rfl⟩
  · skip
    refine o_iload_n dX3_has_4 rfl rfl ?_
    refine o_aload_n dX3_has_5 rfl rfl ?_
    refine o_getf (j := 4) dX3_has_6 rfl hcX3 inX3 (Nat.le_of_ble_eq_true rfl) wd148 rfl rfl ?_
    refine o_icmp_ge (tgt := 16) dX3_has_9 (by decide) (fun c_9 => ?_) (fun c_9 => ?_)
    · skip
      refine o_iconst dX3_has_16 ic_0 ?_
      refine o_iret dX3_has_17 rfl (by first | exact nz_b _ | decide) (Nat.le_of_ble_eq_true rfl) (Nat.le_of_ble_eq_true rfl) ?_
      exact ⟨by simp [bI, *], rfl⟩
    · skip
      refine o_iconst dX3_has_12 ic_1 ?_
      refine o_goto (tgt := 17) dX3_has_13 (by decide) ?_
      refine o_iret dX3_has_17 rfl (by first | exact nz_b _ | decide) (Nat.le_of_ble_eq_true rfl) (Nat.le_of_ble_eq_true rfl) ?_
      exact ⟨by simp [bI, *], rfl⟩
theorem tX3_isHome {r ws fs : Nat → Int32} {p : Nat} (hp : p < 7) : PD mX3_isHome [.ref 0, .int (nI p)] (tW r ws fs) (some (.int (bI (decide (r (50 + 3 * p) = r (51 + 3 * p)))))) (tW r ws fs) := by
  refine PM.ofp 0 (by decide) (Nat.le_of_ble_eq_true rfl) ?_
  show Ok mX3_isHome none 0 [some (.ref 0), some (.int (nI p))] [] (tW r ws fs) 0 0 _
  refine o_aload_n dX3_isHome_0 rfl rfl ?_
  refine o_getf (j := 1) dX3_isHome_1 rfl hcX3 inX3 (Nat.le_of_ble_eq_true rfl) wd140 rfl rfl ?_
  refine o_iload_n dX3_isHome_4 rfl rfl ?_
  refine o_callSNr (is := [9]) (at_p (by decide) hp) ⟨rfl, rfl⟩ dX3_isHome_5 wd346 csX4_at rfl ⟨(Nat.le_of_ble_eq_true rfl), (Nat.le_of_ble_eq_true rfl)⟩ rfl rfl rfl (Nat.le_of_ble_eq_true rfl) (Nat.le_of_ble_eq_true rfl) (Nat.le_of_ble_eq_true rfl) ?_
  refine o_aload_n dX3_isHome_8 rfl rfl ?_
  refine o_getf (j := 2) dX3_isHome_9 rfl hcX3 inX3 (Nat.le_of_ble_eq_true rfl) wd143 rfl rfl ?_
  refine o_iload_n dX3_isHome_12 rfl rfl ?_
  refine o_callSNr (is := [10]) (at_p (by decide) hp) ⟨rfl, rfl⟩ dX3_isHome_13 wd346 csX4_at rfl ⟨(Nat.le_of_ble_eq_true rfl), (Nat.le_of_ble_eq_true rfl)⟩ rfl rfl rfl (Nat.le_of_ble_eq_true rfl) (Nat.le_of_ble_eq_true rfl) (Nat.le_of_ble_eq_true rfl) ?_
  refine o_icmp_ne (tgt := 23) dX3_isHome_16 (by decide) (fun c_16 => ?_) (fun c_16 => ?_)
  · skip
    refine o_iconst dX3_isHome_23 ic_0 ?_
    refine o_iret dX3_isHome_24 rfl (by first | exact nz_b _ | decide) (Nat.le_of_ble_eq_true rfl) (Nat.le_of_ble_eq_true rfl) ?_
    exact ⟨by simp [bI, *], rfl⟩
  · skip
    refine o_iconst dX3_isHome_19 ic_1 ?_
    refine o_goto (tgt := 24) dX3_isHome_20 (by decide) ?_
    refine o_iret dX3_isHome_24 rfl (by first | exact nz_b _ | decide) (Nat.le_of_ble_eq_true rfl) (Nat.le_of_ble_eq_true rfl) ?_
    exact ⟨by simp [bI, *], rfl⟩
theorem tX3_addPerson {r ws fs : Nat → Int32} {N : Nat} {a b c : Int32} (hN : N ≤ 6) (h1 : r 1 = nI N) : PD mX3_addPerson [.ref 0, .int a, .int b, .int c] (tW r ws fs) (none) (tW (adP r N a b c) ws fs) := by
  refine PM.ofp 0 (by decide) (Nat.le_of_ble_eq_true rfl) ?_
  show Ok mX3_addPerson none 0 [some (.ref 0), some (.int a), some (.int b), some (.int c)] [] (tW r ws fs) 0 0 _
  refine o_aload_n dX3_addPerson_0 rfl rfl ?_
  refine o_getf (j := 4) dX3_addPerson_1 rfl hcX3 inX3 (Nat.le_of_ble_eq_true rfl) wd148 rfl rfl ?_
  refine o_bipush dX3_addPerson_4 bp_6 ?_
  refine o_icmp_gt (tgt := 55) dX3_addPerson_6 (by decide) (fun c_6 => ?_) (fun c_6 => ?_)
  · rw [h1] at c_6
    exact absurd ((nI_ltI (a := 6) (by omega) (by omega)).mp c_6) (by omega)
  · skip
    refine o_aload_n dX3_addPerson_9 rfl rfl ?_
    refine o_getf (j := 1) dX3_addPerson_10 rfl hcX3 inX3 (Nat.le_of_ble_eq_true rfl) wd140 rfl rfl ?_
    refine o_aload_n dX3_addPerson_13 rfl rfl ?_
    refine o_getf (j := 4) dX3_addPerson_14 rfl hcX3 inX3 (Nat.le_of_ble_eq_true rfl) wd148 rfl rfl ?_
    refine o_iload_n dX3_addPerson_17 rfl rfl ?_
    refine o_callSNd (is := [9]) (put_f (by decide) h1 (by omega)) ⟨rfl, rfl⟩ dX3_addPerson_18 wd314 csX4_put rfl ⟨(Nat.le_of_ble_eq_true rfl), (Nat.le_of_ble_eq_true rfl)⟩ rfl rfl rfl (Nat.le_of_ble_eq_true rfl) (Nat.le_of_ble_eq_true rfl) (Nat.le_of_ble_eq_true rfl) rfl ?_
    refine o_eqw (w2 := tW (upd r (50 + 3 * N) a) ws fs) (by rw [tW_room (by omega)]; rfl) ?_
    refine o_aload_n dX3_addPerson_21 rfl rfl ?_
    refine o_getf (j := 2) dX3_addPerson_22 rfl hcX3 inX3 (Nat.le_of_ble_eq_true rfl) wd143 rfl rfl ?_
    refine o_aload_n dX3_addPerson_25 rfl rfl ?_
    refine o_getf (j := 4) dX3_addPerson_26 rfl hcX3 inX3 (Nat.le_of_ble_eq_true rfl) wd148 rfl rfl ?_
    refine o_iload_n dX3_addPerson_29 rfl rfl ?_
    refine o_callSNd (is := [10]) (put_f (by decide) ((upd_ne (by omega)).trans h1) (by omega)) ⟨rfl, rfl⟩ dX3_addPerson_30 wd314 csX4_put rfl ⟨(Nat.le_of_ble_eq_true rfl), (Nat.le_of_ble_eq_true rfl)⟩ rfl rfl rfl (Nat.le_of_ble_eq_true rfl) (Nat.le_of_ble_eq_true rfl) (Nat.le_of_ble_eq_true rfl) rfl ?_
    refine o_eqw (w2 := tW (upd (upd r (50 + 3 * N) a) (51 + 3 * N) b) ws fs) (by rw [tW_goal (by omega)]; rfl) ?_
    refine o_aload_n dX3_addPerson_33 rfl rfl ?_
    refine o_getf (j := 3) dX3_addPerson_34 rfl hcX3 inX3 (Nat.le_of_ble_eq_true rfl) wd146 rfl rfl ?_
    refine o_aload_n dX3_addPerson_37 rfl rfl ?_
    refine o_getf (j := 4) dX3_addPerson_38 rfl hcX3 inX3 (Nat.le_of_ble_eq_true rfl) wd148 rfl rfl ?_
    refine o_iload_n dX3_addPerson_41 rfl rfl ?_
    refine o_callSNd (is := [11]) (put_f (by decide) ((upd_ne (by omega)).trans ((upd_ne (by omega)).trans h1)) (by omega)) ⟨rfl, rfl⟩ dX3_addPerson_42 wd314 csX4_put rfl ⟨(Nat.le_of_ble_eq_true rfl), (Nat.le_of_ble_eq_true rfl)⟩ rfl rfl rfl (Nat.le_of_ble_eq_true rfl) (Nat.le_of_ble_eq_true rfl) (Nat.le_of_ble_eq_true rfl) rfl ?_
    refine o_eqw (w2 := tW (upd (upd (upd r (50 + 3 * N) a) (51 + 3 * N) b) (52 + 3 * N) c) ws fs) (by rw [tW_mood (by omega)]; rfl) ?_
    refine o_aload_n dX3_addPerson_45 rfl rfl ?_
    refine o_dup dX3_addPerson_46 rfl ?_
    refine o_getf (j := 4) dX3_addPerson_47 rfl hcX3 inX3 (Nat.le_of_ble_eq_true rfl) wd148 rfl rfl ?_
    refine o_iconst dX3_addPerson_50 ic_1 ?_
    refine o_iadd dX3_addPerson_51 ?_
    refine o_putf (j := 4) tyX3 dX3_addPerson_52 rfl hcX3 inX3 tyX3_ok nmX3 (Nat.le_of_ble_eq_true rfl) wd148 rfl rfl (fun _ => vp_nar_int _) (fun _ => rfl) (Nat.le_of_ble_eq_true rfl) rfl ?_
    refine o_eqw (w2 := tW (adP r N a b c) ws fs) (by rw [upd_ne (show (1 : Nat) ≠ 52 + 3 * N by omega), upd_ne (show (1 : Nat) ≠ 51 + 3 * N by omega), upd_ne (show (1 : Nat) ≠ 50 + 3 * N by omega), h1, nI_1]; exact tW_n) ?_
    refine o_vret dX3_addPerson_55 rfl (Nat.le_of_ble_eq_true rfl) (Nat.le_of_ble_eq_true rfl) ?_
    exact ⟨rfl, rfl⟩
theorem tX3_stay {r ws fs : Nat → Int32} {p : Nat} (hp : p < 7) : PD mX3_stay [.ref 0, .int (nI p)] (tW r ws fs) (none) (tW (upd r (51 + 3 * p) (r (50 + 3 * p))) ws fs) := by
  refine PM.ofp 0 (by decide) (Nat.le_of_ble_eq_true rfl) ?_
  show Ok mX3_stay none 0 [some (.ref 0), some (.int (nI p))] [] (tW r ws fs) 0 0 _
  refine o_aload_n dX3_stay_0 rfl rfl ?_
  refine o_getf (j := 2) dX3_stay_1 rfl hcX3 inX3 (Nat.le_of_ble_eq_true rfl) wd143 rfl rfl ?_
  refine o_iload_n dX3_stay_4 rfl rfl ?_
  refine o_aload_n dX3_stay_5 rfl rfl ?_
  refine o_getf (j := 1) dX3_stay_6 rfl hcX3 inX3 (Nat.le_of_ble_eq_true rfl) wd140 rfl rfl ?_
  refine o_iload_n dX3_stay_9 rfl rfl ?_
  refine o_callSNr (is := [9]) (at_p (by decide) hp) ⟨rfl, rfl⟩ dX3_stay_10 wd346 csX4_at rfl ⟨(Nat.le_of_ble_eq_true rfl), (Nat.le_of_ble_eq_true rfl)⟩ rfl rfl rfl (Nat.le_of_ble_eq_true rfl) (Nat.le_of_ble_eq_true rfl) (Nat.le_of_ble_eq_true rfl) ?_
  refine o_callSNd (is := [10]) (put_f (by decide) rfl hp) ⟨rfl, rfl⟩ dX3_stay_13 wd314 csX4_put rfl ⟨(Nat.le_of_ble_eq_true rfl), (Nat.le_of_ble_eq_true rfl)⟩ rfl rfl rfl (Nat.le_of_ble_eq_true rfl) (Nat.le_of_ble_eq_true rfl) (Nat.le_of_ble_eq_true rfl) rfl ?_
  refine o_vret dX3_stay_16 rfl (Nat.le_of_ble_eq_true rfl) (Nat.le_of_ble_eq_true rfl) ?_
  exact ⟨rfl, by rw [tW_goal hp]; rfl⟩
theorem lX3_homeBits {r ws fs : Nat → Int32} {N : Nat} (hN : N ≤ 7) (h1 : r 1 = nI N) : ∀ (q k : Nat), N - k < q → k ≤ N → Ok mX3_homeBits none 4 [some (.ref 0), some (.int (homeS r k)), some (.int (nI k))] [] (tW r ws fs) 0 0 (fun r2 w2 => r2 = some (.int (homeS r N)) ∧ w2 = tW r ws fs) := by
  intro q
  induction q with
  | zero => intro k hq hk; omega
  | succ q ih =>
  intro k hq hk
  refine o_iload_n dX3_homeBits_4 rfl rfl ?_
  refine o_aload_n dX3_homeBits_5 rfl rfl ?_
  refine o_getf (j := 4) dX3_homeBits_6 rfl hcX3 inX3 (Nat.le_of_ble_eq_true rfl) wd148 rfl rfl ?_
  refine o_icmp_ge (tgt := 32) dX3_homeBits_9 (by decide) (fun c_9 => ?_) (fun c_9 => ?_)
  · rw [h1] at c_9
    have hkN : k = N := Nat.le_antisymm hk (geI (by omega) (by omega) c_9)
    subst hkN
    refine o_iload_n dX3_homeBits_32 rfl rfl ?_
    refine o_iret dX3_homeBits_33 rfl (vp_nar_int _) (Nat.le_of_ble_eq_true rfl) (Nat.le_of_ble_eq_true rfl) ?_
    exact ⟨rfl, rfl⟩
  · rw [h1] at c_9
    have hkN : k < N := ltI (by omega) (by omega) c_9
    refine o_aload_n dX3_homeBits_12 rfl rfl ?_
    refine o_iload_n dX3_homeBits_13 rfl rfl ?_
    refine o_callVr (is := [0, 1, 2, 3, 4, 5, 6, 7, 8, 9, 10, 11]) (tX3_isHome (by omega)) ⟨rfl, rfl⟩ dX3_homeBits_14 wd365 cvX3_isHome rfl ⟨(Nat.le_of_ble_eq_true rfl), (Nat.le_of_ble_eq_true rfl)⟩ hcX3 rfl rfl rfl rfl (Nat.le_of_ble_eq_true rfl) (Nat.le_of_ble_eq_true rfl) (Nat.le_of_ble_eq_true rfl) ?_
    refine o_if_eq (tgt := 26) dX3_homeBits_17 (by decide) (fun c_17 => ?_) (fun c_17 => ?_)
    · skip
      refine o_inc_2 dX3_homeBits_26 rfl ic_1 (Nat.le_of_ble_eq_true rfl) ?_
      refine o_goto (tgt := 4) dX3_homeBits_29 (by decide) ?_
      exact o_eqa (by rw [nI_1, homeS, if_neg (by rw [bI_0] at c_17; simpa using c_17)]) rfl (ih (k + 1) (by omega) (by omega))
    · skip
      refine o_iload_n dX3_homeBits_20 rfl rfl ?_
      refine o_iconst dX3_homeBits_21 ic_1 ?_
      refine o_iload_n dX3_homeBits_22 rfl rfl ?_
      refine o_ishl dX3_homeBits_23 ?_
      refine o_ior dX3_homeBits_24 ?_
      refine o_istn_1 dX3_homeBits_25 rfl rfl (Nat.le_of_ble_eq_true rfl) ?_
      refine o_inc_2 dX3_homeBits_26 rfl ic_1 (Nat.le_of_ble_eq_true rfl) ?_
      refine o_goto (tgt := 4) dX3_homeBits_29 (by decide) ?_
      exact o_eqa (by rw [nI_1, homeS, if_pos (by rw [bI_0] at c_17; simpa using c_17)]) rfl (ih (k + 1) (by omega) (by omega))
theorem tX3_homeBits {r ws fs : Nat → Int32} {N : Nat} (hN : N ≤ 7) (h1 : r 1 = nI N) : PD mX3_homeBits [.ref 0] (tW r ws fs) (some (.int (homeS r N))) (tW r ws fs) := by
  refine PM.ofp 2 (by decide) (Nat.le_of_ble_eq_true rfl) ?_
  show Ok mX3_homeBits none 0 [some (.ref 0), none, none] [] (tW r ws fs) 0 0 _
  refine o_iconst dX3_homeBits_0 ic_0 ?_
  refine o_istn_1 dX3_homeBits_1 rfl rfl (Nat.le_of_ble_eq_true rfl) ?_
  refine o_iconst dX3_homeBits_2 ic_0 ?_
  refine o_istn_2 dX3_homeBits_3 rfl rfl (Nat.le_of_ble_eq_true rfl) ?_
  exact o_eqa (by rw [nI_0]; rfl) rfl (lX3_homeBits hN h1 (N + 1) 0 (by omega) (by omega))
theorem tX3_homeCount {r ws fs : Nat → Int32} {N : Nat} (hN : N ≤ 7) (h1 : r 1 = nI N) : PD mX3_homeCount [.ref 0] (tW r ws fs) (some (.int (bcF (homeS r N)))) (tW r ws fs) := by
  refine PM.ofp 0 (by decide) (Nat.le_of_ble_eq_true rfl) ?_
  show Ok mX3_homeCount none 0 [some (.ref 0)] [] (tW r ws fs) 0 0 _
  refine o_aload_n dX3_homeCount_0 rfl rfl ?_
  refine o_callVr (is := [0, 1, 2, 3, 4, 5, 6, 7, 8, 9, 10, 11]) (tX3_homeBits hN h1) ⟨rfl, rfl⟩ dX3_homeCount_1 wd429 cvX3_homeBits rfl ⟨(Nat.le_of_ble_eq_true rfl), (Nat.le_of_ble_eq_true rfl)⟩ hcX3 rfl rfl rfl rfl (Nat.le_of_ble_eq_true rfl) (Nat.le_of_ble_eq_true rfl) (Nat.le_of_ble_eq_true rfl) ?_
  refine o_callSr (is := []) (tJ6_bitCount_0f7a4) ⟨rfl, rfl⟩ dX3_homeCount_4 wd433 csJ6_bitCount_0f7a4 rfl ⟨(Nat.le_of_ble_eq_true rfl), (Nat.le_of_ble_eq_true rfl)⟩ rfl rfl rfl (Nat.le_of_ble_eq_true rfl) (Nat.le_of_ble_eq_true rfl) (Nat.le_of_ble_eq_true rfl) ?_
  refine o_iret dX3_homeCount_7 rfl (vp_nar_int _) (Nat.le_of_ble_eq_true rfl) (Nat.le_of_ble_eq_true rfl) ?_
  exact ⟨rfl, rfl⟩
theorem lX3_moods {r ws fs : Nat → Int32} {N : Nat} (hN : N ≤ 7) (h1 : r 1 = nI N) : ∀ (q k : Nat), N - k < q → k ≤ N → Ok mX3_moodsTogether none 4 [some (.ref 0), some (.int (moodS r k)), some (.int (nI k))] [] (tW r ws fs) 0 0 (fun r2 w2 => r2 = some (.int (moodS r N)) ∧ w2 = tW r ws fs) := by
  intro q
  induction q with
  | zero => intro k hq hk; omega
  | succ q ih =>
  intro k hq hk
  refine o_iload_n dX3_moodsTogether_4 rfl rfl ?_
  refine o_aload_n dX3_moodsTogether_5 rfl rfl ?_
  refine o_getf (j := 4) dX3_moodsTogether_6 rfl hcX3 inX3 (Nat.le_of_ble_eq_true rfl) wd148 rfl rfl ?_
  refine o_icmp_ge (tgt := 29) dX3_moodsTogether_9 (by decide) (fun c_9 => ?_) (fun c_9 => ?_)
  · rw [h1] at c_9
    have hkN : k = N := Nat.le_antisymm hk (geI (by omega) (by omega) c_9)
    subst hkN
    refine o_iload_n dX3_moodsTogether_29 rfl rfl ?_
    refine o_iret dX3_moodsTogether_30 rfl (vp_nar_int _) (Nat.le_of_ble_eq_true rfl) (Nat.le_of_ble_eq_true rfl) ?_
    exact ⟨rfl, rfl⟩
  · rw [h1] at c_9
    have hkN : k < N := ltI (by omega) (by omega) c_9
    refine o_iload_n dX3_moodsTogether_12 rfl rfl ?_
    refine o_aload_n dX3_moodsTogether_13 rfl rfl ?_
    refine o_getf (j := 3) dX3_moodsTogether_14 rfl hcX3 inX3 (Nat.le_of_ble_eq_true rfl) wd146 rfl rfl ?_
    refine o_iload_n dX3_moodsTogether_17 rfl rfl ?_
    refine o_callSNr (is := [11]) (at_p (by decide) (by omega)) ⟨rfl, rfl⟩ dX3_moodsTogether_18 wd346 csX4_at rfl ⟨(Nat.le_of_ble_eq_true rfl), (Nat.le_of_ble_eq_true rfl)⟩ rfl rfl rfl (Nat.le_of_ble_eq_true rfl) (Nat.le_of_ble_eq_true rfl) (Nat.le_of_ble_eq_true rfl) ?_
    refine o_iadd dX3_moodsTogether_21 ?_
    refine o_istn_1 dX3_moodsTogether_22 rfl rfl (Nat.le_of_ble_eq_true rfl) ?_
    refine o_inc_2 dX3_moodsTogether_23 rfl ic_1 (Nat.le_of_ble_eq_true rfl) ?_
    refine o_goto (tgt := 4) dX3_moodsTogether_26 (by decide) ?_
    exact o_eqa (by rw [nI_1, moodS]) rfl (ih (k + 1) (by omega) (by omega))
theorem tX3_moodsTogether {r ws fs : Nat → Int32} {N : Nat} (hN : N ≤ 7) (h1 : r 1 = nI N) : PD mX3_moodsTogether [.ref 0] (tW r ws fs) (some (.int (moodS r N))) (tW r ws fs) := by
  refine PM.ofp 2 (by decide) (Nat.le_of_ble_eq_true rfl) ?_
  show Ok mX3_moodsTogether none 0 [some (.ref 0), none, none] [] (tW r ws fs) 0 0 _
  refine o_iconst dX3_moodsTogether_0 ic_0 ?_
  refine o_istn_1 dX3_moodsTogether_1 rfl rfl (Nat.le_of_ble_eq_true rfl) ?_
  refine o_iconst dX3_moodsTogether_2 ic_0 ?_
  refine o_istn_2 dX3_moodsTogether_3 rfl rfl (Nat.le_of_ble_eq_true rfl) ?_
  exact o_eqa (by rw [nI_0]; rfl) rfl (lX3_moods hN h1 (N + 1) 0 (by omega) (by omega))
theorem tX3_countIn {r ws fs : Nat → Int32} {N : Nat} {x : Int32} (hN : N ≤ 7) (h1 : r 1 = nI N) : PD mX3_countIn [.ref 0, .int x] (tW r ws fs) (some (.int (bcF (bitsS (rmO r) x N)))) (tW r ws fs) := by
  refine PM.ofp 0 (by decide) (Nat.le_of_ble_eq_true rfl) ?_
  show Ok mX3_countIn none 0 [some (.ref 0), some (.int x)] [] (tW r ws fs) 0 0 _
  refine o_aload_n dX3_countIn_0 rfl rfl ?_
  refine o_getf (j := 1) dX3_countIn_1 rfl hcX3 inX3 (Nat.le_of_ble_eq_true rfl) wd140 rfl rfl ?_
  refine o_aload_n dX3_countIn_4 rfl rfl ?_
  skip
  refine o_getf (j := 4) dX3_countIn_5 rfl hcX3 inX3 (Nat.le_of_ble_eq_true rfl) wd148 rfl rfl ?_
  refine o_eqs (by rw [h1]) ?_
  refine o_iload_n dX3_countIn_8 rfl rfl ?_
  refine o_callSNr (is := [9]) (tX4_bitsOf (by decide) hN) ⟨rfl, rfl⟩ dX3_countIn_9 wd556 csX4_bitsOf rfl ⟨(Nat.le_of_ble_eq_true rfl), (Nat.le_of_ble_eq_true rfl)⟩ rfl rfl rfl (Nat.le_of_ble_eq_true rfl) (Nat.le_of_ble_eq_true rfl) (Nat.le_of_ble_eq_true rfl) ?_
  refine o_callSr (is := []) (tJ6_bitCount_0f7a4) ⟨rfl, rfl⟩ dX3_countIn_12 wd433 csJ6_bitCount_0f7a4 rfl ⟨(Nat.le_of_ble_eq_true rfl), (Nat.le_of_ble_eq_true rfl)⟩ rfl rfl rfl (Nat.le_of_ble_eq_true rfl) (Nat.le_of_ble_eq_true rfl) (Nat.le_of_ble_eq_true rfl) ?_
  refine o_iret dX3_countIn_15 rfl (vp_nar_int _) (Nat.le_of_ble_eq_true rfl) (Nat.le_of_ble_eq_true rfl) ?_
  exact ⟨rfl, rfl⟩
