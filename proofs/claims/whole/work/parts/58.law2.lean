theorem law_loop {nm : String} {L k n : Nat} {xs : Nat → Int32} (hL : L ≤ 3072) (hk : k ≤ 600000) (hn : n ≤ 7302250) : ∀ (q i : Nat) (σ : St) (m mw mf ga m2 wa fr : Nat → Int32) (pl : Int32) (nu : Nat → Int32) (sd : Int32), L - i < q → i ≤ L → Inv σ → Ok (mLw nm) (some (L, xs)) 18 [some (.ref 999), some (.ref 0), some (.ref 44), some (.int (nI i))] [] (lwW σ m mw mf ga σ m2 wa fr pl nu sd) k n (fun a _ => a = some (.int 1)) := by
  intro q
  induction q with
  | zero => intro i σ m mw mf ga m2 wa fr pl nu sd hq; omega
  | succ q ih =>
  intro i σ m mw mf ga m2 wa fr pl nu sd hq hi hσ
  refine o_iload_n dL_law_18 rfl rfl ?_
  refine o_aload_n dL_law_19 rfl rfl ?_
  refine o_slen dL_law_20 rfl ?_
  refine o_bipush dL_law_21 bp_6 ?_
  refine o_isub dL_law_23 ?_
  refine o_icmp_gt (tgt := 1306) dL_law_24 (by decide) (fun c => ?_) (fun c => ?_)
  · refine o_iconst dL_law_1306 ic_1 ?_
    exact o_iret dL_law_1307 rfl (by first | exact nz_b true | decide) hk hn rfl
  · have h6 : i + 6 ≤ L := lw6 (by omega) hL c
    have hN : ∀ (τ : St) (m mw mf ga m2 wa fr : Nat → Int32) (pl : Int32) (nu : Nat → Int32) (sd : Int32), Inv τ → Ok (mLw nm) (some (L, xs)) 1300 [some (.ref 999), some (.ref 0), some (.ref 44), some (.int (nI i))] [] (lwW τ m mw mf ga τ m2 wa fr pl nu sd) k n (fun a _ => a = some (.int 1)) := fun τ m mw mf ga m2 wa fr pl nu sd hτ => by
      refine o_inc_3 dL_law_1300 rfl ic_6 (Nat.le_of_ble_eq_true rfl) ?_
      refine o_goto (tgt := 18) dL_law_1303 (by decide) ?_
      exact o_eql (by rw [show (6 : Int32) = nI 6 from rfl, nI_add]) (ih (i + 6) τ m mw mf ga m2 wa fr pl nu sd (by omega) (by omega) hτ)
    refine o_aload_n dL_law_27 rfl rfl ?_
    refine o_iload_n dL_law_28 rfl rfl ?_
    refine o_sld dL_law_29 rfl (vp_in_nI (by omega) (by omega)) ?_
    refine o_bipush dL_law_30 bp_63 ?_
    refine o_iand dL_law_32 ?_
    refine o_sw (lo := 0) (hi := 39) 40 (by decide) (by decide) (by decide) (fun hsw => ?_) (fun j hj hsw => ?_)
    · refine o_tabOut (tgt := 1300) dL_law_33 hsw (by decide) ?_
      exact hN σ m mw mf ga m2 wa fr pl nu sd hσ
    · match j, hj, hsw with
      | 0, _, hsw =>
        refine o_tabInE (tgt := 208) (off := 175) dL_law_33 hsw (by decide) (by decide) (by decide) (by decide) ?_
        exact lwc_0 hk hn h6 hL hσ hN
      | 1, _, hsw =>
        refine o_tabInE (tgt := 231) (off := 198) dL_law_33 hsw (by decide) (by decide) (by decide) (by decide) ?_
        exact lwc_1 hk hn h6 hL hσ hN
      | 2, _, hsw =>
        refine o_tabInE (tgt := 244) (off := 211) dL_law_33 hsw (by decide) (by decide) (by decide) (by decide) ?_
        exact lwc_2 hk hn h6 hL hσ hN
      | 3, _, hsw =>
        refine o_tabInE (tgt := 277) (off := 244) dL_law_33 hsw (by decide) (by decide) (by decide) (by decide) ?_
        exact lwc_3 hk hn h6 hL hσ hN
      | 4, _, hsw =>
        refine o_tabInE (tgt := 310) (off := 277) dL_law_33 hsw (by decide) (by decide) (by decide) (by decide) ?_
        exact lwc_4 hk hn h6 hL hσ hN
      | 5, _, hsw =>
        refine o_tabInE (tgt := 333) (off := 300) dL_law_33 hsw (by decide) (by decide) (by decide) (by decide) ?_
        exact lwc_5 hk hn h6 hL hσ hN
      | 6, _, hsw =>
        refine o_tabInE (tgt := 356) (off := 323) dL_law_33 hsw (by decide) (by decide) (by decide) (by decide) ?_
        exact lwc_6 hk hn h6 hL hσ hN
      | 7, _, hsw =>
        refine o_tabInE (tgt := 389) (off := 356) dL_law_33 hsw (by decide) (by decide) (by decide) (by decide) ?_
        exact lwc_7 hk hn h6 hL hσ hN
      | 8, _, hsw =>
        refine o_tabInE (tgt := 422) (off := 389) dL_law_33 hsw (by decide) (by decide) (by decide) (by decide) ?_
        exact lwc_8 hk hn h6 hL hσ hN
      | 9, _, hsw =>
        refine o_tabInE (tgt := 455) (off := 422) dL_law_33 hsw (by decide) (by decide) (by decide) (by decide) ?_
        exact lwc_9 hk hn h6 hL hσ hN
      | 10, _, hsw =>
        refine o_tabInE (tgt := 498) (off := 465) dL_law_33 hsw (by decide) (by decide) (by decide) (by decide) ?_
        exact lwc_10 hk hn h6 hL hσ hN
      | 11, _, hsw =>
        refine o_tabInE (tgt := 521) (off := 488) dL_law_33 hsw (by decide) (by decide) (by decide) (by decide) ?_
        exact lwc_11 hk hn h6 hL hσ hN
      | 12, _, hsw =>
        refine o_tabInE (tgt := 564) (off := 531) dL_law_33 hsw (by decide) (by decide) (by decide) (by decide) ?_
        exact lwc_12 hk hn h6 hL hσ hN
      | 13, _, hsw =>
        refine o_tabInE (tgt := 587) (off := 554) dL_law_33 hsw (by decide) (by decide) (by decide) (by decide) ?_
        exact lwc_13 hk hn h6 hL hσ hN
      | 14, _, hsw =>
        refine o_tabInE (tgt := 620) (off := 587) dL_law_33 hsw (by decide) (by decide) (by decide) (by decide) ?_
        exact lwc_14 hk hn h6 hL hσ hN
      | 15, _, hsw =>
        refine o_tabInE (tgt := 643) (off := 610) dL_law_33 hsw (by decide) (by decide) (by decide) (by decide) ?_
        exact lwc_15 hk hn h6 hL hσ hN
      | 16, _, hsw =>
        refine o_tabInE (tgt := 656) (off := 623) dL_law_33 hsw (by decide) (by decide) (by decide) (by decide) ?_
        exact lwc_16 hk hn h6 hL hσ hN
      | 17, _, hsw =>
        refine o_tabInE (tgt := 669) (off := 636) dL_law_33 hsw (by decide) (by decide) (by decide) (by decide) ?_
        exact lwc_17 hk hn h6 hL hσ hN
      | 18, _, hsw =>
        refine o_tabInE (tgt := 712) (off := 679) dL_law_33 hsw (by decide) (by decide) (by decide) (by decide) ?_
        exact lwc_18 hk hn h6 hL hσ hN
      | 19, _, hsw =>
        refine o_tabInE (tgt := 735) (off := 702) dL_law_33 hsw (by decide) (by decide) (by decide) (by decide) ?_
        exact lwc_19 hk hn h6 hL hσ hN
      | 20, _, hsw =>
        refine o_tabInE (tgt := 758) (off := 725) dL_law_33 hsw (by decide) (by decide) (by decide) (by decide) ?_
        exact lwc_20 hk hn h6 hL hσ hN
      | 21, _, hsw =>
        refine o_tabInE (tgt := 771) (off := 738) dL_law_33 hsw (by decide) (by decide) (by decide) (by decide) ?_
        exact lwc_21 hk hn h6 hL hσ hN
      | 22, _, hsw =>
        refine o_tabInE (tgt := 804) (off := 771) dL_law_33 hsw (by decide) (by decide) (by decide) (by decide) ?_
        exact lwc_22 hk hn h6 hL hσ hN
      | 23, _, hsw =>
        refine o_tabInE (tgt := 837) (off := 804) dL_law_33 hsw (by decide) (by decide) (by decide) (by decide) ?_
        exact lwc_23 hk hn h6 hL hσ hN
      | 24, _, hsw =>
        refine o_tabInE (tgt := 860) (off := 827) dL_law_33 hsw (by decide) (by decide) (by decide) (by decide) ?_
        exact lwc_24 hk hn h6 hL hσ hN
      | 25, _, hsw =>
        refine o_tabInE (tgt := 883) (off := 850) dL_law_33 hsw (by decide) (by decide) (by decide) (by decide) ?_
        exact lwc_25 hk hn h6 hL hσ hN
      | 26, _, hsw =>
        refine o_tabInE (tgt := 916) (off := 883) dL_law_33 hsw (by decide) (by decide) (by decide) (by decide) ?_
        exact lwc_26 hk hn h6 hL hσ hN
      | 27, _, hsw =>
        refine o_tabInE (tgt := 939) (off := 906) dL_law_33 hsw (by decide) (by decide) (by decide) (by decide) ?_
        exact lwc_27 hk hn h6 hL hσ hN
      | 28, _, hsw =>
        refine o_tabInE (tgt := 962) (off := 929) dL_law_33 hsw (by decide) (by decide) (by decide) (by decide) ?_
        exact lwc_28 hk hn h6 hL hσ hN
      | 29, _, hsw =>
        refine o_tabInE (tgt := 985) (off := 952) dL_law_33 hsw (by decide) (by decide) (by decide) (by decide) ?_
        exact lwc_29 hk hn h6 hL hσ hN
      | 30, _, hsw =>
        refine o_tabInE (tgt := 1028) (off := 995) dL_law_33 hsw (by decide) (by decide) (by decide) (by decide) ?_
        exact lwc_30 hk hn h6 hL hσ hN
      | 31, _, hsw =>
        refine o_tabInE (tgt := 1092) (off := 1059) dL_law_33 hsw (by decide) (by decide) (by decide) (by decide) ?_
        exact lwc_31 hk hn h6 hL hσ hN
      | 32, _, hsw =>
        refine o_tabInE (tgt := 1116) (off := 1083) dL_law_33 hsw (by decide) (by decide) (by decide) (by decide) ?_
        exact lwc_32 hk hn h6 hL hσ hN
      | 33, _, hsw =>
        refine o_tabInE (tgt := 1159) (off := 1126) dL_law_33 hsw (by decide) (by decide) (by decide) (by decide) ?_
        exact lwc_33 hk hn h6 hL hσ hN
      | 34, _, hsw =>
        refine o_tabInE (tgt := 1182) (off := 1149) dL_law_33 hsw (by decide) (by decide) (by decide) (by decide) ?_
        exact lwc_34 hk hn h6 hL hσ hN
      | 35, _, hsw =>
        refine o_tabInE (tgt := 1195) (off := 1162) dL_law_33 hsw (by decide) (by decide) (by decide) (by decide) ?_
        exact lwc_35 hk hn h6 hL hσ hN
      | 36, _, hsw =>
        refine o_tabInE (tgt := 1208) (off := 1175) dL_law_33 hsw (by decide) (by decide) (by decide) (by decide) ?_
        exact lwc_36 hk hn h6 hL hσ hN
      | 37, _, hsw =>
        refine o_tabInE (tgt := 1251) (off := 1218) dL_law_33 hsw (by decide) (by decide) (by decide) (by decide) ?_
        exact lwc_37 hk hn h6 hL hσ hN
      | 38, _, hsw =>
        refine o_tabInE (tgt := 1264) (off := 1231) dL_law_33 hsw (by decide) (by decide) (by decide) (by decide) ?_
        exact lwc_38 hk hn h6 hL hσ hN
      | 39, _, hsw =>
        refine o_tabInE (tgt := 1277) (off := 1244) dL_law_33 hsw (by decide) (by decide) (by decide) (by decide) ?_
        exact lwc_39 hk hn h6 hL hσ hN
      | j + 40, hj, _ => exact absurd hj (by omega)
theorem law_all {nm : String} {L : Nat} {xs : Nat → Int32} (hL : L ≤ 3072) : Ok (mLw nm) (some (L, xs)) 0 [some (.ref 999), none, none, none] [] [] 0 0 (fun a _ => a = some (.int 1)) := by
  refine o_new (fs := [.null, .null, .null, .int 0, .null, .null, .null, .null]) tyX4 dL_law_0 hcX4 inX4 tyX4_ok wd64 wd65 wd55 dfX4 (fun _ => rfl) (fun _ => rfl) (Nat.le_of_ble_eq_true rfl) (Nat.le_of_ble_eq_true rfl) (Nat.le_of_ble_eq_true rfl) rfl rfl rfl ?_
  refine o_dup dL_law_3 rfl ?_
  refine o_ctor (w0 := []) (w2 := [.inr (4, [.ref 1, .ref 13, .ref 25, .int 0, .ref 37, .ref 40, .ref 42, .ref 43]), .inr (3, [.ref 2, .ref 10, .ref 11, .ref 12, .int (z0 1), .int (z0 2), .int (z0 3)]), .inr (0, [.ref 3, .ref 4, .ref 5, .ref 6, .ref 7, .ref 8, .ref 9, .int (z0 0)]), .inl (9, kdO z0), .inl (9, fgO z0), .inl (9, frO z0), .inl (9, inO z0), .inl (9, wdO z0), .inl (64, wsO z0), .inl (64, fsO z0), .inl (7, rmO z0), .inl (7, glO z0), .inl (7, mdO z0), .inr (3, [.ref 14, .ref 22, .ref 23, .ref 24, .int (z0 1), .int (z0 2), .int (z0 3)]), .inr (0, [.ref 15, .ref 16, .ref 17, .ref 18, .ref 19, .ref 20, .ref 21, .int (z0 0)]), .inl (9, kdO z0), .inl (9, fgO z0), .inl (9, frO z0), .inl (9, inO z0), .inl (9, wdO z0), .inl (64, wsO z0), .inl (64, fsO z0), .inl (7, rmO z0), .inl (7, glO z0), .inl (7, mdO z0), .inr (3, [.ref 26, .ref 34, .ref 35, .ref 36, .int (z0 1), .int (z0 2), .int (z0 3)]), .inr (0, [.ref 27, .ref 28, .ref 29, .ref 30, .ref 31, .ref 32, .ref 33, .int (z0 0)]), .inl (9, kdO z0), .inl (9, fgO z0), .inl (9, frO z0), .inl (9, inO z0), .inl (9, wdO z0), .inl (64, wsO z0), .inl (64, fsO z0), .inl (7, rmO z0), .inl (7, glO z0), .inl (7, mdO z0), .inr (1, [.ref 38]), .inr (2, [.ref 39, .int 0]), .inl (96, z0), .inr (2, [.ref 41, .int 0]), .inl (16, z0), .inl (7, z0), .inl (8, z0)]) tX4_init dL_law_4 wd66 ciX4_init rfl ⟨(Nat.le_of_ble_eq_true rfl), (Nat.le_of_ble_eq_true rfl)⟩ rfl (fun _ => rfl) (fun _ => rfl) (Nat.le_of_ble_eq_true rfl) (Nat.le_of_ble_eq_true rfl) (Nat.le_of_ble_eq_true rfl) (show ¬ (600000 : Nat) = 0 by decide) (Nat.le_of_ble_eq_true rfl) (Nat.le_of_ble_eq_true rfl) rfl rfl rfl rfl rfl ?_
  refine o_astn_1 dL_law_7 rfl rfl (Nat.le_of_ble_eq_true rfl) ?_
  refine o_new (fs := [.null, .null, .null, .null, .null, .int 0, .null, .null, .null, .int 0, .int 0, .int 0, .null, .int 0]) tyX5 dL_law_8 hcX5 inX5 tyX5_ok wd680 wd681 wd61 dfX5 (fun _ => rfl) (fun _ => rfl) (Nat.le_of_ble_eq_true rfl) (Nat.le_of_ble_eq_true rfl) (Nat.le_of_ble_eq_true rfl) rfl rfl rfl ?_
  refine o_dup dL_law_11 rfl ?_
  refine o_ctor (w2 := [.inr (4, [.ref 1, .ref 13, .ref 25, .int 0, .ref 37, .ref 40, .ref 42, .ref 43]), .inr (3, [.ref 2, .ref 10, .ref 11, .ref 12, .int (z0 1), .int (z0 2), .int (z0 3)]), .inr (0, [.ref 3, .ref 4, .ref 5, .ref 6, .ref 7, .ref 8, .ref 9, .int (z0 0)]), .inl (9, kdO z0), .inl (9, fgO z0), .inl (9, frO z0), .inl (9, inO z0), .inl (9, wdO z0), .inl (64, wsO z0), .inl (64, fsO z0), .inl (7, rmO z0), .inl (7, glO z0), .inl (7, mdO z0), .inr (3, [.ref 14, .ref 22, .ref 23, .ref 24, .int (z0 1), .int (z0 2), .int (z0 3)]), .inr (0, [.ref 15, .ref 16, .ref 17, .ref 18, .ref 19, .ref 20, .ref 21, .int (z0 0)]), .inl (9, kdO z0), .inl (9, fgO z0), .inl (9, frO z0), .inl (9, inO z0), .inl (9, wdO z0), .inl (64, wsO z0), .inl (64, fsO z0), .inl (7, rmO z0), .inl (7, glO z0), .inl (7, mdO z0), .inr (3, [.ref 26, .ref 34, .ref 35, .ref 36, .int (z0 1), .int (z0 2), .int (z0 3)]), .inr (0, [.ref 27, .ref 28, .ref 29, .ref 30, .ref 31, .ref 32, .ref 33, .int (z0 0)]), .inl (9, kdO z0), .inl (9, fgO z0), .inl (9, frO z0), .inl (9, inO z0), .inl (9, wdO z0), .inl (64, wsO z0), .inl (64, fsO z0), .inl (7, rmO z0), .inl (7, glO z0), .inl (7, mdO z0), .inr (1, [.ref 38]), .inr (2, [.ref 39, .int 0]), .inl (96, z0), .inr (2, [.ref 41, .int 0]), .inl (16, z0), .inl (7, z0), .inl (8, z0), .inr (5, [.ref 45, .ref 46, .ref 47, .ref 48, .ref 49, .int 0, .ref 50, .ref 51, .ref 52, .int 0, .int 0, .int 0, .ref 53, .int 0]), .inl (71, z0), .inl (71, z0), .inl (71, z0), .inl (71, z0), .inl (64, z0), .inl (96, z0), .inl (16, z0), .inl (7, z0), .inl (4, z0)]) tX5_init dL_law_12 wd682 ciX5_init rfl ⟨(Nat.le_of_ble_eq_true rfl), (Nat.le_of_ble_eq_true rfl)⟩ rfl (fun _ => rfl) (fun _ => rfl) (Nat.le_of_ble_eq_true rfl) (Nat.le_of_ble_eq_true rfl) (Nat.le_of_ble_eq_true rfl) (show ¬ (600000 : Nat) = 0 by decide) (Nat.le_of_ble_eq_true rfl) (Nat.le_of_ble_eq_true rfl) rfl rfl rfl rfl rfl ?_
  refine o_astn_2 dL_law_15 rfl rfl (Nat.le_of_ble_eq_true rfl) ?_
  refine o_iconst dL_law_16 ic_0 ?_
  refine o_istn_3 dL_law_17 rfl rfl (Nat.le_of_ble_eq_true rfl) ?_
  exact o_eqa (w2 := lwW (z0, z0, 0, z0, 0, z0, 0, z0) z0 (wsO z0) (fsO z0) z0 (z0, z0, 0, z0, 0, z0, 0, z0) z0 z0 z0 0 z0 0) rfl rfl (law_loop hL (Nat.le_of_ble_eq_true rfl) (Nat.le_of_ble_eq_true rfl) (L + 1) 0 (z0, z0, 0, z0, 0, z0, 0, z0) _ _ _ _ _ _ _ _ _ _ (by omega) (by omega) Inv_z)
