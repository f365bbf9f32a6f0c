abbrev z0 : Nat → Int32 := fun _ => 0
theorem prj_z {b s n : Nat} : prj b s n z0 = z0 := by
  funext d
  unfold prj
  split <;> rfl
theorem tW_z {ws fs : Nat → Int32} : tW z0 ws fs = tG z0 z0 z0 z0 z0 ws fs z0 z0 z0 0 0 0 0 := by
  show tG (prj 5 5 9 z0) (prj 6 5 9 z0) (prj 7 5 9 z0) (prj 8 5 9 z0) (prj 9 5 9 z0) ws fs (prj 50 3 7 z0) (prj 51 3 7 z0) (prj 52 3 7 z0) 0 0 0 0 = _
  simp only [prj_z]
theorem ciX0_init : CI0 mX0_init 0 := ⟨wd81, wd57, wd82, by decide +kernel, rfl, rfl⟩
theorem ciX1_init : CI0 mX1_init 0 := ⟨wd174, wd58, wd175, by decide +kernel, rfl, rfl⟩
theorem ciX2_init : CI0 mX2_init 1 := ⟨wd180, wd59, wd181, by decide +kernel, rfl, rfl⟩
theorem ciX3_init : CI0 mX3_init 0 := ⟨wd75, wd56, wd76, by decide +kernel, rfl, rfl⟩
theorem ciX4_init : CI0 mX4_init 0 := ⟨wd67, wd55, wd68, by decide +kernel, rfl, rfl⟩
theorem ciX5_init : CI0 mX5_init 0 := ⟨wd683, wd61, wd684, by decide +kernel, rfl, rfl⟩
theorem dfX0 : ∀ j, j < 8 → defaultValue (tyX0 j) = vp_V [.null, .null, .null, .null, .null, .null, .null, .int 0] j := fun j hj => by
  match j, hj with
  | 0, _ => rfl
  | 1, _ => rfl
  | 2, _ => rfl
  | 3, _ => rfl
  | 4, _ => rfl
  | 5, _ => rfl
  | 6, _ => rfl
  | 7, _ => rfl
  | j + 8, hj => omega
theorem dfX1 : ∀ j, j < 1 → defaultValue (tyX1 j) = vp_V [.null] j := fun j hj => by
  match j, hj with
  | 0, _ => rfl
  | j + 1, hj => omega
theorem dfX2 : ∀ j, j < 2 → defaultValue (tyX2 j) = vp_V [.null, .int 0] j := fun j hj => by
  match j, hj with
  | 0, _ => rfl
  | 1, _ => rfl
  | j + 2, hj => omega
theorem dfX3 : ∀ j, j < 7 → defaultValue (tyX3 j) = vp_V [.null, .null, .null, .null, .int 0, .int 0, .int 0] j := fun j hj => by
  match j, hj with
  | 0, _ => rfl
  | 1, _ => rfl
  | 2, _ => rfl
  | 3, _ => rfl
  | 4, _ => rfl
  | 5, _ => rfl
  | 6, _ => rfl
  | j + 7, hj => omega
theorem dfX4 : ∀ j, j < 8 → defaultValue (tyX4 j) = vp_V [.null, .null, .null, .int 0, .null, .null, .null, .null] j := fun j hj => by
  match j, hj with
  | 0, _ => rfl
  | 1, _ => rfl
  | 2, _ => rfl
  | 3, _ => rfl
  | 4, _ => rfl
  | 5, _ => rfl
  | 6, _ => rfl
  | 7, _ => rfl
  | j + 8, hj => omega
theorem dfX5 : ∀ j, j < 14 → defaultValue (tyX5 j) = vp_V [.null, .null, .null, .null, .null, .int 0, .null, .null, .null, .int 0, .int 0, .int 0, .null, .int 0] j := fun j hj => by
  match j, hj with
  | 0, _ => rfl
  | 1, _ => rfl
  | 2, _ => rfl
  | 3, _ => rfl
  | 4, _ => rfl
  | 5, _ => rfl
  | 6, _ => rfl
  | 7, _ => rfl
  | 8, _ => rfl
  | 9, _ => rfl
  | 10, _ => rfl
  | 11, _ => rfl
  | 12, _ => rfl
  | 13, _ => rfl
  | j + 14, hj => omega
theorem mx0h {N : Nat} (h : N ≤ 96) : (if (0 : Int32) < nI N then nI N else 0) = nI N := by
  by_cases c : (0 : Int32) < nI N
  · rw [if_pos c]
  · rw [if_neg c]
    match N, h, c with
    | 0, _, _ => rfl
    | N + 1, h, c => exact absurd ((nI_ltI (a := 0) (by omega) (by omega)).mpr (by omega)) c
theorem tX0_init  : PD mX0_init [.ref 0] [.inr (0, [.null, .null, .null, .null, .null, .null, .null, .int 0])] none (dG z0 z0 z0 z0 z0 (wsO z0) (fsO z0) 0) := by
  refine PM.ofp 0 (by decide) (Nat.le_of_ble_eq_true rfl) ?_
  show Ok mX0_init none 0 [some (.ref 0)] [] [.inr (0, [.null, .null, .null, .null, .null, .null, .null, .int 0])] 0 0 _
  refine o_aload_n dX0_init_0 rfl rfl ?_
  refine o_objInit dX0_init_1 wd83 wd70 wd71 (Nat.le_of_ble_eq_true rfl) (Nat.le_of_ble_eq_true rfl) ?_
  refine o_aload_n dX0_init_4 rfl rfl ?_
  refine o_bipush dX0_init_5 bp_9 ?_
  refine o_newa (N := 9) dX0_init_7 rfl (Nat.le_of_ble_eq_true rfl) (Nat.le_of_ble_eq_true rfl) (Nat.le_of_ble_eq_true rfl) (Nat.le_of_ble_eq_true rfl) rfl rfl rfl ?_
  refine o_eqw (w2 := [.inr (0, [.null, .null, .null, .null, .null, .null, .null, .int 0]), .inl (9, z0)]) rfl ?_
  refine o_putF (j := 0) tyX0 dX0_init_9 rfl hcX0 inX0 tyX0_ok nmX0 (Nat.le_of_ble_eq_true rfl) wd102 rfl rfl rfl rfl (fun _ => rfl) (fun _ => rfl) (Nat.le_of_ble_eq_true rfl) rfl ?_
  refine o_eqw (w2 := [.inr (0, [.ref 1, .null, .null, .null, .null, .null, .null, .int 0]), .inl (9, z0)]) rfl ?_
  refine o_aload_n dX0_init_12 rfl rfl ?_
  refine o_bipush dX0_init_13 bp_9 ?_
  refine o_newa (N := 9) dX0_init_15 rfl (Nat.le_of_ble_eq_true rfl) (Nat.le_of_ble_eq_true rfl) (Nat.le_of_ble_eq_true rfl) (Nat.le_of_ble_eq_true rfl) rfl rfl rfl ?_
  refine o_eqw (w2 := [.inr (0, [.ref 1, .null, .null, .null, .null, .null, .null, .int 0]), .inl (9, z0), .inl (9, z0)]) rfl ?_
  refine o_putF (j := 1) tyX0 dX0_init_17 rfl hcX0 inX0 tyX0_ok nmX0 (Nat.le_of_ble_eq_true rfl) wd104 rfl rfl rfl rfl (fun _ => rfl) (fun _ => rfl) (Nat.le_of_ble_eq_true rfl) rfl ?_
  refine o_eqw (w2 := [.inr (0, [.ref 1, .ref 2, .null, .null, .null, .null, .null, .int 0]), .inl (9, z0), .inl (9, z0)]) rfl ?_
  refine o_aload_n dX0_init_20 rfl rfl ?_
  refine o_bipush dX0_init_21 bp_9 ?_
  refine o_newa (N := 9) dX0_init_23 rfl (Nat.le_of_ble_eq_true rfl) (Nat.le_of_ble_eq_true rfl) (Nat.le_of_ble_eq_true rfl) (Nat.le_of_ble_eq_true rfl) rfl rfl rfl ?_
  refine o_eqw (w2 := [.inr (0, [.ref 1, .ref 2, .null, .null, .null, .null, .null, .int 0]), .inl (9, z0), .inl (9, z0), .inl (9, z0)]) rfl ?_
  refine o_putF (j := 2) tyX0 dX0_init_25 rfl hcX0 inX0 tyX0_ok nmX0 (Nat.le_of_ble_eq_true rfl) wd106 rfl rfl rfl rfl (fun _ => rfl) (fun _ => rfl) (Nat.le_of_ble_eq_true rfl) rfl ?_
  refine o_eqw (w2 := [.inr (0, [.ref 1, .ref 2, .ref 3, .null, .null, .null, .null, .int 0]), .inl (9, z0), .inl (9, z0), .inl (9, z0)]) rfl ?_
  refine o_aload_n dX0_init_28 rfl rfl ?_
  refine o_bipush dX0_init_29 bp_9 ?_
  refine o_newa (N := 9) dX0_init_31 rfl (Nat.le_of_ble_eq_true rfl) (Nat.le_of_ble_eq_true rfl) (Nat.le_of_ble_eq_true rfl) (Nat.le_of_ble_eq_true rfl) rfl rfl rfl ?_
  refine o_eqw (w2 := [.inr (0, [.ref 1, .ref 2, .ref 3, .null, .null, .null, .null, .int 0]), .inl (9, z0), .inl (9, z0), .inl (9, z0), .inl (9, z0)]) rfl ?_
  refine o_putF (j := 3) tyX0 dX0_init_33 rfl hcX0 inX0 tyX0_ok nmX0 (Nat.le_of_ble_eq_true rfl) wd108 rfl rfl rfl rfl (fun _ => rfl) (fun _ => rfl) (Nat.le_of_ble_eq_true rfl) rfl ?_
  refine o_eqw (w2 := [.inr (0, [.ref 1, .ref 2, .ref 3, .ref 4, .null, .null, .null, .int 0]), .inl (9, z0), .inl (9, z0), .inl (9, z0), .inl (9, z0)]) rfl ?_
  refine o_aload_n dX0_init_36 rfl rfl ?_
  refine o_bipush dX0_init_37 bp_9 ?_
  refine o_newa (N := 9) dX0_init_39 rfl (Nat.le_of_ble_eq_true rfl) (Nat.le_of_ble_eq_true rfl) (Nat.le_of_ble_eq_true rfl) (Nat.le_of_ble_eq_true rfl) rfl rfl rfl ?_
  refine o_eqw (w2 := [.inr (0, [.ref 1, .ref 2, .ref 3, .ref 4, .null, .null, .null, .int 0]), .inl (9, z0), .inl (9, z0), .inl (9, z0), .inl (9, z0), .inl (9, z0)]) rfl ?_
  refine o_putF (j := 4) tyX0 dX0_init_41 rfl hcX0 inX0 tyX0_ok nmX0 (Nat.le_of_ble_eq_true rfl) wd111 rfl rfl rfl rfl (fun _ => rfl) (fun _ => rfl) (Nat.le_of_ble_eq_true rfl) rfl ?_
  refine o_eqw (w2 := [.inr (0, [.ref 1, .ref 2, .ref 3, .ref 4, .ref 5, .null, .null, .int 0]), .inl (9, z0), .inl (9, z0), .inl (9, z0), .inl (9, z0), .inl (9, z0)]) rfl ?_
  refine o_aload_n dX0_init_44 rfl rfl ?_
  refine o_bipush dX0_init_45 bp_64 ?_
  refine o_newa (N := 64) dX0_init_47 rfl (Nat.le_of_ble_eq_true rfl) (Nat.le_of_ble_eq_true rfl) (Nat.le_of_ble_eq_true rfl) (Nat.le_of_ble_eq_true rfl) rfl rfl rfl ?_
  refine o_eqw (w2 := [.inr (0, [.ref 1, .ref 2, .ref 3, .ref 4, .ref 5, .null, .null, .int 0]), .inl (9, z0), .inl (9, z0), .inl (9, z0), .inl (9, z0), .inl (9, z0), .inl (64, z0)]) rfl ?_
  refine o_putF (j := 5) tyX0 dX0_init_49 rfl hcX0 inX0 tyX0_ok nmX0 (Nat.le_of_ble_eq_true rfl) wd114 rfl rfl rfl rfl (fun _ => rfl) (fun _ => rfl) (Nat.le_of_ble_eq_true rfl) rfl ?_
  refine o_eqw (w2 := [.inr (0, [.ref 1, .ref 2, .ref 3, .ref 4, .ref 5, .ref 6, .null, .int 0]), .inl (9, z0), .inl (9, z0), .inl (9, z0), .inl (9, z0), .inl (9, z0), .inl (64, z0)]) rfl ?_
  refine o_aload_n dX0_init_52 rfl rfl ?_
  refine o_bipush dX0_init_53 bp_64 ?_
  refine o_newa (N := 64) dX0_init_55 rfl (Nat.le_of_ble_eq_true rfl) (Nat.le_of_ble_eq_true rfl) (Nat.le_of_ble_eq_true rfl) (Nat.le_of_ble_eq_true rfl) rfl rfl rfl ?_
  refine o_eqw (w2 := [.inr (0, [.ref 1, .ref 2, .ref 3, .ref 4, .ref 5, .ref 6, .null, .int 0]), .inl (9, z0), .inl (9, z0), .inl (9, z0), .inl (9, z0), .inl (9, z0), .inl (64, z0), .inl (64, z0)]) rfl ?_
  refine o_putF (j := 6) tyX0 dX0_init_57 rfl hcX0 inX0 tyX0_ok nmX0 (Nat.le_of_ble_eq_true rfl) wd115 rfl rfl rfl rfl (fun _ => rfl) (fun _ => rfl) (Nat.le_of_ble_eq_true rfl) rfl ?_
  refine o_eqw (w2 := [.inr (0, [.ref 1, .ref 2, .ref 3, .ref 4, .ref 5, .ref 6, .ref 7, .int 0]), .inl (9, z0), .inl (9, z0), .inl (9, z0), .inl (9, z0), .inl (9, z0), .inl (64, z0), .inl (64, z0)]) rfl ?_
  refine o_aload_n dX0_init_60 rfl rfl ?_
  refine o_callVd (w2 := dG z0 z0 z0 z0 z0 (wsO z0) (fsO z0) 0) (is := [0, 1, 2, 3, 4, 5, 6, 7]) (tX0_measureWays (fa := fA z0) (fb := fB z0) (D := 0) ⟨by omega, fun d h => by omega⟩) ⟨rfl, rfl⟩ dX0_init_61 wd84 cvX0_measureWays rfl ⟨(Nat.le_of_ble_eq_true rfl), (Nat.le_of_ble_eq_true rfl)⟩ hcX0 rfl rfl rfl rfl (Nat.le_of_ble_eq_true rfl) (Nat.le_of_ble_eq_true rfl) (Nat.le_of_ble_eq_true rfl) rfl ?_
  refine o_vret dX0_init_64 rfl (Nat.le_of_ble_eq_true rfl) (Nat.le_of_ble_eq_true rfl) ?_
  exact ⟨rfl, rfl⟩
theorem tX2_init {N : Nat} (hN96 : N ≤ 96) : PD mX2_init [.ref 0, .int (nI N)] [.inr (2, [.null, .int 0])] none (rowG N z0 0) := by
  refine PM.ofp 0 (by decide) (Nat.le_of_ble_eq_true rfl) ?_
  show Ok mX2_init none 0 [some (.ref 0), some (.int (nI N))] [] [.inr (2, [.null, .int 0])] 0 0 _
  have hN : N ≤ 1000 := by omega
  refine o_aload_n dX2_init_0 rfl rfl ?_
  refine o_objInit dX2_init_1 wd182 wd70 wd71 (Nat.le_of_ble_eq_true rfl) (Nat.le_of_ble_eq_true rfl) ?_
  refine o_aload_n dX2_init_4 rfl rfl ?_
  refine o_iconst dX2_init_5 ic_0 ?_
  refine o_iload_n dX2_init_6 rfl rfl ?_
  refine o_mmax dX2_init_7 wd183 wd184 wd60 wd185 (Nat.le_of_ble_eq_true rfl) (Nat.le_of_ble_eq_true rfl) (Nat.le_of_ble_eq_true rfl) (Nat.le_of_ble_eq_true rfl) ?_
  refine o_eqs (by rw [mx0h hN96]) ?_
  refine o_newa (N := N) dX2_init_10 rfl hN (Nat.le_of_ble_eq_true rfl) (by rw [Nat.zero_add]; exact hN96) (Nat.le_of_ble_eq_true rfl) rfl rfl rfl ?_
  refine o_eqw (w2 := [.inr (2, [.null, .int 0]), .inl (N, z0)]) rfl ?_
  refine o_putF (j := 0) tyX2 dX2_init_12 rfl hcX2 inX2 tyX2_ok nmX2 (Nat.le_of_ble_eq_true rfl) wd186 rfl rfl rfl rfl (fun _ => rfl) (fun _ => rfl) (Nat.le_of_ble_eq_true rfl) rfl ?_
  refine o_eqw (w2 := [.inr (2, [.ref 1, .int 0]), .inl (N, z0)]) rfl ?_
  refine o_vret dX2_init_15 rfl (Nat.le_of_ble_eq_true rfl) (by rw [Nat.zero_add]; exact hN96) ?_
  exact ⟨rfl, rfl⟩
theorem tX1_init  : PD mX1_init [.ref 0] [.inr (1, [.null])] none (lG z0 0) := by
  refine PM.ofp 0 (by decide) (Nat.le_of_ble_eq_true rfl) ?_
  show Ok mX1_init none 0 [some (.ref 0)] [] [.inr (1, [.null])] 0 0 _
  refine o_aload_n dX1_init_0 rfl rfl ?_
  refine o_objInit dX1_init_1 wd176 wd70 wd71 (Nat.le_of_ble_eq_true rfl) (Nat.le_of_ble_eq_true rfl) ?_
  refine o_aload_n dX1_init_4 rfl rfl ?_
  refine o_new (fs := [.null, .int 0]) tyX2 dX1_init_5 hcX2 inX2 tyX2_ok wd177 wd178 wd59 dfX2 (fun _ => rfl) (fun _ => rfl) (Nat.le_of_ble_eq_true rfl) (Nat.le_of_ble_eq_true rfl) (Nat.le_of_ble_eq_true rfl) rfl rfl rfl ?_
  refine o_dup dX1_init_8 rfl ?_
  refine o_bipush dX1_init_9 bp_96 ?_
  refine o_ctor (w2 := [.inr (1, [.null]), .inr (2, [.ref 2, .int 0]), .inl (96, z0)]) (tX2_init (N := 96) (Nat.le_of_ble_eq_true rfl)) dX1_init_11 wd179 ciX2_init rfl ⟨(Nat.le_of_ble_eq_true rfl), (Nat.le_of_ble_eq_true rfl)⟩ rfl (fun _ => rfl) (fun _ => rfl) (Nat.le_of_ble_eq_true rfl) (Nat.le_of_ble_eq_true rfl) (Nat.le_of_ble_eq_true rfl) (by decide) (Nat.le_of_ble_eq_true rfl) (Nat.le_of_ble_eq_true rfl) rfl rfl rfl rfl rfl ?_
  refine o_putF (j := 0) tyX1 dX1_init_14 rfl hcX1 inX1 tyX1_ok nmX1 (Nat.le_of_ble_eq_true rfl) wd197 rfl rfl rfl rfl (fun _ => rfl) (fun _ => rfl) (Nat.le_of_ble_eq_true rfl) rfl ?_
  refine o_eqw (w2 := [.inr (1, [.ref 1]), .inr (2, [.ref 2, .int 0]), .inl (96, z0)]) rfl ?_
  refine o_vret dX1_init_17 rfl (Nat.le_of_ble_eq_true rfl) (Nat.le_of_ble_eq_true rfl) ?_
  exact ⟨rfl, rfl⟩
theorem tX3_init  : PD mX3_init [.ref 0] [.inr (3, [.null, .null, .null, .null, .int 0, .int 0, .int 0])] none (tW z0 (wsO z0) (fsO z0)) := by
  refine PM.ofp 0 (by decide) (Nat.le_of_ble_eq_true rfl) ?_
  show Ok mX3_init none 0 [some (.ref 0)] [] [.inr (3, [.null, .null, .null, .null, .int 0, .int 0, .int 0])] 0 0 _
  refine o_aload_n dX3_init_0 rfl rfl ?_
  refine o_objInit dX3_init_1 wd77 wd70 wd71 (Nat.le_of_ble_eq_true rfl) (Nat.le_of_ble_eq_true rfl) ?_
  refine o_aload_n dX3_init_4 rfl rfl ?_
  refine o_new (fs := [.null, .null, .null, .null, .null, .null, .null, .int 0]) tyX0 dX3_init_5 hcX0 inX0 tyX0_ok wd78 wd79 wd57 dfX0 (fun _ => rfl) (fun _ => rfl) (Nat.le_of_ble_eq_true rfl) (Nat.le_of_ble_eq_true rfl) (Nat.le_of_ble_eq_true rfl) rfl rfl rfl ?_
  refine o_dup dX3_init_8 rfl ?_
  refine o_ctor (w2 := [.inr (3, [.null, .null, .null, .null, .int 0, .int 0, .int 0]), .inr (0, [.ref 2, .ref 3, .ref 4, .ref 5, .ref 6, .ref 7, .ref 8, .int 0]), .inl (9, z0), .inl (9, z0), .inl (9, z0), .inl (9, z0), .inl (9, z0), .inl (64, wsO z0), .inl (64, fsO z0)]) (tX0_init) dX3_init_9 wd80 ciX0_init rfl ⟨(Nat.le_of_ble_eq_true rfl), (Nat.le_of_ble_eq_true rfl)⟩ rfl (fun _ => rfl) (fun _ => rfl) (Nat.le_of_ble_eq_true rfl) (Nat.le_of_ble_eq_true rfl) (Nat.le_of_ble_eq_true rfl) (by decide) (Nat.le_of_ble_eq_true rfl) (Nat.le_of_ble_eq_true rfl) rfl rfl rfl rfl rfl ?_
  refine o_putF (j := 0) tyX3 dX3_init_12 rfl hcX3 inX3 tyX3_ok nmX3 (Nat.le_of_ble_eq_true rfl) wd137 rfl rfl rfl rfl (fun _ => rfl) (fun _ => rfl) (Nat.le_of_ble_eq_true rfl) rfl ?_
  refine o_eqw (w2 := [.inr (3, [.ref 1, .null, .null, .null, .int 0, .int 0, .int 0]), .inr (0, [.ref 2, .ref 3, .ref 4, .ref 5, .ref 6, .ref 7, .ref 8, .int 0]), .inl (9, z0), .inl (9, z0), .inl (9, z0), .inl (9, z0), .inl (9, z0), .inl (64, wsO z0), .inl (64, fsO z0)]) rfl ?_
  refine o_aload_n dX3_init_15 rfl rfl ?_
  refine o_bipush dX3_init_16 bp_7 ?_
  refine o_newa (N := 7) dX3_init_18 rfl (Nat.le_of_ble_eq_true rfl) (Nat.le_of_ble_eq_true rfl) (Nat.le_of_ble_eq_true rfl) (Nat.le_of_ble_eq_true rfl) rfl rfl rfl ?_
  refine o_eqw (w2 := [.inr (3, [.ref 1, .null, .null, .null, .int 0, .int 0, .int 0]), .inr (0, [.ref 2, .ref 3, .ref 4, .ref 5, .ref 6, .ref 7, .ref 8, .int 0]), .inl (9, z0), .inl (9, z0), .inl (9, z0), .inl (9, z0), .inl (9, z0), .inl (64, wsO z0), .inl (64, fsO z0), .inl (7, z0)]) rfl ?_
  refine o_putF (j := 1) tyX3 dX3_init_20 rfl hcX3 inX3 tyX3_ok nmX3 (Nat.le_of_ble_eq_true rfl) wd140 rfl rfl rfl rfl (fun _ => rfl) (fun _ => rfl) (Nat.le_of_ble_eq_true rfl) rfl ?_
  refine o_eqw (w2 := [.inr (3, [.ref 1, .ref 9, .null, .null, .int 0, .int 0, .int 0]), .inr (0, [.ref 2, .ref 3, .ref 4, .ref 5, .ref 6, .ref 7, .ref 8, .int 0]), .inl (9, z0), .inl (9, z0), .inl (9, z0), .inl (9, z0), .inl (9, z0), .inl (64, wsO z0), .inl (64, fsO z0), .inl (7, z0)]) rfl ?_
  refine o_aload_n dX3_init_23 rfl rfl ?_
  refine o_bipush dX3_init_24 bp_7 ?_
  refine o_newa (N := 7) dX3_init_26 rfl (Nat.le_of_ble_eq_true rfl) (Nat.le_of_ble_eq_true rfl) (Nat.le_of_ble_eq_true rfl) (Nat.le_of_ble_eq_true rfl) rfl rfl rfl ?_
  refine o_eqw (w2 := [.inr (3, [.ref 1, .ref 9, .null, .null, .int 0, .int 0, .int 0]), .inr (0, [.ref 2, .ref 3, .ref 4, .ref 5, .ref 6, .ref 7, .ref 8, .int 0]), .inl (9, z0), .inl (9, z0), .inl (9, z0), .inl (9, z0), .inl (9, z0), .inl (64, wsO z0), .inl (64, fsO z0), .inl (7, z0), .inl (7, z0)]) rfl ?_
  refine o_putF (j := 2) tyX3 dX3_init_28 rfl hcX3 inX3 tyX3_ok nmX3 (Nat.le_of_ble_eq_true rfl) wd143 rfl rfl rfl rfl (fun _ => rfl) (fun _ => rfl) (Nat.le_of_ble_eq_true rfl) rfl ?_
  refine o_eqw (w2 := [.inr (3, [.ref 1, .ref 9, .ref 10, .null, .int 0, .int 0, .int 0]), .inr (0, [.ref 2, .ref 3, .ref 4, .ref 5, .ref 6, .ref 7, .ref 8, .int 0]), .inl (9, z0), .inl (9, z0), .inl (9, z0), .inl (9, z0), .inl (9, z0), .inl (64, wsO z0), .inl (64, fsO z0), .inl (7, z0), .inl (7, z0)]) rfl ?_
  refine o_aload_n dX3_init_31 rfl rfl ?_
  refine o_bipush dX3_init_32 bp_7 ?_
  refine o_newa (N := 7) dX3_init_34 rfl (Nat.le_of_ble_eq_true rfl) (Nat.le_of_ble_eq_true rfl) (Nat.le_of_ble_eq_true rfl) (Nat.le_of_ble_eq_true rfl) rfl rfl rfl ?_
  refine o_eqw (w2 := [.inr (3, [.ref 1, .ref 9, .ref 10, .null, .int 0, .int 0, .int 0]), .inr (0, [.ref 2, .ref 3, .ref 4, .ref 5, .ref 6, .ref 7, .ref 8, .int 0]), .inl (9, z0), .inl (9, z0), .inl (9, z0), .inl (9, z0), .inl (9, z0), .inl (64, wsO z0), .inl (64, fsO z0), .inl (7, z0), .inl (7, z0), .inl (7, z0)]) rfl ?_
  refine o_putF (j := 3) tyX3 dX3_init_36 rfl hcX3 inX3 tyX3_ok nmX3 (Nat.le_of_ble_eq_true rfl) wd146 rfl rfl rfl rfl (fun _ => rfl) (fun _ => rfl) (Nat.le_of_ble_eq_true rfl) rfl ?_
  refine o_eqw (w2 := [.inr (3, [.ref 1, .ref 9, .ref 10, .ref 11, .int 0, .int 0, .int 0]), .inr (0, [.ref 2, .ref 3, .ref 4, .ref 5, .ref 6, .ref 7, .ref 8, .int 0]), .inl (9, z0), .inl (9, z0), .inl (9, z0), .inl (9, z0), .inl (9, z0), .inl (64, wsO z0), .inl (64, fsO z0), .inl (7, z0), .inl (7, z0), .inl (7, z0)]) rfl ?_
  refine o_vret dX3_init_39 rfl (Nat.le_of_ble_eq_true rfl) (Nat.le_of_ble_eq_true rfl) ?_
  exact ⟨rfl, by rw [tW_z]⟩
abbrev yW (r ws fs m mw mf im iw jf lt rw rf ga : Nat → Int32) (hi lm rn : Int32) : PW := [.inr (4, [.ref 1, .ref 13, .ref 25, .int hi, .ref 37, .ref 40, .ref 42, .ref 43]), .inr (3, [.ref 2, .ref 10, .ref 11, .ref 12, .int (r 1), .int (r 2), .int (r 3)]), .inr (0, [.ref 3, .ref 4, .ref 5, .ref 6, .ref 7, .ref 8, .ref 9, .int (r 0)]), .inl (9, kdO r), .inl (9, fgO r), .inl (9, frO r), .inl (9, inO r), .inl (9, wdO r), .inl (64, ws), .inl (64, fs), .inl (7, rmO r), .inl (7, glO r), .inl (7, mdO r), .inr (3, [.ref 14, .ref 22, .ref 23, .ref 24, .int (m 1), .int (m 2), .int (m 3)]), .inr (0, [.ref 15, .ref 16, .ref 17, .ref 18, .ref 19, .ref 20, .ref 21, .int (m 0)]), .inl (9, kdO m), .inl (9, fgO m), .inl (9, frO m), .inl (9, inO m), .inl (9, wdO m), .inl (64, mw), .inl (64, mf), .inl (7, rmO m), .inl (7, glO m), .inl (7, mdO m), .inr (3, [.ref 26, .ref 34, .ref 35, .ref 36, .int (im 1), .int (im 2), .int (im 3)]), .inr (0, [.ref 27, .ref 28, .ref 29, .ref 30, .ref 31, .ref 32, .ref 33, .int (im 0)]), .inl (9, kdO im), .inl (9, fgO im), .inl (9, frO im), .inl (9, inO im), .inl (9, wdO im), .inl (64, iw), .inl (64, jf), .inl (7, rmO im), .inl (7, glO im), .inl (7, mdO im), .inr (1, [.ref 38]), .inr (2, [.ref 39, .int lm]), .inl (96, lt), .inr (2, [.ref 41, .int rn]), .inl (16, rw), .inl (7, rf), .inl (8, ga)]
theorem tX4_init  : PD mX4_init [.ref 0] [.inr (4, [.null, .null, .null, .int 0, .null, .null, .null, .null])] none (yW z0 (wsO z0) (fsO z0) z0 (wsO z0) (fsO z0) z0 (wsO z0) (fsO z0) z0 z0 z0 z0 0 0 0) := by
  refine PM.ofp 0 (by decide) (Nat.le_of_ble_eq_true rfl) ?_
  show Ok mX4_init none 0 [some (.ref 0)] [] [.inr (4, [.null, .null, .null, .int 0, .null, .null, .null, .null])] 0 0 _
  refine o_aload_n dX4_init_0 rfl rfl ?_
  refine o_objInit dX4_init_1 wd69 wd70 wd71 (Nat.le_of_ble_eq_true rfl) (Nat.le_of_ble_eq_true rfl) ?_
  refine o_aload_n dX4_init_4 rfl rfl ?_
  refine o_new (fs := [.null, .null, .null, .null, .int 0, .int 0, .int 0]) tyX3 dX4_init_5 hcX3 inX3 tyX3_ok wd72 wd73 wd56 dfX3 (fun _ => rfl) (fun _ => rfl) (Nat.le_of_ble_eq_true rfl) (Nat.le_of_ble_eq_true rfl) (Nat.le_of_ble_eq_true rfl) rfl rfl rfl ?_
  refine o_dup dX4_init_8 rfl ?_
  refine o_ctorN (w2 := [.inr (4, [.null, .null, .null, .int 0, .null, .null, .null, .null]), .inr (3, [.ref 2, .ref 10, .ref 11, .ref 12, .int 0, .int 0, .int 0]), .inr (0, [.ref 3, .ref 4, .ref 5, .ref 6, .ref 7, .ref 8, .ref 9, .int 0]), .inl (9, kdO z0), .inl (9, fgO z0), .inl (9, frO z0), .inl (9, inO z0), .inl (9, wdO z0), .inl (64, wsO z0), .inl (64, fsO z0), .inl (7, rmO z0), .inl (7, glO z0), .inl (7, mdO z0)]) (tX3_init) dX4_init_9 wd74 ciX3_init rfl ⟨(Nat.le_of_ble_eq_true rfl), (Nat.le_of_ble_eq_true rfl)⟩ rfl (fun _ => rfl) (fun _ => rfl) (Nat.le_of_ble_eq_true rfl) (Nat.le_of_ble_eq_true rfl) (Nat.le_of_ble_eq_true rfl) (by decide) (Nat.le_of_ble_eq_true rfl) (Nat.le_of_ble_eq_true rfl) rfl rfl rfl rfl rfl ?_
  refine o_putF (j := 0) tyX4 dX4_init_12 rfl hcX4 inX4 tyX4_ok nmX4 (Nat.le_of_ble_eq_true rfl) wd204 rfl rfl rfl rfl (fun _ => rfl) (fun _ => rfl) (Nat.le_of_ble_eq_true rfl) rfl ?_
  refine o_eqw (w2 := [.inr (4, [.ref 1, .null, .null, .int 0, .null, .null, .null, .null]), .inr (3, [.ref 2, .ref 10, .ref 11, .ref 12, .int 0, .int 0, .int 0]), .inr (0, [.ref 3, .ref 4, .ref 5, .ref 6, .ref 7, .ref 8, .ref 9, .int 0]), .inl (9, kdO z0), .inl (9, fgO z0), .inl (9, frO z0), .inl (9, inO z0), .inl (9, wdO z0), .inl (64, wsO z0), .inl (64, fsO z0), .inl (7, rmO z0), .inl (7, glO z0), .inl (7, mdO z0)]) rfl ?_
  refine o_aload_n dX4_init_15 rfl rfl ?_
  refine o_new (fs := [.null, .null, .null, .null, .int 0, .int 0, .int 0]) tyX3 dX4_init_16 hcX3 inX3 tyX3_ok wd72 wd73 wd56 dfX3 (fun _ => rfl) (fun _ => rfl) (Nat.le_of_ble_eq_true rfl) (Nat.le_of_ble_eq_true rfl) (Nat.le_of_ble_eq_true rfl) rfl rfl rfl ?_
  refine o_dup dX4_init_19 rfl ?_
  refine o_ctorN (w2 := [.inr (4, [.ref 1, .null, .null, .int 0, .null, .null, .null, .null]), .inr (3, [.ref 2, .ref 10, .ref 11, .ref 12, .int 0, .int 0, .int 0]), .inr (0, [.ref 3, .ref 4, .ref 5, .ref 6, .ref 7, .ref 8, .ref 9, .int 0]), .inl (9, kdO z0), .inl (9, fgO z0), .inl (9, frO z0), .inl (9, inO z0), .inl (9, wdO z0), .inl (64, wsO z0), .inl (64, fsO z0), .inl (7, rmO z0), .inl (7, glO z0), .inl (7, mdO z0), .inr (3, [.ref 14, .ref 22, .ref 23, .ref 24, .int 0, .int 0, .int 0]), .inr (0, [.ref 15, .ref 16, .ref 17, .ref 18, .ref 19, .ref 20, .ref 21, .int 0]), .inl (9, kdO z0), .inl (9, fgO z0), .inl (9, frO z0), .inl (9, inO z0), .inl (9, wdO z0), .inl (64, wsO z0), .inl (64, fsO z0), .inl (7, rmO z0), .inl (7, glO z0), .inl (7, mdO z0)]) (tX3_init) dX4_init_20 wd74 ciX3_init rfl ⟨(Nat.le_of_ble_eq_true rfl), (Nat.le_of_ble_eq_true rfl)⟩ rfl (fun _ => rfl) (fun _ => rfl) (Nat.le_of_ble_eq_true rfl) (Nat.le_of_ble_eq_true rfl) (Nat.le_of_ble_eq_true rfl) (by decide) (Nat.le_of_ble_eq_true rfl) (Nat.le_of_ble_eq_true rfl) rfl rfl rfl rfl rfl ?_
  refine o_putF (j := 1) tyX4 dX4_init_23 rfl hcX4 inX4 tyX4_ok nmX4 (Nat.le_of_ble_eq_true rfl) wd205 rfl rfl rfl rfl (fun _ => rfl) (fun _ => rfl) (Nat.le_of_ble_eq_true rfl) rfl ?_
  refine o_eqw (w2 := [.inr (4, [.ref 1, .ref 13, .null, .int 0, .null, .null, .null, .null]), .inr (3, [.ref 2, .ref 10, .ref 11, .ref 12, .int 0, .int 0, .int 0]), .inr (0, [.ref 3, .ref 4, .ref 5, .ref 6, .ref 7, .ref 8, .ref 9, .int 0]), .inl (9, kdO z0), .inl (9, fgO z0), .inl (9, frO z0), .inl (9, inO z0), .inl (9, wdO z0), .inl (64, wsO z0), .inl (64, fsO z0), .inl (7, rmO z0), .inl (7, glO z0), .inl (7, mdO z0), .inr (3, [.ref 14, .ref 22, .ref 23, .ref 24, .int 0, .int 0, .int 0]), .inr (0, [.ref 15, .ref 16, .ref 17, .ref 18, .ref 19, .ref 20, .ref 21, .int 0]), .inl (9, kdO z0), .inl (9, fgO z0), .inl (9, frO z0), .inl (9, inO z0), .inl (9, wdO z0), .inl (64, wsO z0), .inl (64, fsO z0), .inl (7, rmO z0), .inl (7, glO z0), .inl (7, mdO z0)]) rfl ?_
  refine o_aload_n dX4_init_26 rfl rfl ?_
  refine o_new (fs := [.null, .null, .null, .null, .int 0, .int 0, .int 0]) tyX3 dX4_init_27 hcX3 inX3 tyX3_ok wd72 wd73 wd56 dfX3 (fun _ => rfl) (fun _ => rfl) (Nat.le_of_ble_eq_true rfl) (Nat.le_of_ble_eq_true rfl) (Nat.le_of_ble_eq_true rfl) rfl rfl rfl ?_
  refine o_dup dX4_init_30 rfl ?_
  refine o_ctorN (w2 := [.inr (4, [.ref 1, .ref 13, .null, .int 0, .null, .null, .null, .null]), .inr (3, [.ref 2, .ref 10, .ref 11, .ref 12, .int 0, .int 0, .int 0]), .inr (0, [.ref 3, .ref 4, .ref 5, .ref 6, .ref 7, .ref 8, .ref 9, .int 0]), .inl (9, kdO z0), .inl (9, fgO z0), .inl (9, frO z0), .inl (9, inO z0), .inl (9, wdO z0), .inl (64, wsO z0), .inl (64, fsO z0), .inl (7, rmO z0), .inl (7, glO z0), .inl (7, mdO z0), .inr (3, [.ref 14, .ref 22, .ref 23, .ref 24, .int 0, .int 0, .int 0]), .inr (0, [.ref 15, .ref 16, .ref 17, .ref 18, .ref 19, .ref 20, .ref 21, .int 0]), .inl (9, kdO z0), .inl (9, fgO z0), .inl (9, frO z0), .inl (9, inO z0), .inl (9, wdO z0), .inl (64, wsO z0), .inl (64, fsO z0), .inl (7, rmO z0), .inl (7, glO z0), .inl (7, mdO z0), .inr (3, [.ref 26, .ref 34, .ref 35, .ref 36, .int 0, .int 0, .int 0]), .inr (0, [.ref 27, .ref 28, .ref 29, .ref 30, .ref 31, .ref 32, .ref 33, .int 0]), .inl (9, kdO z0), .inl (9, fgO z0), .inl (9, frO z0), .inl (9, inO z0), .inl (9, wdO z0), .inl (64, wsO z0), .inl (64, fsO z0), .inl (7, rmO z0), .inl (7, glO z0), .inl (7, mdO z0)]) (tX3_init) dX4_init_31 wd74 ciX3_init rfl ⟨(Nat.le_of_ble_eq_true rfl), (Nat.le_of_ble_eq_true rfl)⟩ rfl (fun _ => rfl) (fun _ => rfl) (Nat.le_of_ble_eq_true rfl) (Nat.le_of_ble_eq_true rfl) (Nat.le_of_ble_eq_true rfl) (by decide) (Nat.le_of_ble_eq_true rfl) (Nat.le_of_ble_eq_true rfl) rfl rfl rfl rfl rfl ?_
  refine o_putF (j := 2) tyX4 dX4_init_34 rfl hcX4 inX4 tyX4_ok nmX4 (Nat.le_of_ble_eq_true rfl) wd206 rfl rfl rfl rfl (fun _ => rfl) (fun _ => rfl) (Nat.le_of_ble_eq_true rfl) rfl ?_
  refine o_eqw (w2 := [.inr (4, [.ref 1, .ref 13, .ref 25, .int 0, .null, .null, .null, .null]), .inr (3, [.ref 2, .ref 10, .ref 11, .ref 12, .int 0, .int 0, .int 0]), .inr (0, [.ref 3, .ref 4, .ref 5, .ref 6, .ref 7, .ref 8, .ref 9, .int 0]), .inl (9, kdO z0), .inl (9, fgO z0), .inl (9, frO z0), .inl (9, inO z0), .inl (9, wdO z0), .inl (64, wsO z0), .inl (64, fsO z0), .inl (7, rmO z0), .inl (7, glO z0), .inl (7, mdO z0), .inr (3, [.ref 14, .ref 22, .ref 23, .ref 24, .int 0, .int 0, .int 0]), .inr (0, [.ref 15, .ref 16, .ref 17, .ref 18, .ref 19, .ref 20, .ref 21, .int 0]), .inl (9, kdO z0), .inl (9, fgO z0), .inl (9, frO z0), .inl (9, inO z0), .inl (9, wdO z0), .inl (64, wsO z0), .inl (64, fsO z0), .inl (7, rmO z0), .inl (7, glO z0), .inl (7, mdO z0), .inr (3, [.ref 26, .ref 34, .ref 35, .ref 36, .int 0, .int 0, .int 0]), .inr (0, [.ref 27, .ref 28, .ref 29, .ref 30, .ref 31, .ref 32, .ref 33, .int 0]), .inl (9, kdO z0), .inl (9, fgO z0), .inl (9, frO z0), .inl (9, inO z0), .inl (9, wdO z0), .inl (64, wsO z0), .inl (64, fsO z0), .inl (7, rmO z0), .inl (7, glO z0), .inl (7, mdO z0)]) rfl ?_
  refine o_aload_n dX4_init_37 rfl rfl ?_
  refine o_new (fs := [.null]) tyX1 dX4_init_38 hcX1 inX1 tyX1_ok wd171 wd172 wd58 dfX1 (fun _ => rfl) (fun _ => rfl) (Nat.le_of_ble_eq_true rfl) (Nat.le_of_ble_eq_true rfl) (Nat.le_of_ble_eq_true rfl) rfl rfl rfl ?_
  refine o_dup dX4_init_41 rfl ?_
  refine o_ctorN (w2 := [.inr (4, [.ref 1, .ref 13, .ref 25, .int 0, .null, .null, .null, .null]), .inr (3, [.ref 2, .ref 10, .ref 11, .ref 12, .int 0, .int 0, .int 0]), .inr (0, [.ref 3, .ref 4, .ref 5, .ref 6, .ref 7, .ref 8, .ref 9, .int 0]), .inl (9, kdO z0), .inl (9, fgO z0), .inl (9, frO z0), .inl (9, inO z0), .inl (9, wdO z0), .inl (64, wsO z0), .inl (64, fsO z0), .inl (7, rmO z0), .inl (7, glO z0), .inl (7, mdO z0), .inr (3, [.ref 14, .ref 22, .ref 23, .ref 24, .int 0, .int 0, .int 0]), .inr (0, [.ref 15, .ref 16, .ref 17, .ref 18, .ref 19, .ref 20, .ref 21, .int 0]), .inl (9, kdO z0), .inl (9, fgO z0), .inl (9, frO z0), .inl (9, inO z0), .inl (9, wdO z0), .inl (64, wsO z0), .inl (64, fsO z0), .inl (7, rmO z0), .inl (7, glO z0), .inl (7, mdO z0), .inr (3, [.ref 26, .ref 34, .ref 35, .ref 36, .int 0, .int 0, .int 0]), .inr (0, [.ref 27, .ref 28, .ref 29, .ref 30, .ref 31, .ref 32, .ref 33, .int 0]), .inl (9, kdO z0), .inl (9, fgO z0), .inl (9, frO z0), .inl (9, inO z0), .inl (9, wdO z0), .inl (64, wsO z0), .inl (64, fsO z0), .inl (7, rmO z0), .inl (7, glO z0), .inl (7, mdO z0), .inr (1, [.ref 38]), .inr (2, [.ref 39, .int 0]), .inl (96, z0)]) (tX1_init) dX4_init_42 wd173 ciX1_init rfl ⟨(Nat.le_of_ble_eq_true rfl), (Nat.le_of_ble_eq_true rfl)⟩ rfl (fun _ => rfl) (fun _ => rfl) (Nat.le_of_ble_eq_true rfl) (Nat.le_of_ble_eq_true rfl) (Nat.le_of_ble_eq_true rfl) (by decide) (Nat.le_of_ble_eq_true rfl) (Nat.le_of_ble_eq_true rfl) rfl rfl rfl rfl rfl ?_
  refine o_putF (j := 4) tyX4 dX4_init_45 rfl hcX4 inX4 tyX4_ok nmX4 (Nat.le_of_ble_eq_true rfl) wd208 rfl rfl rfl rfl (fun _ => rfl) (fun _ => rfl) (Nat.le_of_ble_eq_true rfl) rfl ?_
  refine o_eqw (w2 := [.inr (4, [.ref 1, .ref 13, .ref 25, .int 0, .ref 37, .null, .null, .null]), .inr (3, [.ref 2, .ref 10, .ref 11, .ref 12, .int 0, .int 0, .int 0]), .inr (0, [.ref 3, .ref 4, .ref 5, .ref 6, .ref 7, .ref 8, .ref 9, .int 0]), .inl (9, kdO z0), .inl (9, fgO z0), .inl (9, frO z0), .inl (9, inO z0), .inl (9, wdO z0), .inl (64, wsO z0), .inl (64, fsO z0), .inl (7, rmO z0), .inl (7, glO z0), .inl (7, mdO z0), .inr (3, [.ref 14, .ref 22, .ref 23, .ref 24, .int 0, .int 0, .int 0]), .inr (0, [.ref 15, .ref 16, .ref 17, .ref 18, .ref 19, .ref 20, .ref 21, .int 0]), .inl (9, kdO z0), .inl (9, fgO z0), .inl (9, frO z0), .inl (9, inO z0), .inl (9, wdO z0), .inl (64, wsO z0), .inl (64, fsO z0), .inl (7, rmO z0), .inl (7, glO z0), .inl (7, mdO z0), .inr (3, [.ref 26, .ref 34, .ref 35, .ref 36, .int 0, .int 0, .int 0]), .inr (0, [.ref 27, .ref 28, .ref 29, .ref 30, .ref 31, .ref 32, .ref 33, .int 0]), .inl (9, kdO z0), .inl (9, fgO z0), .inl (9, frO z0), .inl (9, inO z0), .inl (9, wdO z0), .inl (64, wsO z0), .inl (64, fsO z0), .inl (7, rmO z0), .inl (7, glO z0), .inl (7, mdO z0), .inr (1, [.ref 38]), .inr (2, [.ref 39, .int 0]), .inl (96, z0)]) rfl ?_
  refine o_aload_n dX4_init_48 rfl rfl ?_
  refine o_new (fs := [.null, .int 0]) tyX2 dX4_init_49 hcX2 inX2 tyX2_ok wd202 wd178 wd59 dfX2 (fun _ => rfl) (fun _ => rfl) (Nat.le_of_ble_eq_true rfl) (Nat.le_of_ble_eq_true rfl) (Nat.le_of_ble_eq_true rfl) rfl rfl rfl ?_
  refine o_dup dX4_init_52 rfl ?_
  refine o_bipush dX4_init_53 bp_16 ?_
  refine o_ctor (w2 := [.inr (4, [.ref 1, .ref 13, .ref 25, .int 0, .ref 37, .null, .null, .null]), .inr (3, [.ref 2, .ref 10, .ref 11, .ref 12, .int 0, .int 0, .int 0]), .inr (0, [.ref 3, .ref 4, .ref 5, .ref 6, .ref 7, .ref 8, .ref 9, .int 0]), .inl (9, kdO z0), .inl (9, fgO z0), .inl (9, frO z0), .inl (9, inO z0), .inl (9, wdO z0), .inl (64, wsO z0), .inl (64, fsO z0), .inl (7, rmO z0), .inl (7, glO z0), .inl (7, mdO z0), .inr (3, [.ref 14, .ref 22, .ref 23, .ref 24, .int 0, .int 0, .int 0]), .inr (0, [.ref 15, .ref 16, .ref 17, .ref 18, .ref 19, .ref 20, .ref 21, .int 0]), .inl (9, kdO z0), .inl (9, fgO z0), .inl (9, frO z0), .inl (9, inO z0), .inl (9, wdO z0), .inl (64, wsO z0), .inl (64, fsO z0), .inl (7, rmO z0), .inl (7, glO z0), .inl (7, mdO z0), .inr (3, [.ref 26, .ref 34, .ref 35, .ref 36, .int 0, .int 0, .int 0]), .inr (0, [.ref 27, .ref 28, .ref 29, .ref 30, .ref 31, .ref 32, .ref 33, .int 0]), .inl (9, kdO z0), .inl (9, fgO z0), .inl (9, frO z0), .inl (9, inO z0), .inl (9, wdO z0), .inl (64, wsO z0), .inl (64, fsO z0), .inl (7, rmO z0), .inl (7, glO z0), .inl (7, mdO z0), .inr (1, [.ref 38]), .inr (2, [.ref 39, .int 0]), .inl (96, z0), .inr (2, [.ref 41, .int 0]), .inl (16, z0)]) (tX2_init (N := 16) (Nat.le_of_ble_eq_true rfl)) dX4_init_55 wd203 ciX2_init rfl ⟨(Nat.le_of_ble_eq_true rfl), (Nat.le_of_ble_eq_true rfl)⟩ rfl (fun _ => rfl) (fun _ => rfl) (Nat.le_of_ble_eq_true rfl) (Nat.le_of_ble_eq_true rfl) (Nat.le_of_ble_eq_true rfl) (by decide) (Nat.le_of_ble_eq_true rfl) (Nat.le_of_ble_eq_true rfl) rfl rfl rfl rfl rfl ?_
  refine o_putF (j := 5) tyX4 dX4_init_58 rfl hcX4 inX4 tyX4_ok nmX4 (Nat.le_of_ble_eq_true rfl) wd209 rfl rfl rfl rfl (fun _ => rfl) (fun _ => rfl) (Nat.le_of_ble_eq_true rfl) rfl ?_
  refine o_eqw (w2 := [.inr (4, [.ref 1, .ref 13, .ref 25, .int 0, .ref 37, .ref 40, .null, .null]), .inr (3, [.ref 2, .ref 10, .ref 11, .ref 12, .int 0, .int 0, .int 0]), .inr (0, [.ref 3, .ref 4, .ref 5, .ref 6, .ref 7, .ref 8, .ref 9, .int 0]), .inl (9, kdO z0), .inl (9, fgO z0), .inl (9, frO z0), .inl (9, inO z0), .inl (9, wdO z0), .inl (64, wsO z0), .inl (64, fsO z0), .inl (7, rmO z0), .inl (7, glO z0), .inl (7, mdO z0), .inr (3, [.ref 14, .ref 22, .ref 23, .ref 24, .int 0, .int 0, .int 0]), .inr (0, [.ref 15, .ref 16, .ref 17, .ref 18, .ref 19, .ref 20, .ref 21, .int 0]), .inl (9, kdO z0), .inl (9, fgO z0), .inl (9, frO z0), .inl (9, inO z0), .inl (9, wdO z0), .inl (64, wsO z0), .inl (64, fsO z0), .inl (7, rmO z0), .inl (7, glO z0), .inl (7, mdO z0), .inr (3, [.ref 26, .ref 34, .ref 35, .ref 36, .int 0, .int 0, .int 0]), .inr (0, [.ref 27, .ref 28, .ref 29, .ref 30, .ref 31, .ref 32, .ref 33, .int 0]), .inl (9, kdO z0), .inl (9, fgO z0), .inl (9, frO z0), .inl (9, inO z0), .inl (9, wdO z0), .inl (64, wsO z0), .inl (64, fsO z0), .inl (7, rmO z0), .inl (7, glO z0), .inl (7, mdO z0), .inr (1, [.ref 38]), .inr (2, [.ref 39, .int 0]), .inl (96, z0), .inr (2, [.ref 41, .int 0]), .inl (16, z0)]) rfl ?_
  refine o_aload_n dX4_init_61 rfl rfl ?_
  refine o_bipush dX4_init_62 bp_7 ?_
  refine o_newa (N := 7) dX4_init_64 rfl (Nat.le_of_ble_eq_true rfl) (Nat.le_of_ble_eq_true rfl) (Nat.le_of_ble_eq_true rfl) (Nat.le_of_ble_eq_true rfl) rfl rfl rfl ?_
  refine o_eqw (w2 := [.inr (4, [.ref 1, .ref 13, .ref 25, .int 0, .ref 37, .ref 40, .null, .null]), .inr (3, [.ref 2, .ref 10, .ref 11, .ref 12, .int 0, .int 0, .int 0]), .inr (0, [.ref 3, .ref 4, .ref 5, .ref 6, .ref 7, .ref 8, .ref 9, .int 0]), .inl (9, kdO z0), .inl (9, fgO z0), .inl (9, frO z0), .inl (9, inO z0), .inl (9, wdO z0), .inl (64, wsO z0), .inl (64, fsO z0), .inl (7, rmO z0), .inl (7, glO z0), .inl (7, mdO z0), .inr (3, [.ref 14, .ref 22, .ref 23, .ref 24, .int 0, .int 0, .int 0]), .inr (0, [.ref 15, .ref 16, .ref 17, .ref 18, .ref 19, .ref 20, .ref 21, .int 0]), .inl (9, kdO z0), .inl (9, fgO z0), .inl (9, frO z0), .inl (9, inO z0), .inl (9, wdO z0), .inl (64, wsO z0), .inl (64, fsO z0), .inl (7, rmO z0), .inl (7, glO z0), .inl (7, mdO z0), .inr (3, [.ref 26, .ref 34, .ref 35, .ref 36, .int 0, .int 0, .int 0]), .inr (0, [.ref 27, .ref 28, .ref 29, .ref 30, .ref 31, .ref 32, .ref 33, .int 0]), .inl (9, kdO z0), .inl (9, fgO z0), .inl (9, frO z0), .inl (9, inO z0), .inl (9, wdO z0), .inl (64, wsO z0), .inl (64, fsO z0), .inl (7, rmO z0), .inl (7, glO z0), .inl (7, mdO z0), .inr (1, [.ref 38]), .inr (2, [.ref 39, .int 0]), .inl (96, z0), .inr (2, [.ref 41, .int 0]), .inl (16, z0), .inl (7, z0)]) rfl ?_
  refine o_putF (j := 6) tyX4 dX4_init_66 rfl hcX4 inX4 tyX4_ok nmX4 (Nat.le_of_ble_eq_true rfl) wd210 rfl rfl rfl rfl (fun _ => rfl) (fun _ => rfl) (Nat.le_of_ble_eq_true rfl) rfl ?_
  refine o_eqw (w2 := [.inr (4, [.ref 1, .ref 13, .ref 25, .int 0, .ref 37, .ref 40, .ref 42, .null]), .inr (3, [.ref 2, .ref 10, .ref 11, .ref 12, .int 0, .int 0, .int 0]), .inr (0, [.ref 3, .ref 4, .ref 5, .ref 6, .ref 7, .ref 8, .ref 9, .int 0]), .inl (9, kdO z0), .inl (9, fgO z0), .inl (9, frO z0), .inl (9, inO z0), .inl (9, wdO z0), .inl (64, wsO z0), .inl (64, fsO z0), .inl (7, rmO z0), .inl (7, glO z0), .inl (7, mdO z0), .inr (3, [.ref 14, .ref 22, .ref 23, .ref 24, .int 0, .int 0, .int 0]), .inr (0, [.ref 15, .ref 16, .ref 17, .ref 18, .ref 19, .ref 20, .ref 21, .int 0]), .inl (9, kdO z0), .inl (9, fgO z0), .inl (9, frO z0), .inl (9, inO z0), .inl (9, wdO z0), .inl (64, wsO z0), .inl (64, fsO z0), .inl (7, rmO z0), .inl (7, glO z0), .inl (7, mdO z0), .inr (3, [.ref 26, .ref 34, .ref 35, .ref 36, .int 0, .int 0, .int 0]), .inr (0, [.ref 27, .ref 28, .ref 29, .ref 30, .ref 31, .ref 32, .ref 33, .int 0]), .inl (9, kdO z0), .inl (9, fgO z0), .inl (9, frO z0), .inl (9, inO z0), .inl (9, wdO z0), .inl (64, wsO z0), .inl (64, fsO z0), .inl (7, rmO z0), .inl (7, glO z0), .inl (7, mdO z0), .inr (1, [.ref 38]), .inr (2, [.ref 39, .int 0]), .inl (96, z0), .inr (2, [.ref 41, .int 0]), .inl (16, z0), .inl (7, z0)]) rfl ?_
  refine o_aload_n dX4_init_69 rfl rfl ?_
  refine o_bipush dX4_init_70 bp_8 ?_
  refine o_newa (N := 8) dX4_init_72 rfl (Nat.le_of_ble_eq_true rfl) (Nat.le_of_ble_eq_true rfl) (Nat.le_of_ble_eq_true rfl) (Nat.le_of_ble_eq_true rfl) rfl rfl rfl ?_
  refine o_eqw (w2 := [.inr (4, [.ref 1, .ref 13, .ref 25, .int 0, .ref 37, .ref 40, .ref 42, .null]), .inr (3, [.ref 2, .ref 10, .ref 11, .ref 12, .int 0, .int 0, .int 0]), .inr (0, [.ref 3, .ref 4, .ref 5, .ref 6, .ref 7, .ref 8, .ref 9, .int 0]), .inl (9, kdO z0), .inl (9, fgO z0), .inl (9, frO z0), .inl (9, inO z0), .inl (9, wdO z0), .inl (64, wsO z0), .inl (64, fsO z0), .inl (7, rmO z0), .inl (7, glO z0), .inl (7, mdO z0), .inr (3, [.ref 14, .ref 22, .ref 23, .ref 24, .int 0, .int 0, .int 0]), .inr (0, [.ref 15, .ref 16, .ref 17, .ref 18, .ref 19, .ref 20, .ref 21, .int 0]), .inl (9, kdO z0), .inl (9, fgO z0), .inl (9, frO z0), .inl (9, inO z0), .inl (9, wdO z0), .inl (64, wsO z0), .inl (64, fsO z0), .inl (7, rmO z0), .inl (7, glO z0), .inl (7, mdO z0), .inr (3, [.ref 26, .ref 34, .ref 35, .ref 36, .int 0, .int 0, .int 0]), .inr (0, [.ref 27, .ref 28, .ref 29, .ref 30, .ref 31, .ref 32, .ref 33, .int 0]), .inl (9, kdO z0), .inl (9, fgO z0), .inl (9, frO z0), .inl (9, inO z0), .inl (9, wdO z0), .inl (64, wsO z0), .inl (64, fsO z0), .inl (7, rmO z0), .inl (7, glO z0), .inl (7, mdO z0), .inr (1, [.ref 38]), .inr (2, [.ref 39, .int 0]), .inl (96, z0), .inr (2, [.ref 41, .int 0]), .inl (16, z0), .inl (7, z0), .inl (8, z0)]) rfl ?_
  refine o_putF (j := 7) tyX4 dX4_init_74 rfl hcX4 inX4 tyX4_ok nmX4 (Nat.le_of_ble_eq_true rfl) wd211 rfl rfl rfl rfl (fun _ => rfl) (fun _ => rfl) (Nat.le_of_ble_eq_true rfl) rfl ?_
  refine o_eqw (w2 := [.inr (4, [.ref 1, .ref 13, .ref 25, .int 0, .ref 37, .ref 40, .ref 42, .ref 43]), .inr (3, [.ref 2, .ref 10, .ref 11, .ref 12, .int 0, .int 0, .int 0]), .inr (0, [.ref 3, .ref 4, .ref 5, .ref 6, .ref 7, .ref 8, .ref 9, .int 0]), .inl (9, kdO z0), .inl (9, fgO z0), .inl (9, frO z0), .inl (9, inO z0), .inl (9, wdO z0), .inl (64, wsO z0), .inl (64, fsO z0), .inl (7, rmO z0), .inl (7, glO z0), .inl (7, mdO z0), .inr (3, [.ref 14, .ref 22, .ref 23, .ref 24, .int 0, .int 0, .int 0]), .inr (0, [.ref 15, .ref 16, .ref 17, .ref 18, .ref 19, .ref 20, .ref 21, .int 0]), .inl (9, kdO z0), .inl (9, fgO z0), .inl (9, frO z0), .inl (9, inO z0), .inl (9, wdO z0), .inl (64, wsO z0), .inl (64, fsO z0), .inl (7, rmO z0), .inl (7, glO z0), .inl (7, mdO z0), .inr (3, [.ref 26, .ref 34, .ref 35, .ref 36, .int 0, .int 0, .int 0]), .inr (0, [.ref 27, .ref 28, .ref 29, .ref 30, .ref 31, .ref 32, .ref 33, .int 0]), .inl (9, kdO z0), .inl (9, fgO z0), .inl (9, frO z0), .inl (9, inO z0), .inl (9, wdO z0), .inl (64, wsO z0), .inl (64, fsO z0), .inl (7, rmO z0), .inl (7, glO z0), .inl (7, mdO z0), .inr (1, [.ref 38]), .inr (2, [.ref 39, .int 0]), .inl (96, z0), .inr (2, [.ref 41, .int 0]), .inl (16, z0), .inl (7, z0), .inl (8, z0)]) rfl ?_
  refine o_vret dX4_init_77 rfl (Nat.le_of_ble_eq_true rfl) (Nat.le_of_ble_eq_true rfl) ?_
  exact ⟨rfl, rfl⟩
theorem tX5_init  : PD mX5_init [.ref 0] [.inr (5, [.null, .null, .null, .null, .null, .int 0, .null, .null, .null, .int 0, .int 0, .int 0, .null, .int 0])] none (mW z0 z0 z0 z0 z0 0 z0 z0 z0 0 0 0 z0 0) := by
  refine PM.ofp 0 (by decide) (Nat.le_of_ble_eq_true rfl) ?_
  show Ok mX5_init none 0 [some (.ref 0)] [] [.inr (5, [.null, .null, .null, .null, .null, .int 0, .null, .null, .null, .int 0, .int 0, .int 0, .null, .int 0])] 0 0 _
  refine o_aload_n dX5_init_0 rfl rfl ?_
  refine o_objInit dX5_init_1 wd685 wd70 wd71 (Nat.le_of_ble_eq_true rfl) (Nat.le_of_ble_eq_true rfl) ?_
  refine o_aload_n dX5_init_4 rfl rfl ?_
  refine o_bipush dX5_init_5 bp_71 ?_
  refine o_newa (N := 71) dX5_init_7 rfl (Nat.le_of_ble_eq_true rfl) (Nat.le_of_ble_eq_true rfl) (Nat.le_of_ble_eq_true rfl) (Nat.le_of_ble_eq_true rfl) rfl rfl rfl ?_
  refine o_eqw (w2 := [.inr (5, [.null, .null, .null, .null, .null, .int 0, .null, .null, .null, .int 0, .int 0, .int 0, .null, .int 0]), .inl (71, z0)]) rfl ?_
  refine o_putF (j := 0) tyX5 dX5_init_9 rfl hcX5 inX5 tyX5_ok nmX5 (Nat.le_of_ble_eq_true rfl) wd686 rfl rfl rfl rfl (fun _ => rfl) (fun _ => rfl) (Nat.le_of_ble_eq_true rfl) rfl ?_
  refine o_eqw (w2 := [.inr (5, [.ref 1, .null, .null, .null, .null, .int 0, .null, .null, .null, .int 0, .int 0, .int 0, .null, .int 0]), .inl (71, z0)]) rfl ?_
  refine o_aload_n dX5_init_12 rfl rfl ?_
  refine o_bipush dX5_init_13 bp_71 ?_
  refine o_newa (N := 71) dX5_init_15 rfl (Nat.le_of_ble_eq_true rfl) (Nat.le_of_ble_eq_true rfl) (Nat.le_of_ble_eq_true rfl) (Nat.le_of_ble_eq_true rfl) rfl rfl rfl ?_
  refine o_eqw (w2 := [.inr (5, [.ref 1, .null, .null, .null, .null, .int 0, .null, .null, .null, .int 0, .int 0, .int 0, .null, .int 0]), .inl (71, z0), .inl (71, z0)]) rfl ?_
  refine o_putF (j := 1) tyX5 dX5_init_17 rfl hcX5 inX5 tyX5_ok nmX5 (Nat.le_of_ble_eq_true rfl) wd687 rfl rfl rfl rfl (fun _ => rfl) (fun _ => rfl) (Nat.le_of_ble_eq_true rfl) rfl ?_
  refine o_eqw (w2 := [.inr (5, [.ref 1, .ref 2, .null, .null, .null, .int 0, .null, .null, .null, .int 0, .int 0, .int 0, .null, .int 0]), .inl (71, z0), .inl (71, z0)]) rfl ?_
  refine o_aload_n dX5_init_20 rfl rfl ?_
  refine o_bipush dX5_init_21 bp_71 ?_
  refine o_newa (N := 71) dX5_init_23 rfl (Nat.le_of_ble_eq_true rfl) (Nat.le_of_ble_eq_true rfl) (Nat.le_of_ble_eq_true rfl) (Nat.le_of_ble_eq_true rfl) rfl rfl rfl ?_
  refine o_eqw (w2 := [.inr (5, [.ref 1, .ref 2, .null, .null, .null, .int 0, .null, .null, .null, .int 0, .int 0, .int 0, .null, .int 0]), .inl (71, z0), .inl (71, z0), .inl (71, z0)]) rfl ?_
  refine o_putF (j := 2) tyX5 dX5_init_25 rfl hcX5 inX5 tyX5_ok nmX5 (Nat.le_of_ble_eq_true rfl) wd688 rfl rfl rfl rfl (fun _ => rfl) (fun _ => rfl) (Nat.le_of_ble_eq_true rfl) rfl ?_
  refine o_eqw (w2 := [.inr (5, [.ref 1, .ref 2, .ref 3, .null, .null, .int 0, .null, .null, .null, .int 0, .int 0, .int 0, .null, .int 0]), .inl (71, z0), .inl (71, z0), .inl (71, z0)]) rfl ?_
  refine o_aload_n dX5_init_28 rfl rfl ?_
  refine o_bipush dX5_init_29 bp_71 ?_
  refine o_newa (N := 71) dX5_init_31 rfl (Nat.le_of_ble_eq_true rfl) (Nat.le_of_ble_eq_true rfl) (Nat.le_of_ble_eq_true rfl) (Nat.le_of_ble_eq_true rfl) rfl rfl rfl ?_
  refine o_eqw (w2 := [.inr (5, [.ref 1, .ref 2, .ref 3, .null, .null, .int 0, .null, .null, .null, .int 0, .int 0, .int 0, .null, .int 0]), .inl (71, z0), .inl (71, z0), .inl (71, z0), .inl (71, z0)]) rfl ?_
  refine o_putF (j := 3) tyX5 dX5_init_33 rfl hcX5 inX5 tyX5_ok nmX5 (Nat.le_of_ble_eq_true rfl) wd689 rfl rfl rfl rfl (fun _ => rfl) (fun _ => rfl) (Nat.le_of_ble_eq_true rfl) rfl ?_
  refine o_eqw (w2 := [.inr (5, [.ref 1, .ref 2, .ref 3, .ref 4, .null, .int 0, .null, .null, .null, .int 0, .int 0, .int 0, .null, .int 0]), .inl (71, z0), .inl (71, z0), .inl (71, z0), .inl (71, z0)]) rfl ?_
  refine o_aload_n dX5_init_36 rfl rfl ?_
  refine o_bipush dX5_init_37 bp_64 ?_
  refine o_newa (N := 64) dX5_init_39 rfl (Nat.le_of_ble_eq_true rfl) (Nat.le_of_ble_eq_true rfl) (Nat.le_of_ble_eq_true rfl) (Nat.le_of_ble_eq_true rfl) rfl rfl rfl ?_
  refine o_eqw (w2 := [.inr (5, [.ref 1, .ref 2, .ref 3, .ref 4, .null, .int 0, .null, .null, .null, .int 0, .int 0, .int 0, .null, .int 0]), .inl (71, z0), .inl (71, z0), .inl (71, z0), .inl (71, z0), .inl (64, z0)]) rfl ?_
  refine o_putF (j := 4) tyX5 dX5_init_41 rfl hcX5 inX5 tyX5_ok nmX5 (Nat.le_of_ble_eq_true rfl) wd690 rfl rfl rfl rfl (fun _ => rfl) (fun _ => rfl) (Nat.le_of_ble_eq_true rfl) rfl ?_
  refine o_eqw (w2 := [.inr (5, [.ref 1, .ref 2, .ref 3, .ref 4, .ref 5, .int 0, .null, .null, .null, .int 0, .int 0, .int 0, .null, .int 0]), .inl (71, z0), .inl (71, z0), .inl (71, z0), .inl (71, z0), .inl (64, z0)]) rfl ?_
  refine o_aload_n dX5_init_44 rfl rfl ?_
  refine o_bipush dX5_init_45 bp_96 ?_
  refine o_newa (N := 96) dX5_init_47 rfl (Nat.le_of_ble_eq_true rfl) (Nat.le_of_ble_eq_true rfl) (Nat.le_of_ble_eq_true rfl) (Nat.le_of_ble_eq_true rfl) rfl rfl rfl ?_
  refine o_eqw (w2 := [.inr (5, [.ref 1, .ref 2, .ref 3, .ref 4, .ref 5, .int 0, .null, .null, .null, .int 0, .int 0, .int 0, .null, .int 0]), .inl (71, z0), .inl (71, z0), .inl (71, z0), .inl (71, z0), .inl (64, z0), .inl (96, z0)]) rfl ?_
  refine o_putF (j := 6) tyX5 dX5_init_49 rfl hcX5 inX5 tyX5_ok nmX5 (Nat.le_of_ble_eq_true rfl) wd692 rfl rfl rfl rfl (fun _ => rfl) (fun _ => rfl) (Nat.le_of_ble_eq_true rfl) rfl ?_
  refine o_eqw (w2 := [.inr (5, [.ref 1, .ref 2, .ref 3, .ref 4, .ref 5, .int 0, .ref 6, .null, .null, .int 0, .int 0, .int 0, .null, .int 0]), .inl (71, z0), .inl (71, z0), .inl (71, z0), .inl (71, z0), .inl (64, z0), .inl (96, z0)]) rfl ?_
  refine o_aload_n dX5_init_52 rfl rfl ?_
  refine o_bipush dX5_init_53 bp_16 ?_
  refine o_newa (N := 16) dX5_init_55 rfl (Nat.le_of_ble_eq_true rfl) (Nat.le_of_ble_eq_true rfl) (Nat.le_of_ble_eq_true rfl) (Nat.le_of_ble_eq_true rfl) rfl rfl rfl ?_
  refine o_eqw (w2 := [.inr (5, [.ref 1, .ref 2, .ref 3, .ref 4, .ref 5, .int 0, .ref 6, .null, .null, .int 0, .int 0, .int 0, .null, .int 0]), .inl (71, z0), .inl (71, z0), .inl (71, z0), .inl (71, z0), .inl (64, z0), .inl (96, z0), .inl (16, z0)]) rfl ?_
  refine o_putF (j := 7) tyX5 dX5_init_57 rfl hcX5 inX5 tyX5_ok nmX5 (Nat.le_of_ble_eq_true rfl) wd693 rfl rfl rfl rfl (fun _ => rfl) (fun _ => rfl) (Nat.le_of_ble_eq_true rfl) rfl ?_
  refine o_eqw (w2 := [.inr (5, [.ref 1, .ref 2, .ref 3, .ref 4, .ref 5, .int 0, .ref 6, .ref 7, .null, .int 0, .int 0, .int 0, .null, .int 0]), .inl (71, z0), .inl (71, z0), .inl (71, z0), .inl (71, z0), .inl (64, z0), .inl (96, z0), .inl (16, z0)]) rfl ?_
  refine o_aload_n dX5_init_60 rfl rfl ?_
  refine o_bipush dX5_init_61 bp_7 ?_
  refine o_newa (N := 7) dX5_init_63 rfl (Nat.le_of_ble_eq_true rfl) (Nat.le_of_ble_eq_true rfl) (Nat.le_of_ble_eq_true rfl) (Nat.le_of_ble_eq_true rfl) rfl rfl rfl ?_
  refine o_eqw (w2 := [.inr (5, [.ref 1, .ref 2, .ref 3, .ref 4, .ref 5, .int 0, .ref 6, .ref 7, .null, .int 0, .int 0, .int 0, .null, .int 0]), .inl (71, z0), .inl (71, z0), .inl (71, z0), .inl (71, z0), .inl (64, z0), .inl (96, z0), .inl (16, z0), .inl (7, z0)]) rfl ?_
  refine o_putF (j := 8) tyX5 dX5_init_65 rfl hcX5 inX5 tyX5_ok nmX5 (Nat.le_of_ble_eq_true rfl) wd694 rfl rfl rfl rfl (fun _ => rfl) (fun _ => rfl) (Nat.le_of_ble_eq_true rfl) rfl ?_
  refine o_eqw (w2 := [.inr (5, [.ref 1, .ref 2, .ref 3, .ref 4, .ref 5, .int 0, .ref 6, .ref 7, .ref 8, .int 0, .int 0, .int 0, .null, .int 0]), .inl (71, z0), .inl (71, z0), .inl (71, z0), .inl (71, z0), .inl (64, z0), .inl (96, z0), .inl (16, z0), .inl (7, z0)]) rfl ?_
  refine o_aload_n dX5_init_68 rfl rfl ?_
  refine o_iconst dX5_init_69 ic_4 ?_
  refine o_newa (N := 4) dX5_init_70 rfl (Nat.le_of_ble_eq_true rfl) (Nat.le_of_ble_eq_true rfl) (Nat.le_of_ble_eq_true rfl) (Nat.le_of_ble_eq_true rfl) rfl rfl rfl ?_
  refine o_eqw (w2 := [.inr (5, [.ref 1, .ref 2, .ref 3, .ref 4, .ref 5, .int 0, .ref 6, .ref 7, .ref 8, .int 0, .int 0, .int 0, .null, .int 0]), .inl (71, z0), .inl (71, z0), .inl (71, z0), .inl (71, z0), .inl (64, z0), .inl (96, z0), .inl (16, z0), .inl (7, z0), .inl (4, z0)]) rfl ?_
  refine o_putF (j := 12) tyX5 dX5_init_72 rfl hcX5 inX5 tyX5_ok nmX5 (Nat.le_of_ble_eq_true rfl) wd698 rfl rfl rfl rfl (fun _ => rfl) (fun _ => rfl) (Nat.le_of_ble_eq_true rfl) rfl ?_
  refine o_eqw (w2 := [.inr (5, [.ref 1, .ref 2, .ref 3, .ref 4, .ref 5, .int 0, .ref 6, .ref 7, .ref 8, .int 0, .int 0, .int 0, .ref 9, .int 0]), .inl (71, z0), .inl (71, z0), .inl (71, z0), .inl (71, z0), .inl (64, z0), .inl (96, z0), .inl (16, z0), .inl (7, z0), .inl (4, z0)]) rfl ?_
  refine o_vret dX5_init_75 rfl (Nat.le_of_ble_eq_true rfl) (Nat.le_of_ble_eq_true rfl) ?_
  exact ⟨rfl, rfl⟩
