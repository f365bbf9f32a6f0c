theorem has_in {p N : Nat} {x : Int32} (h1 : x = nI N) (hp : p < N) (hN : N < 2147483648) : (!decide (nI p < 0) && !decide (x ≤ nI p)) = true := by
  have q1 := nI_pos (n := p) (by omega)
  have q2 : ¬ x ≤ nI p := by rw [h1]; exact nI_ge hp hN
  simp only [q1, q2, decide_false, Bool.not_false, Bool.and_self]
def shR (r : Nat → Int32) (j : Nat) : Nat → Int32 := upd (upd (upd r (50 + 3 * j) (r (50 + 3 * (j + 1)))) (51 + 3 * j) (r (51 + 3 * (j + 1)))) (52 + 3 * j) (r (52 + 3 * (j + 1)))
def remL : Nat → Nat → (Nat → Int32) → (Nat → Int32)
  | 0, _, r => r
  | q + 1, j, r => remL q (j + 1) (shR r j)
def rmP (r : Nat → Int32) (N p : Nat) : Nat → Int32 := upd (remL (N - 1 - p) p r) 1 (nI (N - 1))
theorem lX3_rem {ws fs R : Nat → Int32} {N : Nat} {x1 : Int32} (hN : N ≤ 7) : ∀ (q k : Nat) (r : Nat → Int32), k + 1 + q = N → r 1 = nI N → remL q k r = R →
    Ok mX3_removePerson none 11 [some (.ref 0), some (.int x1), some (.int (nI k))] [] (tW r ws fs) 0 0 (fun r2 w2 => r2 = none ∧ w2 = tW (upd R 1 (nI (N - 1))) ws fs) := by
  intro q
  induction q with
  | zero =>
    intro k r hk h1 hR
    have hR : r = R := hR
    subst hR
    refine o_iload_n dX3_removePerson_11 rfl rfl ?_
    refine o_iconst dX3_removePerson_12 ic_1 ?_
    refine o_iadd dX3_removePerson_13 ?_
    refine o_aload_n dX3_removePerson_14 rfl rfl ?_
    refine o_getf (j := 4) dX3_removePerson_15 rfl hcX3 inX3 (Nat.le_of_ble_eq_true rfl) wd148 rfl rfl ?_
    refine o_icmp_ge (tgt := 81) dX3_removePerson_18 (by decide) (fun c_18 => ?_) (fun c_18 => ?_)
    · skip
      refine o_aload_n dX3_removePerson_81 rfl rfl ?_
      refine o_dup dX3_removePerson_82 rfl ?_
      refine o_getf (j := 4) dX3_removePerson_83 rfl hcX3 inX3 (Nat.le_of_ble_eq_true rfl) wd148 rfl rfl ?_
      refine o_iconst dX3_removePerson_86 ic_1 ?_
      refine o_isub dX3_removePerson_87 ?_
      refine o_putf (j := 4) tyX3 dX3_removePerson_88 rfl hcX3 inX3 tyX3_ok nmX3 (Nat.le_of_ble_eq_true rfl) wd148 rfl rfl (fun _ => vp_nar_int _) (fun _ => rfl) (Nat.le_of_ble_eq_true rfl) rfl ?_
      refine o_eqw (w2 := tW (upd r 1 (nI (N - 1))) ws fs) (by rw [h1, show N = N - 1 + 1 by omega, nI_pred]; exact tW_n) ?_
      refine o_vret dX3_removePerson_91 rfl (Nat.le_of_ble_eq_true rfl) (Nat.le_of_ble_eq_true rfl) ?_
      exact ⟨rfl, rfl⟩
    · exact absurd (by rw [h1, nI_1]; exact nI_le (by omega) (by omega)) c_18
  | succ q ih =>
    intro k r hk h1 hR
    refine o_iload_n dX3_removePerson_11 rfl rfl ?_
    refine o_iconst dX3_removePerson_12 ic_1 ?_
    refine o_iadd dX3_removePerson_13 ?_
    refine o_aload_n dX3_removePerson_14 rfl rfl ?_
    refine o_getf (j := 4) dX3_removePerson_15 rfl hcX3 inX3 (Nat.le_of_ble_eq_true rfl) wd148 rfl rfl ?_
    refine o_icmp_ge (tgt := 81) dX3_removePerson_18 (by decide) (fun c_18 => ?_) (fun c_18 => ?_)
    · rw [h1, nI_1] at c_18
      exact absurd (geI (by omega) (by omega) c_18) (by omega)
    · skip
      refine o_aload_n dX3_removePerson_21 rfl rfl ?_
      refine o_getf (j := 1) dX3_removePerson_22 rfl hcX3 inX3 (Nat.le_of_ble_eq_true rfl) wd140 rfl rfl ?_
      refine o_iload_n dX3_removePerson_25 rfl rfl ?_
      refine o_aload_n dX3_removePerson_26 rfl rfl ?_
      refine o_getf (j := 1) dX3_removePerson_27 rfl hcX3 inX3 (Nat.le_of_ble_eq_true rfl) wd140 rfl rfl ?_
      refine o_iload_n dX3_removePerson_30 rfl rfl ?_
      refine o_iconst dX3_removePerson_31 ic_1 ?_
      refine o_iadd dX3_removePerson_32 ?_
      refine o_callSNr (is := [9]) (at_pp (by decide) (nI_1 k) (by omega)) ⟨rfl, rfl⟩ dX3_removePerson_33 wd346 csX4_at rfl ⟨(Nat.le_of_ble_eq_true rfl), (Nat.le_of_ble_eq_true rfl)⟩ rfl rfl rfl (Nat.le_of_ble_eq_true rfl) (Nat.le_of_ble_eq_true rfl) (Nat.le_of_ble_eq_true rfl) ?_
      refine o_callSNd (is := [9]) (put_f (by decide) rfl (by omega)) ⟨rfl, rfl⟩ dX3_removePerson_36 wd314 csX4_put rfl ⟨(Nat.le_of_ble_eq_true rfl), (Nat.le_of_ble_eq_true rfl)⟩ rfl rfl rfl (Nat.le_of_ble_eq_true rfl) (Nat.le_of_ble_eq_true rfl) (Nat.le_of_ble_eq_true rfl) rfl ?_
      refine o_eqw (w2 := tW (upd r (50 + 3 * k) (r (50 + 3 * (k + 1)))) ws fs) (by rw [tW_room (by omega)]; rfl) ?_
      refine o_aload_n dX3_removePerson_39 rfl rfl ?_
      refine o_getf (j := 2) dX3_removePerson_40 rfl hcX3 inX3 (Nat.le_of_ble_eq_true rfl) wd143 rfl rfl ?_
      refine o_iload_n dX3_removePerson_43 rfl rfl ?_
      refine o_aload_n dX3_removePerson_44 rfl rfl ?_
      refine o_getf (j := 2) dX3_removePerson_45 rfl hcX3 inX3 (Nat.le_of_ble_eq_true rfl) wd143 rfl rfl ?_
      refine o_iload_n dX3_removePerson_48 rfl rfl ?_
      refine o_iconst dX3_removePerson_49 ic_1 ?_
      refine o_iadd dX3_removePerson_50 ?_
      refine o_callSNr (is := [10]) ((at_pp (by decide) (nI_1 k) (by omega) : PD _ _ _ _ _).mono (by rw [upd_ne (by omega)])) ⟨rfl, rfl⟩ dX3_removePerson_51 wd346 csX4_at rfl ⟨(Nat.le_of_ble_eq_true rfl), (Nat.le_of_ble_eq_true rfl)⟩ rfl rfl rfl (Nat.le_of_ble_eq_true rfl) (Nat.le_of_ble_eq_true rfl) (Nat.le_of_ble_eq_true rfl) ?_
      refine o_callSNd (is := [10]) (put_f (by decide) rfl (by omega)) ⟨rfl, rfl⟩ dX3_removePerson_54 wd314 csX4_put rfl ⟨(Nat.le_of_ble_eq_true rfl), (Nat.le_of_ble_eq_true rfl)⟩ rfl rfl rfl (Nat.le_of_ble_eq_true rfl) (Nat.le_of_ble_eq_true rfl) (Nat.le_of_ble_eq_true rfl) rfl ?_
      refine o_eqw (w2 := tW (upd (upd r (50 + 3 * k) (r (50 + 3 * (k + 1)))) (51 + 3 * k) (r (51 + 3 * (k + 1)))) ws fs) (by rw [tW_goal (by omega)]; rfl) ?_
      refine o_aload_n dX3_removePerson_57 rfl rfl ?_
      refine o_getf (j := 3) dX3_removePerson_58 rfl hcX3 inX3 (Nat.le_of_ble_eq_true rfl) wd146 rfl rfl ?_
      refine o_iload_n dX3_removePerson_61 rfl rfl ?_
      refine o_aload_n dX3_removePerson_62 rfl rfl ?_
      refine o_getf (j := 3) dX3_removePerson_63 rfl hcX3 inX3 (Nat.le_of_ble_eq_true rfl) wd146 rfl rfl ?_
      refine o_iload_n dX3_removePerson_66 rfl rfl ?_
      refine o_iconst dX3_removePerson_67 ic_1 ?_
      refine o_iadd dX3_removePerson_68 ?_
      refine o_callSNr (is := [11]) ((at_pp (by decide) (nI_1 k) (by omega) : PD _ _ _ _ _).mono (by rw [upd_ne (by omega), upd_ne (by omega)])) ⟨rfl, rfl⟩ dX3_removePerson_69 wd346 csX4_at rfl ⟨(Nat.le_of_ble_eq_true rfl), (Nat.le_of_ble_eq_true rfl)⟩ rfl rfl rfl (Nat.le_of_ble_eq_true rfl) (Nat.le_of_ble_eq_true rfl) (Nat.le_of_ble_eq_true rfl) ?_
      refine o_callSNd (is := [11]) (put_f (by decide) rfl (by omega)) ⟨rfl, rfl⟩ dX3_removePerson_72 wd314 csX4_put rfl ⟨(Nat.le_of_ble_eq_true rfl), (Nat.le_of_ble_eq_true rfl)⟩ rfl rfl rfl (Nat.le_of_ble_eq_true rfl) (Nat.le_of_ble_eq_true rfl) (Nat.le_of_ble_eq_true rfl) rfl ?_
      refine o_eqw (w2 := tW (shR r k) ws fs) (by unfold shR; rw [tW_mood (by omega)]; rfl) ?_
      refine o_inc_2 dX3_removePerson_75 rfl ic_1 (Nat.le_of_ble_eq_true rfl) ?_
      refine o_goto (tgt := 11) dX3_removePerson_78 (by decide) ?_
      exact o_eqa (by rw [nI_1]) rfl (ih (k + 1) (shR r k) (by omega) (by unfold shR; rw [upd_ne (by omega), upd_ne (by omega), upd_ne (by omega)]; exact h1) hR)
theorem tX3_removePerson {r ws fs : Nat → Int32} {N p : Nat} (hN : N ≤ 7) (h1 : r 1 = nI N) (hp : p < N) : PD mX3_removePerson [.ref 0, .int (nI p)] (tW r ws fs) (none) (tW (rmP r N p) ws fs) := by
  refine PM.ofp 1 (by decide) (Nat.le_of_ble_eq_true rfl) ?_
  show Ok mX3_removePerson none 0 [some (.ref 0), some (.int (nI p)), none] [] (tW r ws fs) 0 0 _
  refine o_aload_n dX3_removePerson_0 rfl rfl ?_
  refine o_iload_n dX3_removePerson_1 rfl rfl ?_
  refine o_callVr (is := [0, 1, 2, 3, 4, 5, 6, 7, 8, 9, 10, 11]) (tX3_has) ⟨rfl, rfl⟩ dX3_removePerson_2 wd543 cvX3_has rfl ⟨(Nat.le_of_ble_eq_true rfl), (Nat.le_of_ble_eq_true rfl)⟩ hcX3 rfl rfl rfl rfl (Nat.le_of_ble_eq_true rfl) (Nat.le_of_ble_eq_true rfl) (Nat.le_of_ble_eq_true rfl) ?_
  refine o_if_ne (tgt := 9) dX3_removePerson_5 (by decide) (fun c_5 => ?_) (fun c_5 => ?_)
  · skip
    refine o_iload_n dX3_removePerson_9 rfl rfl ?_
    refine o_istn_2 dX3_removePerson_10 rfl rfl (Nat.le_of_ble_eq_true rfl) ?_
    exact lX3_rem hN (N - 1 - p) p r (by omega) h1 rfl
  · exact absurd c_5 (by rw [bI_0, has_in h1 hp (by omega)]; decide)
abbrev tG2 (kd fg fr io wg ws fs rm gl md : Nat → Int32) (sz n h l : Int32) (kd' fg' fr' io' wg' ws' fs' rm' gl' md' : Nat → Int32) (sz' n' h' l' : Int32) : PW := [.inr (3, [.ref 1, .ref 9, .ref 10, .ref 11, .int n, .int h, .int l]), .inr (0, [.ref 2, .ref 3, .ref 4, .ref 5, .ref 6, .ref 7, .ref 8, .int sz]), .inl (9, kd), .inl (9, fg), .inl (9, fr), .inl (9, io), .inl (9, wg), .inl (64, ws), .inl (64, fs), .inl (7, rm), .inl (7, gl), .inl (7, md),
  .inr (3, [.ref 13, .ref 21, .ref 22, .ref 23, .int n', .int h', .int l']), .inr (0, [.ref 14, .ref 15, .ref 16, .ref 17, .ref 18, .ref 19, .ref 20, .int sz']), .inl (9, kd'), .inl (9, fg'), .inl (9, fr'), .inl (9, io'), .inl (9, wg'), .inl (64, ws'), .inl (64, fs'), .inl (7, rm'), .inl (7, gl'), .inl (7, md')]
abbrev tW2 (r ws fs r' ws' fs' : Nat → Int32) : PW := tG2 (kdO r) (fgO r) (frO r) (inO r) (wdO r) ws fs (rmO r) (glO r) (mdO r) (r 0) (r 1) (r 2) (r 3) (kdO r') (fgO r') (frO r') (inO r') (wdO r') ws' fs' (rmO r') (glO r') (mdO r') (r' 0) (r' 1) (r' 2) (r' 3)
theorem tX3_become {r ws fs r' ws' fs' : Nat → Int32} : PD mX3_become [.ref 0, .ref 12] (tW2 r ws fs r' ws' fs') (none) (tW2 r' ws' fs' r' ws' fs') := by
  refine PM.ofp 0 (by decide) (Nat.le_of_ble_eq_true rfl) ?_
  show Ok mX3_become none 0 [some (.ref 0), some (.ref 12)] [] (tW2 r ws fs r' ws' fs') 0 0 _
  refine o_aload_n dX3_become_0 rfl rfl ?_
  refine o_getf (j := 0) dX3_become_1 rfl hcX3 inX3 (Nat.le_of_ble_eq_true rfl) wd137 rfl rfl ?_
  refine o_aload_n dX3_become_4 rfl rfl ?_
  refine o_getf (j := 0) dX3_become_5 rfl hcX3 inX3 (Nat.le_of_ble_eq_true rfl) wd137 rfl rfl ?_
  refine o_callVd (is := [1, 2, 3, 4, 5, 6, 7, 8, 13, 14, 15, 16, 17, 18, 19, 20]) (tX0_become) ⟨rfl, rfl⟩ dX3_become_8 wd277 cvX0_become rfl ⟨(Nat.le_of_ble_eq_true rfl), (Nat.le_of_ble_eq_true rfl)⟩ hcX0 rfl rfl rfl rfl (Nat.le_of_ble_eq_true rfl) (Nat.le_of_ble_eq_true rfl) (Nat.le_of_ble_eq_true rfl) rfl ?_
  refine o_eqw (w2 := tG2 (kdO r') (fgO r') (frO r') (inO r') (wdO r') ws' fs' (rmO r) (glO r) (mdO r) (r' 0) (r 1) (r 2) (r 3) (kdO r') (fgO r') (frO r') (inO r') (wdO r') ws' fs' (rmO r') (glO r') (mdO r') (r' 0) (r' 1) (r' 2) (r' 3)) rfl ?_
  refine o_aload_n dX3_become_11 rfl rfl ?_
  refine o_getf (j := 1) dX3_become_12 rfl hcX3 inX3 (Nat.le_of_ble_eq_true rfl) wd140 rfl rfl ?_
  refine o_aload_n dX3_become_15 rfl rfl ?_
  refine o_getf (j := 1) dX3_become_16 rfl hcX3 inX3 (Nat.le_of_ble_eq_true rfl) wd140 rfl rfl ?_
  refine o_callSNd (is := [21, 9]) (tX4_copy (by decide)) ⟨rfl, rfl⟩ dX3_become_19 wd290 csX4_copy rfl ⟨(Nat.le_of_ble_eq_true rfl), (Nat.le_of_ble_eq_true rfl)⟩ rfl rfl rfl (Nat.le_of_ble_eq_true rfl) (Nat.le_of_ble_eq_true rfl) (Nat.le_of_ble_eq_true rfl) rfl ?_
  refine o_eqw (w2 := tG2 (kdO r') (fgO r') (frO r') (inO r') (wdO r') ws' fs' (rmO r') (glO r) (mdO r) (r' 0) (r 1) (r 2) (r 3) (kdO r') (fgO r') (frO r') (inO r') (wdO r') ws' fs' (rmO r') (glO r') (mdO r') (r' 0) (r' 1) (r' 2) (r' 3)) rfl ?_
  refine o_aload_n dX3_become_22 rfl rfl ?_
  refine o_getf (j := 2) dX3_become_23 rfl hcX3 inX3 (Nat.le_of_ble_eq_true rfl) wd143 rfl rfl ?_
  refine o_aload_n dX3_become_26 rfl rfl ?_
  refine o_getf (j := 2) dX3_become_27 rfl hcX3 inX3 (Nat.le_of_ble_eq_true rfl) wd143 rfl rfl ?_
  refine o_callSNd (is := [22, 10]) (tX4_copy (by decide)) ⟨rfl, rfl⟩ dX3_become_30 wd290 csX4_copy rfl ⟨(Nat.le_of_ble_eq_true rfl), (Nat.le_of_ble_eq_true rfl)⟩ rfl rfl rfl (Nat.le_of_ble_eq_true rfl) (Nat.le_of_ble_eq_true rfl) (Nat.le_of_ble_eq_true rfl) rfl ?_
  refine o_eqw (w2 := tG2 (kdO r') (fgO r') (frO r') (inO r') (wdO r') ws' fs' (rmO r') (glO r') (mdO r) (r' 0) (r 1) (r 2) (r 3) (kdO r') (fgO r') (frO r') (inO r') (wdO r') ws' fs' (rmO r') (glO r') (mdO r') (r' 0) (r' 1) (r' 2) (r' 3)) rfl ?_
  refine o_aload_n dX3_become_33 rfl rfl ?_
  refine o_getf (j := 3) dX3_become_34 rfl hcX3 inX3 (Nat.le_of_ble_eq_true rfl) wd146 rfl rfl ?_
  refine o_aload_n dX3_become_37 rfl rfl ?_
  refine o_getf (j := 3) dX3_become_38 rfl hcX3 inX3 (Nat.le_of_ble_eq_true rfl) wd146 rfl rfl ?_
  refine o_callSNd (is := [23, 11]) (tX4_copy (by decide)) ⟨rfl, rfl⟩ dX3_become_41 wd290 csX4_copy rfl ⟨(Nat.le_of_ble_eq_true rfl), (Nat.le_of_ble_eq_true rfl)⟩ rfl rfl rfl (Nat.le_of_ble_eq_true rfl) (Nat.le_of_ble_eq_true rfl) (Nat.le_of_ble_eq_true rfl) rfl ?_
  refine o_eqw (w2 := tG2 (kdO r') (fgO r') (frO r') (inO r') (wdO r') ws' fs' (rmO r') (glO r') (mdO r') (r' 0) (r 1) (r 2) (r 3) (kdO r') (fgO r') (frO r') (inO r') (wdO r') ws' fs' (rmO r') (glO r') (mdO r') (r' 0) (r' 1) (r' 2) (r' 3)) rfl ?_
  refine o_aload_n dX3_become_44 rfl rfl ?_
  refine o_aload_n dX3_become_45 rfl rfl ?_
  refine o_getf (j := 4) dX3_become_46 rfl hcX3 inX3 (Nat.le_of_ble_eq_true rfl) wd148 rfl rfl ?_
  refine o_putf (j := 4) tyX3 dX3_become_49 rfl hcX3 inX3 tyX3_ok nmX3 (Nat.le_of_ble_eq_true rfl) wd148 rfl rfl (fun _ => vp_nar_int _) (fun _ => rfl) (Nat.le_of_ble_eq_true rfl) rfl ?_
  refine o_eqw (w2 := tG2 (kdO r') (fgO r') (frO r') (inO r') (wdO r') ws' fs' (rmO r') (glO r') (mdO r') (r' 0) (r' 1) (r 2) (r 3) (kdO r') (fgO r') (frO r') (inO r') (wdO r') ws' fs' (rmO r') (glO r') (mdO r') (r' 0) (r' 1) (r' 2) (r' 3)) rfl ?_
  refine o_aload_n dX3_become_52 rfl rfl ?_
  refine o_aload_n dX3_become_53 rfl rfl ?_
  refine o_getf (j := 5) dX3_become_54 rfl hcX3 inX3 (Nat.le_of_ble_eq_true rfl) wd151 rfl rfl ?_
  refine o_putf (j := 5) tyX3 dX3_become_57 rfl hcX3 inX3 tyX3_ok nmX3 (Nat.le_of_ble_eq_true rfl) wd151 rfl rfl (fun _ => vp_nar_int _) (fun _ => rfl) (Nat.le_of_ble_eq_true rfl) rfl ?_
  refine o_eqw (w2 := tG2 (kdO r') (fgO r') (frO r') (inO r') (wdO r') ws' fs' (rmO r') (glO r') (mdO r') (r' 0) (r' 1) (r' 2) (r 3) (kdO r') (fgO r') (frO r') (inO r') (wdO r') ws' fs' (rmO r') (glO r') (mdO r') (r' 0) (r' 1) (r' 2) (r' 3)) rfl ?_
  refine o_aload_n dX3_become_60 rfl rfl ?_
  refine o_aload_n dX3_become_61 rfl rfl ?_
  refine o_getf (j := 6) dX3_become_62 rfl hcX3 inX3 (Nat.le_of_ble_eq_true rfl) wd154 rfl rfl ?_
  refine o_putf (j := 6) tyX3 dX3_become_65 rfl hcX3 inX3 tyX3_ok nmX3 (Nat.le_of_ble_eq_true rfl) wd154 rfl rfl (fun _ => vp_nar_int _) (fun _ => rfl) (Nat.le_of_ble_eq_true rfl) rfl ?_
  refine o_eqw (w2 := tG2 (kdO r') (fgO r') (frO r') (inO r') (wdO r') ws' fs' (rmO r') (glO r') (mdO r') (r' 0) (r' 1) (r' 2) (r' 3) (kdO r') (fgO r') (frO r') (inO r') (wdO r') ws' fs' (rmO r') (glO r') (mdO r') (r' 0) (r' 1) (r' 2) (r' 3)) rfl ?_
  refine o_vret dX3_become_68 rfl (Nat.le_of_ble_eq_true rfl) (Nat.le_of_ble_eq_true rfl) ?_
  exact ⟨rfl, rfl⟩
