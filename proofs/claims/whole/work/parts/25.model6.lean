def siS (r : Nat → Int32) (g : Nat → Nat) : Nat → Int32
  | 0 => 0
  | k + 1 => siS r g k ||| (if 99 ≤ g (8 * cN (r (50 + 3 * k)) + cN (r (51 + 3 * k))) then 1 <<< (nI k &&& 31) else 0)
def whS (r : Nat → Int32) : Nat → Int32
  | 0 => 0
  | k + 1 => 8 * whS r k + r (50 + 3 * k)
def stB (r : Nat → Int32) (n : Nat) : Nat → Bool
  | 0 => true
  | k + 1 => stB r n k && decide (whS (hrs r (n + k + 1)) (nN r) = whS (hrs r (n + k)) (nN r))
def skF (r : Nat → Int32) : Int32 := dfS (fun n => stB r n 12) 61 0
def rnN (r : Nat → Int32) (g : Nat → Nat) (a : Nat) : Nat → Nat
  | 0 => 99
  | k + 1 => if r (7 + 5 * k) = nI a then min (rnN r g a k) (1 + g (8 * fB r k + a)) else rnN r g a k
def reS (g : Nat → Nat) (a : Nat) : Nat → Int32
  | 0 => 0
  | k + 1 => reS g a k ||| (if g (8 * a + k) < 99 then 1 <<< (nI k &&& 31) else 0)
def opS (r : Nat → Int32) : Nat → Int32
  | 0 => 0
  | k + 1 => opS r k ||| (if opM r (nN r) k (-9) (r 2 + 1) = true then 1 <<< (nI k &&& 31) else 0)
def s_shutIn (σ : St) : Res := (some (.int (siS σ.1 (farOf σ.1) (nN σ.1))), σ)
def s_stuck (σ : St) : Res := (some (.int (skF σ.1)), σ)
def s_way (x y w : Int32) (σ : St) : Res := if inR 8 x && inR 8 y then (if inR 2 w then (some (.int (if 99 ≤ farOf σ.1 (8 * cN x + cN y) then -9 else if w = 0 then nI (farOf σ.1 (8 * cN x + cN y)) else dfS (fun d => onM σ.1 (farOf σ.1) d (cN x) (cN y)) (dN σ.1) 0)), σ) else noR σ 2) else noR σ 1
def s_round (x : Int32) (σ : St) : Res := if inR 8 x then (some (.int (if 99 ≤ rnN σ.1 (farOf σ.1) (cN x) (dN σ.1) then -9 else nI (rnN σ.1 (farOf σ.1) (cN x) (dN σ.1)))), σ) else noR σ 1
def s_reach (x : Int32) (σ : St) : Res := if inR 8 x then (some (.int (reS (farOf σ.1) (cN x) 8)), σ) else noR σ 1
def s_open (σ : St) : Res := (some (.int (opS σ.1 (dN σ.1))), σ)
theorem farOf_le {r : Nat → Int32} (i : Nat) : farOf r i ≤ 99 := frT_le i
theorem bI_and1 (b : Bool) : bI b &&& 1 = bI b := by cases b <;> decide
theorem bI_and0 (b : Bool) : bI b &&& 0 = 0 := by cases b <;> decide
theorem rnN_le {r : Nat → Int32} {g : Nat → Nat} {a : Nat} : ∀ k, rnN r g a k ≤ 99
  | 0 => Nat.le_refl _
  | k + 1 => by
    rw [rnN]
    split
    · exact Nat.le_trans (Nat.min_le_left _ _) (rnN_le k)
    · exact rnN_le k
theorem lX5_shutIn {r m im wa lt rw rf nu : Nat → Int32} {hi pl sd : Int32} {L R : Nat} (hS : SOk r) : ∀ (q k : Nat), nN r - k < q → k ≤ nN r → Ok mX5_shutIn none 12 [some (.ref 0), some (.int (siS r (farOf r) k)), some (.int (nI k))] [] (mW r m im wa (nF (farOf r)) hi lt rw rf (nI L) (nI R) pl nu sd) 0 0 (fun a w => a = some (.int (siS r (farOf r) (nN r))) ∧ w = mW r m im wa (nF (farOf r)) hi lt rw rf (nI L) (nI R) pl nu sd) := by
  intro q
  induction q with
  | zero => intro k hq hk; omega
  | succ q ih =>
  intro k hq hk
  have h6 := hS.n6
  have h9 := hS.d9
  refine o_iload_n dX5_shutIn_12 rfl rfl ?_
  refine o_aload_n dX5_shutIn_13 rfl rfl ?_
  refine o_getf (j := 0) dX5_shutIn_14 rfl hcX5 inX5 (Nat.le_of_ble_eq_true rfl) wd686 rfl rfl ?_
  refine o_iconst dX5_shutIn_17 ic_1 ?_
  refine o_ialp (i := 1) dX5_shutIn_18 rfl (rfl) (by decide) ?_
  refine o_icmp_ge (tgt := 67) dX5_shutIn_19 (by decide) (fun c_19 => ?_) (fun c_19 => ?_)
  · rw [hS.e1] at c_19
    have hkN : k = nN r := Nat.le_antisymm hk (geI (by omega) (by omega) c_19)
    refine o_iload_n dX5_shutIn_67 rfl rfl ?_
    refine o_iret dX5_shutIn_68 rfl (vp_nar_int _) (Nat.le_of_ble_eq_true rfl) (Nat.le_of_ble_eq_true rfl) ?_
    exact ⟨by rw [hkN], rfl⟩
  · rw [hS.e1] at c_19
    have hkN : k < nN r := ltI (by omega) (by omega) c_19
    have qa := (hS.T.2.2.2.2.1 k hkN).1.cN
    have qb := (hS.T.2.2.2.2.1 k hkN).2.cN
    have hle := farOf_le (r := r) (8 * cN (r (50 + 3 * k)) + cN (r (51 + 3 * k)))
    refine o_iload_n dX5_shutIn_22 rfl rfl ?_
    refine o_aload_n dX5_shutIn_23 rfl rfl ?_
    refine o_aload_n dX5_shutIn_24 rfl rfl ?_
    refine o_getf (j := 0) dX5_shutIn_25 rfl hcX5 inX5 (Nat.le_of_ble_eq_true rfl) wd686 rfl rfl ?_
    refine o_iload_n dX5_shutIn_28 rfl rfl ?_
    refine o_iconst dX5_shutIn_29 ic_0 ?_
    refine o_callSr (is := []) (ofP0) ⟨rfl, rfl⟩ dX5_shutIn_30 wd783 csX5_ofP rfl ⟨(Nat.le_of_ble_eq_true rfl), (Nat.le_of_ble_eq_true rfl)⟩ rfl rfl rfl (Nat.le_of_ble_eq_true rfl) (Nat.le_of_ble_eq_true rfl) (Nat.le_of_ble_eq_true rfl) ?_
    refine o_ialp (i := 50 + 3 * k) dX5_shutIn_33 rfl (rfl) (by omega) ?_
    refine o_eqs (by rw [qa.2]) ?_
    refine o_aload_n dX5_shutIn_34 rfl rfl ?_
    refine o_getf (j := 0) dX5_shutIn_35 rfl hcX5 inX5 (Nat.le_of_ble_eq_true rfl) wd686 rfl rfl ?_
    refine o_iload_n dX5_shutIn_38 rfl rfl ?_
    refine o_iconst dX5_shutIn_39 ic_1 ?_
    refine o_callSr (is := []) (ofP1) ⟨rfl, rfl⟩ dX5_shutIn_40 wd783 csX5_ofP rfl ⟨(Nat.le_of_ble_eq_true rfl), (Nat.le_of_ble_eq_true rfl)⟩ rfl rfl rfl (Nat.le_of_ble_eq_true rfl) (Nat.le_of_ble_eq_true rfl) (Nat.le_of_ble_eq_true rfl) ?_
    refine o_ialp (i := 51 + 3 * k) dX5_shutIn_43 rfl (rfl) (by omega) ?_
    refine o_eqs (by rw [qb.2]) ?_
    refine o_callVr (is := [0, 1, 2, 3, 4, 5, 6, 7, 8, 9]) (tX5_wayOf qa.1 qb.1) ⟨rfl, rfl⟩ dX5_shutIn_44 wd823 cvX5_wayOf rfl ⟨(Nat.le_of_ble_eq_true rfl), (Nat.le_of_ble_eq_true rfl)⟩ hcX5 rfl rfl rfl rfl (Nat.le_of_ble_eq_true rfl) (Nat.le_of_ble_eq_true rfl) (Nat.le_of_ble_eq_true rfl) ?_
    refine o_bipush dX5_shutIn_47 bp_99 ?_
    refine o_icmp_lt (tgt := 58) dX5_shutIn_49 (by decide) (fun c_49 => ?_) (fun c_49 => ?_)
    · have hlt := (nI_ltI (b := 99) (by omega) (by omega)).mp c_49
      refine o_iconst dX5_shutIn_58 ic_0 ?_
      refine o_ior dX5_shutIn_59 ?_
      refine o_istn_1 dX5_shutIn_60 rfl rfl (Nat.le_of_ble_eq_true rfl) ?_
      refine o_inc_2 dX5_shutIn_61 rfl ic_1 (Nat.le_of_ble_eq_true rfl) ?_
      refine o_goto (tgt := 12) dX5_shutIn_64 (by decide) ?_
      exact o_eqa (by rw [nI_1, siS, if_neg (by omega)]) rfl (ih (k + 1) (by omega) (by omega))
    · have hlt : 99 ≤ farOf r (8 * cN (r (50 + 3 * k)) + cN (r (51 + 3 * k))) := Nat.not_lt.mp (fun h => c_49 ((nI_ltI (b := 99) (by omega) (by omega)).mpr h))
      refine o_iconst dX5_shutIn_52 ic_1 ?_
      refine o_iload_n dX5_shutIn_53 rfl rfl ?_
      refine o_ishl dX5_shutIn_54 ?_
      refine o_goto (tgt := 59) dX5_shutIn_55 (by decide) ?_
      refine o_ior dX5_shutIn_59 ?_
      refine o_istn_1 dX5_shutIn_60 rfl rfl (Nat.le_of_ble_eq_true rfl) ?_
      refine o_inc_2 dX5_shutIn_61 rfl ic_1 (Nat.le_of_ble_eq_true rfl) ?_
      refine o_goto (tgt := 12) dX5_shutIn_64 (by decide) ?_
      exact o_eqa (by rw [nI_1, siS, if_pos hlt]) rfl (ih (k + 1) (by omega) (by omega))
theorem tX5_shutIn {r m im wa fr lt rw rf nu : Nat → Int32} {hi pl sd : Int32} {L R : Nat} (hS : SOk r) : PM mX5_shutIn [.ref 0] (mW r m im wa fr hi lt rw rf (nI L) (nI R) pl nu sd) (MP (s_shutIn (r, im, hi, lt, L, rw, R, rf))) := by
  refine PM.ofp 2 (by decide) (Nat.le_of_ble_eq_true rfl) ?_
  show Ok mX5_shutIn none 0 [some (.ref 0), none, none] [] (mW r m im wa fr hi lt rw rf (nI L) (nI R) pl nu sd) 0 0 _
  refine o_aload_n dX5_shutIn_0 rfl rfl ?_
  refine o_aload_n dX5_shutIn_1 rfl rfl ?_
  refine o_getf (j := 0) dX5_shutIn_2 rfl hcX5 inX5 (Nat.le_of_ble_eq_true rfl) wd686 rfl rfl ?_
  refine o_callVd (is := [0, 1, 2, 3, 4, 5, 6, 7, 8, 9]) (tX5_measures_s hS.T) ⟨rfl, rfl⟩ dX5_shutIn_5 wd801 cvX5_measures rfl ⟨(Nat.le_of_ble_eq_true rfl), (Nat.le_of_ble_eq_true rfl)⟩ hcX5 rfl rfl rfl rfl (Nat.le_of_ble_eq_true rfl) (Nat.le_of_ble_eq_true rfl) (Nat.le_of_ble_eq_true rfl) rfl ?_
  refine o_iconst dX5_shutIn_8 ic_0 ?_
  refine o_istn_1 dX5_shutIn_9 rfl rfl (Nat.le_of_ble_eq_true rfl) ?_
  refine o_iconst dX5_shutIn_10 ic_0 ?_
  refine o_istn_2 dX5_shutIn_11 rfl rfl (Nat.le_of_ble_eq_true rfl) ?_
  exact o_post (fun a w h => by obtain ⟨rfl, rfl⟩ := h; exact MP.mk (σ := (r, im, hi, lt, L, rw, R, rf)) rfl) (o_eqa (by rw [nI_0]; rfl) rfl (lX5_shutIn hS (nN r + 1) 0 (by omega) (by omega)))
theorem lX5_whereIn {r : Nat → Int32} {N : Nat} (hN : N ≤ 7) (h1 : r 1 = nI N) : ∀ (q k : Nat), N - k < q → k ≤ N → Ok mX5_whereIn none 4 [some (.ref 0), some (.int (whS r k)), some (.int (nI k))] [] ([.inl (71, r)]) 0 0 (fun a w => a = some (.int (whS r N)) ∧ w = [.inl (71, r)]) := by
  intro q
  induction q with
  | zero => intro k hq hk; omega
  | succ q ih =>
  intro k hq hk
  refine o_iload_n dX5_whereIn_4 rfl rfl ?_
  refine o_aload_n dX5_whereIn_5 rfl rfl ?_
  refine o_iconst dX5_whereIn_6 ic_1 ?_
  refine o_ialp (i := 1) dX5_whereIn_7 rfl (rfl) (by decide) ?_
  refine o_icmp_ge (tgt := 30) dX5_whereIn_8 (by decide) (fun c_8 => ?_) (fun c_8 => ?_)
  · rw [h1] at c_8
    have hkN : k = N := Nat.le_antisymm hk (geI (by omega) (by omega) c_8)
    subst hkN
    refine o_iload_n dX5_whereIn_30 rfl rfl ?_
    refine o_iret dX5_whereIn_31 rfl (vp_nar_int _) (Nat.le_of_ble_eq_true rfl) (Nat.le_of_ble_eq_true rfl) ?_
    exact ⟨rfl, rfl⟩
  · rw [h1] at c_8
    have hkN : k < N := ltI (by omega) (by omega) c_8
    refine o_bipush dX5_whereIn_11 bp_8 ?_
    refine o_iload_n dX5_whereIn_13 rfl rfl ?_
    refine o_imul dX5_whereIn_14 ?_
    refine o_aload_n dX5_whereIn_15 rfl rfl ?_
    refine o_iload_n dX5_whereIn_16 rfl rfl ?_
    refine o_iconst dX5_whereIn_17 ic_0 ?_
    refine o_callSr (is := []) (ofP0) ⟨rfl, rfl⟩ dX5_whereIn_18 wd783 csX5_ofP rfl ⟨(Nat.le_of_ble_eq_true rfl), (Nat.le_of_ble_eq_true rfl)⟩ rfl rfl rfl (Nat.le_of_ble_eq_true rfl) (Nat.le_of_ble_eq_true rfl) (Nat.le_of_ble_eq_true rfl) ?_
    refine o_ialp (i := 50 + 3 * k) dX5_whereIn_21 rfl (rfl) (by omega) ?_
    refine o_iadd dX5_whereIn_22 ?_
    refine o_istn_1 dX5_whereIn_23 rfl rfl (Nat.le_of_ble_eq_true rfl) ?_
    refine o_inc_2 dX5_whereIn_24 rfl ic_1 (Nat.le_of_ble_eq_true rfl) ?_
    refine o_goto (tgt := 4) dX5_whereIn_27 (by decide) ?_
    exact o_eqa (by rw [nI_1, whS]) rfl (ih (k + 1) (by omega) (by omega))
theorem tX5_whereIn {r : Nat → Int32} {N : Nat} (hN : N ≤ 7) (h1 : r 1 = nI N) : PD mX5_whereIn [.ref 0] ([.inl (71, r)]) (some (.int (whS r N))) ([.inl (71, r)]) := by
  refine PM.ofp 2 (by decide) (Nat.le_of_ble_eq_true rfl) ?_
  show Ok mX5_whereIn none 0 [some (.ref 0), none, none] [] ([.inl (71, r)]) 0 0 _
  refine o_iconst dX5_whereIn_0 ic_0 ?_
  refine o_istn_1 dX5_whereIn_1 rfl rfl (Nat.le_of_ble_eq_true rfl) ?_
  refine o_iconst dX5_whereIn_2 ic_0 ?_
  refine o_istn_2 dX5_whereIn_3 rfl rfl (Nat.le_of_ble_eq_true rfl) ?_
  exact o_eqa (by rw [nI_0]; rfl) rfl (lX5_whereIn hN h1 (N + 1) 0 (by omega) (by omega))
theorem lX5_isStill {r im wa lt rw rf nu : Nat → Int32} {hi pl sd : Int32} {L R : Nat} (hS : SOk r) {n : Nat} (hn : n ≤ 60) : ∀ (q k : Nat) (x4 : Option Value), 12 - k < q → k ≤ 12 → Ok mX5_isStill none 9 [some (.ref 0), some (.int (nI n)), some (.int (bI (stB r n k))), some (.int (nI k)), x4] [] (mW r (hrs r (n + k)) im wa (nF (farOf r)) hi lt rw rf (nI L) (nI R) pl nu sd) 0 0 (fun a w => a = some (.int (bI (stB r n 12))) ∧ ∃ m2 fr2, w = mW r m2 im wa fr2 hi lt rw rf (nI L) (nI R) pl nu sd) := by
  intro q
  induction q with
  | zero => intro k x4 hq hk; omega
  | succ q ih =>
  intro k x4 hq hk
  have h6 := hS.n6
  have h9 := hS.d9
  refine o_iload_n dX5_isStill_9 rfl rfl ?_
  refine o_bipush dX5_isStill_10 bp_12 ?_
  refine o_icmp_ge (tgt := 58) dX5_isStill_12 (by decide) (fun c_12 => ?_) (fun c_12 => ?_)
  · have hkN : k = 12 := Nat.le_antisymm hk (geI (b := 12) (by omega) (by omega) c_12)
    subst hkN
    refine o_iload_n dX5_isStill_58 rfl rfl ?_
    refine o_iret dX5_isStill_59 rfl (by first | exact nz_b _ | decide) (Nat.le_of_ble_eq_true rfl) (Nat.le_of_ble_eq_true rfl) ?_
    exact ⟨rfl, _, _, rfl⟩
  · have hkN : k < 12 := ltI (b := 12) (by omega) (by omega) c_12
    refine o_aload_n dX5_isStill_15 rfl rfl ?_
    refine o_getf (j := 1) dX5_isStill_16 rfl hcX5 inX5 (Nat.le_of_ble_eq_true rfl) wd687 rfl rfl ?_
    refine o_callSr (is := [2]) (tX5_whereIn (by omega) (hrs_n hS (n + k))) ⟨rfl, rfl⟩ dX5_isStill_19 wd929 csX5_whereIn rfl ⟨(Nat.le_of_ble_eq_true rfl), (Nat.le_of_ble_eq_true rfl)⟩ rfl rfl rfl (Nat.le_of_ble_eq_true rfl) (Nat.le_of_ble_eq_true rfl) (Nat.le_of_ble_eq_true rfl) ?_
    refine o_istg_4 dX5_isStill_22 rfl (Nat.le_of_ble_eq_true rfl) ?_
    refine o_aload_n dX5_isStill_24 rfl rfl ?_
    refine o_aload_n dX5_isStill_25 rfl rfl ?_
    refine o_getf (j := 1) dX5_isStill_26 rfl hcX5 inX5 (Nat.le_of_ble_eq_true rfl) wd687 rfl rfl ?_
    refine o_callVd (is := [0, 1, 2, 3, 4, 5, 6, 7, 8, 9]) (tX5_hour_m frT_le (hS.1.hours (n + k)) (by have := hS.2.2.1; omega)) ⟨rfl, rfl⟩ dX5_isStill_29 wd808 cvX5_hour rfl ⟨(Nat.le_of_ble_eq_true rfl), (Nat.le_of_ble_eq_true rfl)⟩ hcX5 rfl rfl rfl rfl (Nat.le_of_ble_eq_true rfl) (Nat.le_of_ble_eq_true rfl) (Nat.le_of_ble_eq_true rfl) rfl ?_
    refine o_iload_n dX5_isStill_32 rfl rfl ?_
    refine o_aload_n dX5_isStill_33 rfl rfl ?_
    refine o_getf (j := 1) dX5_isStill_34 rfl hcX5 inX5 (Nat.le_of_ble_eq_true rfl) wd687 rfl rfl ?_
    refine o_callSr (is := [2]) (tX5_whereIn (by omega) (hrs_n hS (n + k + 1))) ⟨rfl, rfl⟩ dX5_isStill_37 wd929 csX5_whereIn rfl ⟨(Nat.le_of_ble_eq_true rfl), (Nat.le_of_ble_eq_true rfl)⟩ rfl rfl rfl (Nat.le_of_ble_eq_true rfl) (Nat.le_of_ble_eq_true rfl) (Nat.le_of_ble_eq_true rfl) ?_
    refine o_iload dX5_isStill_40 rfl ?_
    refine o_icmp_ne (tgt := 49) dX5_isStill_42 (by decide) (fun c_42 => ?_) (fun c_42 => ?_)
    · skip
      refine o_iconst dX5_isStill_49 ic_0 ?_
      refine o_iand dX5_isStill_50 ?_
      refine o_istn_2 dX5_isStill_51 rfl rfl (Nat.le_of_ble_eq_true rfl) ?_
      refine o_inc_3 dX5_isStill_52 rfl ic_1 (Nat.le_of_ble_eq_true rfl) ?_
      refine o_goto (tgt := 9) dX5_isStill_55 (by decide) ?_
      exact o_eqa (by rw [nI_1, stB, bI_and0, decide_eq_false c_42, Bool.and_false]; rfl) rfl (ih (k + 1) _ (by omega) (by omega))
    · skip
      refine o_iconst dX5_isStill_45 ic_1 ?_
      refine o_goto (tgt := 50) dX5_isStill_46 (by decide) ?_
      refine o_iand dX5_isStill_50 ?_
      refine o_istn_2 dX5_isStill_51 rfl rfl (Nat.le_of_ble_eq_true rfl) ?_
      refine o_inc_3 dX5_isStill_52 rfl ic_1 (Nat.le_of_ble_eq_true rfl) ?_
      refine o_goto (tgt := 9) dX5_isStill_55 (by decide) ?_
      exact o_eqa (by rw [nI_1, stB, bI_and1, decide_eq_true c_42, Bool.and_true]) rfl (ih (k + 1) _ (by omega) (by omega))
theorem tX5_isStill {r m im wa fr lt rw rf nu : Nat → Int32} {hi pl sd : Int32} {L R : Nat} (hS : SOk r) {n : Nat} (hn : n ≤ 60) : PM mX5_isStill [.ref 0, .int (nI n)] (mW r m im wa fr hi lt rw rf (nI L) (nI R) pl nu sd) (fun a w => a = some (.int (bI (stB r n 12))) ∧ ∃ m2 fr2, w = mW r m2 im wa fr2 hi lt rw rf (nI L) (nI R) pl nu sd) := by
  refine PM.ofp 3 (by decide) (Nat.le_of_ble_eq_true rfl) ?_
  show Ok mX5_isStill none 0 [some (.ref 0), some (.int (nI n)), none, none, none] [] (mW r m im wa fr hi lt rw rf (nI L) (nI R) pl nu sd) 0 0 _
  refine o_aload_n dX5_isStill_0 rfl rfl ?_
  refine o_iload_n dX5_isStill_1 rfl rfl ?_
  refine o_callVd (is := [0, 1, 2, 3, 4, 5, 6, 7, 8, 9]) (tX5_takes hS (by omega)) ⟨rfl, rfl⟩ dX5_isStill_2 wd893 cvX5_takes rfl ⟨(Nat.le_of_ble_eq_true rfl), (Nat.le_of_ble_eq_true rfl)⟩ hcX5 rfl rfl rfl rfl (Nat.le_of_ble_eq_true rfl) (Nat.le_of_ble_eq_true rfl) (Nat.le_of_ble_eq_true rfl) rfl ?_
  refine o_iconst dX5_isStill_5 ic_1 ?_
  refine o_istn_2 dX5_isStill_6 rfl rfl (Nat.le_of_ble_eq_true rfl) ?_
  refine o_iconst dX5_isStill_7 ic_0 ?_
  refine o_istn_3 dX5_isStill_8 rfl rfl (Nat.le_of_ble_eq_true rfl) ?_
  exact o_eqa (by rw [nI_0]; rfl) rfl (lX5_isStill hS hn 13 0 _ (by omega) (by omega))
theorem lX5_stuck {r im wa lt rw rf nu : Nat → Int32} {hi pl sd : Int32} {L R : Nat} (hS : SOk r) : ∀ (q k : Nat) (m fr : Nat → Int32), k + q = 61 → dfS (fun n => stB r n 12) q k = skF r → Ok mX5_stuck none 2 [some (.ref 0), some (.int (nI k))] [] (mW r m im wa fr hi lt rw rf (nI L) (nI R) pl nu sd) 0 0 (MP (s_stuck (r, im, hi, lt, L, rw, R, rf))) := by
  intro q
  induction q with
  | zero =>
    intro k m fr hk hR
    have hk : k = 61 := by omega
    subst hk
    refine o_iload_n dX5_stuck_2 rfl rfl ?_
    refine o_bipush dX5_stuck_3 bp_60 ?_
    refine o_icmp_gt (tgt := 24) dX5_stuck_5 (by decide) (fun _ => ?_) (fun c => absurd (by decide) c)
    refine o_bipush dX5_stuck_24 bp_m9 ?_
    refine o_iret dX5_stuck_26 rfl (vp_nar_int _) (Nat.le_of_ble_eq_true rfl) (Nat.le_of_ble_eq_true rfl) ?_
    exact MP.mk (σ := (r, im, hi, lt, L, rw, R, rf)) (by unfold s_stuck; rw [← hR]; rfl)
  | succ q ih =>
  intro k m fr hk hR
  refine o_iload_n dX5_stuck_2 rfl rfl ?_
  refine o_bipush dX5_stuck_3 bp_60 ?_
  refine o_icmp_gt (tgt := 24) dX5_stuck_5 (by decide) (fun c_5 => ?_) (fun c_5 => ?_)
  · exact absurd ((nI_ltI (a := 60) (by omega) (by omega)).mp c_5) (by omega)
  · skip
    refine o_aload_n dX5_stuck_8 rfl rfl ?_
    refine o_iload_n dX5_stuck_9 rfl rfl ?_
    refine o_callV (is := [0, 1, 2, 3, 4, 5, 6, 7, 8, 9]) (tX5_isStill hS (by omega)) ⟨rfl, rfl⟩ dX5_stuck_10 wd925 cvX5_isStill rfl ⟨(Nat.le_of_ble_eq_true rfl), (Nat.le_of_ble_eq_true rfl)⟩ hcX5 rfl rfl rfl rfl (Nat.le_of_ble_eq_true rfl) (Nat.le_of_ble_eq_true rfl) (Nat.le_of_ble_eq_true rfl) (fun ra wb hq hqn => ?_)
    obtain ⟨rfl, m2, fr2, rfl⟩ := hq
    refine o_if_eq (tgt := 18) dX5_stuck_13 (by decide) (fun c_13 => ?_) (fun c_13 => ?_)
    · skip
      refine o_inc_1 dX5_stuck_18 rfl ic_1 (Nat.le_of_ble_eq_true rfl) ?_
      refine o_goto (tgt := 2) dX5_stuck_21 (by decide) ?_
      exact o_eqa (by rw [nI_1]) rfl (ih (k + 1) _ _ (by omega) (by rw [← hR, dfS, bI_0.mp c_13]; rfl))
    · skip
      refine o_iload_n dX5_stuck_16 rfl rfl ?_
      refine o_iret dX5_stuck_17 rfl (vp_nar_int _) (Nat.le_of_ble_eq_true rfl) (Nat.le_of_ble_eq_true rfl) ?_
      exact MP.mk (σ := (r, im, hi, lt, L, rw, R, rf)) (by unfold s_stuck; rw [← hR, dfS, bI_ne c_13]; rfl)
theorem tX5_stuck {r m im wa fr lt rw rf nu : Nat → Int32} {hi pl sd : Int32} {L R : Nat} (hS : SOk r) : PM mX5_stuck [.ref 0] (mW r m im wa fr hi lt rw rf (nI L) (nI R) pl nu sd) (MP (s_stuck (r, im, hi, lt, L, rw, R, rf))) := by
  refine PM.ofp 1 (by decide) (Nat.le_of_ble_eq_true rfl) ?_
  show Ok mX5_stuck none 0 [some (.ref 0), none] [] (mW r m im wa fr hi lt rw rf (nI L) (nI R) pl nu sd) 0 0 _
  refine o_iconst dX5_stuck_0 ic_0 ?_
  refine o_istn_1 dX5_stuck_1 rfl rfl (Nat.le_of_ble_eq_true rfl) ?_
  exact o_eqa (by rw [nI_0]) rfl (lX5_stuck hS 61 0 m fr (by omega) rfl)
theorem lX5_way {r m im wa lt rw rf nu : Nat → Int32} {hi pl sd : Int32} {L R : Nat} (hS : SOk r) {a b : Nat} {w : Int32} (la : a < 8) (lb : b < 8) (hw0 : ¬ w = 0) (hww : inR 2 w = true) (hfar : ¬ 99 ≤ farOf r (8 * a + b)) : ∀ (q k : Nat), k + q = dN r → dfS (fun d => onM r (farOf r) d a b) q k = dfS (fun d => onM r (farOf r) d a b) (dN r) 0 → Ok mX5_way none 72 [some (.ref 0), some (.int (nI a)), some (.int (nI b)), some (.int w), some (.int (nI k))] [] (mW r m im wa (nF (farOf r)) hi lt rw rf (nI L) (nI R) pl nu sd) 0 0 (MP (s_way (nI a) (nI b) w (r, im, hi, lt, L, rw, R, rf))) := by
  have h9 := hS.d9
  have hres : s_way (nI a) (nI b) w (r, im, hi, lt, L, rw, R, rf) = (some (.int (dfS (fun d => onM r (farOf r) d a b) (dN r) 0)), (r, im, hi, lt, L, rw, R, rf)) := by
    simp only [s_way, inR_nI (D := 8) (by omega) la, inR_nI (D := 8) (by omega) lb, Bool.and_self, if_true, hww, cN_nI (show a < 2147483648 by omega), cN_nI (show b < 2147483648 by omega), if_neg hfar, if_neg hw0]
  intro q
  induction q with
  | zero =>
    intro k hk hR
    have hk : k = dN r := by omega
    refine o_iload dX5_way_72 rfl ?_
    refine o_aload_n dX5_way_74 rfl rfl ?_
    refine o_getf (j := 0) dX5_way_75 rfl hcX5 inX5 (Nat.le_of_ble_eq_true rfl) wd686 rfl rfl ?_
    refine o_iconst dX5_way_78 ic_0 ?_
    refine o_ialp (i := 0) dX5_way_79 rfl (rfl) (by decide) ?_
    refine o_icmp_ge (tgt := 107) dX5_way_80 (by decide) (fun _ => ?_) (fun c => absurd (by rw [hS.e0, hk]; exact Int32.le_refl _) c)
    refine o_bipush dX5_way_107 bp_m9 ?_
    refine o_iret dX5_way_109 rfl (vp_nar_int _) (Nat.le_of_ble_eq_true rfl) (Nat.le_of_ble_eq_true rfl) ?_
    exact MP.mk (σ := (r, im, hi, lt, L, rw, R, rf)) (by rw [hres, ← hR]; rfl)
  | succ q ih =>
  intro k hk hR
  refine o_iload dX5_way_72 rfl ?_
  refine o_aload_n dX5_way_74 rfl rfl ?_
  refine o_getf (j := 0) dX5_way_75 rfl hcX5 inX5 (Nat.le_of_ble_eq_true rfl) wd686 rfl rfl ?_
  refine o_iconst dX5_way_78 ic_0 ?_
  refine o_ialp (i := 0) dX5_way_79 rfl (rfl) (by decide) ?_
  refine o_icmp_ge (tgt := 107) dX5_way_80 (by decide) (fun c_80 => ?_) (fun c_80 => ?_)
  · rw [hS.e0] at c_80
    exact absurd (geI (by omega) (by omega) c_80) (by omega)
  · skip
    refine o_aload_n dX5_way_83 rfl rfl ?_
    refine o_aload_n dX5_way_84 rfl rfl ?_
    refine o_getf (j := 0) dX5_way_85 rfl hcX5 inX5 (Nat.le_of_ble_eq_true rfl) wd686 rfl rfl ?_
    refine o_iload dX5_way_88 rfl ?_
    refine o_iload_n dX5_way_90 rfl rfl ?_
    refine o_iload_n dX5_way_91 rfl rfl ?_
    refine o_callVr (is := [0, 1, 2, 3, 4, 5, 6, 7, 8, 9]) (tX5_isOnWay_s farOf_le hS.T (by omega) la lb) ⟨rfl, rfl⟩ dX5_way_92 wd819 cvX5_isOnWay rfl ⟨(Nat.le_of_ble_eq_true rfl), (Nat.le_of_ble_eq_true rfl)⟩ hcX5 rfl rfl rfl rfl (Nat.le_of_ble_eq_true rfl) (Nat.le_of_ble_eq_true rfl) (Nat.le_of_ble_eq_true rfl) ?_
    refine o_if_eq (tgt := 101) dX5_way_95 (by decide) (fun c_95 => ?_) (fun c_95 => ?_)
    · skip
      refine o_inc_4 dX5_way_101 rfl ic_1 (Nat.le_of_ble_eq_true rfl) ?_
      refine o_goto (tgt := 72) dX5_way_104 (by decide) ?_
      exact o_eqa (by rw [nI_1]) rfl (ih (k + 1) (by omega) (by rw [← hR, dfS, bI_0.mp c_95]; rfl))
    · skip
      refine o_iload dX5_way_98 rfl ?_
      refine o_iret dX5_way_100 rfl (vp_nar_int _) (Nat.le_of_ble_eq_true rfl) (Nat.le_of_ble_eq_true rfl) ?_
      exact MP.mk (σ := (r, im, hi, lt, L, rw, R, rf)) (by rw [hres, ← hR, dfS, bI_ne c_95]; rfl)
theorem tX5_way {r m im wa fr lt rw rf nu : Nat → Int32} {hi pl sd : Int32} {L R : Nat} (hS : SOk r) {x y w : Int32} : PM mX5_way [.ref 0, .int x, .int y, .int w] (mW r m im wa fr hi lt rw rf (nI L) (nI R) pl nu sd) (MP (s_way x y w (r, im, hi, lt, L, rw, R, rf))) := by
  refine PM.ofp 1 (by decide) (Nat.le_of_ble_eq_true rfl) ?_
  show Ok mX5_way none 0 [some (.ref 0), some (.int x), some (.int y), some (.int w), none] [] (mW r m im wa fr hi lt rw rf (nI L) (nI R) pl nu sd) 0 0 _
  refine o_iload_n dX5_way_0 rfl rfl ?_
  refine o_callSr (is := []) (tX5_isRoom) ⟨rfl, rfl⟩ dX5_way_1 wd774 csX5_isRoom rfl ⟨(Nat.le_of_ble_eq_true rfl), (Nat.le_of_ble_eq_true rfl)⟩ rfl rfl rfl (Nat.le_of_ble_eq_true rfl) (Nat.le_of_ble_eq_true rfl) (Nat.le_of_ble_eq_true rfl) ?_
  refine o_if_eq (tgt := 14) dX5_way_4 (by decide) (fun c_4 => ?_) (fun c_4 => ?_)
  · have hno : inR 8 x = false := by rw [← isInB_eq 7 (by omega)]; exact bI_0.mp c_4
    refine o_aload_n dX5_way_14 rfl rfl ?_
    refine o_iconst dX5_way_15 ic_m1 ?_
    refine o_callVd (is := [0, 1, 2, 3, 4, 5, 6, 7, 8, 9]) (tX5_no (c := 1) rfl (by decide)) ⟨rfl, rfl⟩ dX5_way_16 wd733 cvX5_no rfl ⟨(Nat.le_of_ble_eq_true rfl), (Nat.le_of_ble_eq_true rfl)⟩ hcX5 rfl rfl rfl rfl (Nat.le_of_ble_eq_true rfl) (Nat.le_of_ble_eq_true rfl) (Nat.le_of_ble_eq_true rfl) rfl ?_
    refine o_iret dX5_way_19 rfl (vp_nar_int _) (Nat.le_of_ble_eq_true rfl) (Nat.le_of_ble_eq_true rfl) ?_
    exact MP.mk (σ := (r, im, hi, lt, L, rw, R, rfu rf 1)) (by simp only [s_way, hno, Bool.false_and]; rfl)
  · obtain ⟨a, la, rfl⟩ := inR_yes (D := 8) (by omega) (by rw [← isInB_eq 7 (by omega)]; exact bI_ne c_4)
    have ia := inR_nI (D := 8) (by omega) la
    have ea := cN_nI (d := a) (by omega)
    refine o_iload_n dX5_way_7 rfl rfl ?_
    refine o_callSr (is := []) (tX5_isRoom) ⟨rfl, rfl⟩ dX5_way_8 wd774 csX5_isRoom rfl ⟨(Nat.le_of_ble_eq_true rfl), (Nat.le_of_ble_eq_true rfl)⟩ rfl rfl rfl (Nat.le_of_ble_eq_true rfl) (Nat.le_of_ble_eq_true rfl) (Nat.le_of_ble_eq_true rfl) ?_
    refine o_if_ne (tgt := 20) dX5_way_11 (by decide) (fun c_11 => ?_) (fun c_11 => ?_)
    · obtain ⟨b, lb, rfl⟩ := inR_yes (D := 8) (by omega) (by rw [← isInB_eq 7 (by omega)]; exact bI_ne c_11)
      have ib := inR_nI (D := 8) (by omega) lb
      have eb := cN_nI (d := b) (by omega)
      have hle := farOf_le (r := r) (8 * a + b)
      have hle2 : frT (fA r) (fB r) (dN r) (8 * a + b) ≤ 99 := hle
      refine o_iload_n dX5_way_20 rfl rfl ?_
      refine o_iconst dX5_way_21 ic_0 ?_
      refine o_iconst dX5_way_22 ic_1 ?_
      refine o_callSr (is := []) (tX5_isIn) ⟨rfl, rfl⟩ dX5_way_23 wd760 csX5_isIn rfl ⟨(Nat.le_of_ble_eq_true rfl), (Nat.le_of_ble_eq_true rfl)⟩ rfl rfl rfl (Nat.le_of_ble_eq_true rfl) (Nat.le_of_ble_eq_true rfl) (Nat.le_of_ble_eq_true rfl) ?_
      refine o_if_ne (tgt := 36) dX5_way_26 (by decide) (fun c_26 => ?_) (fun c_26 => ?_)
      · have hww : inR 2 w = true := by rw [← isInB_eq 1 (by omega)]; exact bI_ne c_26
        refine o_aload_n dX5_way_36 rfl rfl ?_
        refine o_aload_n dX5_way_37 rfl rfl ?_
        refine o_getf (j := 0) dX5_way_38 rfl hcX5 inX5 (Nat.le_of_ble_eq_true rfl) wd686 rfl rfl ?_
        refine o_callVd (is := [0, 1, 2, 3, 4, 5, 6, 7, 8, 9]) (tX5_measures_s hS.T) ⟨rfl, rfl⟩ dX5_way_41 wd801 cvX5_measures rfl ⟨(Nat.le_of_ble_eq_true rfl), (Nat.le_of_ble_eq_true rfl)⟩ hcX5 rfl rfl rfl rfl (Nat.le_of_ble_eq_true rfl) (Nat.le_of_ble_eq_true rfl) (Nat.le_of_ble_eq_true rfl) rfl ?_
        refine o_aload_n dX5_way_44 rfl rfl ?_
        refine o_iload_n dX5_way_45 rfl rfl ?_
        refine o_iload_n dX5_way_46 rfl rfl ?_
        refine o_callVr (is := [0, 1, 2, 3, 4, 5, 6, 7, 8, 9]) (tX5_wayOf la lb) ⟨rfl, rfl⟩ dX5_way_47 wd823 cvX5_wayOf rfl ⟨(Nat.le_of_ble_eq_true rfl), (Nat.le_of_ble_eq_true rfl)⟩ hcX5 rfl rfl rfl rfl (Nat.le_of_ble_eq_true rfl) (Nat.le_of_ble_eq_true rfl) (Nat.le_of_ble_eq_true rfl) ?_
        refine o_bipush dX5_way_50 bp_99 ?_
        refine o_icmp_lt (tgt := 58) dX5_way_52 (by decide) (fun c_52 => ?_) (fun c_52 => ?_)
        · have hfar : ¬ 99 ≤ farOf r (8 * a + b) := Nat.not_le.mpr ((nI_ltI (b := 99) (by omega) (by omega)).mp c_52)
          refine o_iload_n dX5_way_58 rfl rfl ?_
          refine o_if_ne (tgt := 69) dX5_way_59 (by decide) (fun c_59 => ?_) (fun c_59 => ?_)
          · skip
            refine o_iconst dX5_way_69 ic_0 ?_
            refine o_istg_4 dX5_way_70 rfl (Nat.le_of_ble_eq_true rfl) ?_
            exact o_eqa (by rw [nI_0]) rfl (lX5_way hS la lb c_59 hww hfar (dN r) 0 (by omega) rfl)
          · skip
            refine o_aload_n dX5_way_62 rfl rfl ?_
            refine o_iload_n dX5_way_63 rfl rfl ?_
            refine o_iload_n dX5_way_64 rfl rfl ?_
            refine o_callVr (is := [0, 1, 2, 3, 4, 5, 6, 7, 8, 9]) (tX5_wayOf la lb) ⟨rfl, rfl⟩ dX5_way_65 wd823 cvX5_wayOf rfl ⟨(Nat.le_of_ble_eq_true rfl), (Nat.le_of_ble_eq_true rfl)⟩ hcX5 rfl rfl rfl rfl (Nat.le_of_ble_eq_true rfl) (Nat.le_of_ble_eq_true rfl) (Nat.le_of_ble_eq_true rfl) ?_
            refine o_iret dX5_way_68 rfl (vp_nar_int _) (Nat.le_of_ble_eq_true rfl) (Nat.le_of_ble_eq_true rfl) ?_
            exact MP.mk (σ := (r, im, hi, lt, L, rw, R, rf)) (by simp only [s_way, ia, ib, Bool.and_self, if_true, hww, ea, eb, if_neg hfar, if_pos c_59] <;> rfl)
        · have hfar : 99 ≤ farOf r (8 * a + b) := Nat.not_lt.mp (fun h => c_52 ((nI_ltI (b := 99) (by omega) (by omega)).mpr h))
          refine o_bipush dX5_way_55 bp_m9 ?_
          refine o_iret dX5_way_57 rfl (vp_nar_int _) (Nat.le_of_ble_eq_true rfl) (Nat.le_of_ble_eq_true rfl) ?_
          exact MP.mk (σ := (r, im, hi, lt, L, rw, R, rf)) (by simp only [s_way, ia, ib, Bool.and_self, if_true, hww, ea, eb, if_pos hfar])
      · have hww : inR 2 w = false := by rw [← isInB_eq 1 (by omega)]; exact bI_0.mp c_26
        refine o_aload_n dX5_way_29 rfl rfl ?_
        refine o_bipush dX5_way_30 bp_m2 ?_
        refine o_callVd (is := [0, 1, 2, 3, 4, 5, 6, 7, 8, 9]) (tX5_no (c := 2) rfl (by decide)) ⟨rfl, rfl⟩ dX5_way_32 wd733 cvX5_no rfl ⟨(Nat.le_of_ble_eq_true rfl), (Nat.le_of_ble_eq_true rfl)⟩ hcX5 rfl rfl rfl rfl (Nat.le_of_ble_eq_true rfl) (Nat.le_of_ble_eq_true rfl) (Nat.le_of_ble_eq_true rfl) rfl ?_
        refine o_iret dX5_way_35 rfl (vp_nar_int _) (Nat.le_of_ble_eq_true rfl) (Nat.le_of_ble_eq_true rfl) ?_
        exact MP.mk (σ := (r, im, hi, lt, L, rw, R, rfu rf 2)) (by simp only [s_way, ia, ib, Bool.and_self, if_true, hww]; rfl)
    · have hno2 : inR 8 y = false := by rw [← isInB_eq 7 (by omega)]; exact bI_0.mp c_11
      refine o_aload_n dX5_way_14 rfl rfl ?_
      refine o_iconst dX5_way_15 ic_m1 ?_
      refine o_callVd (is := [0, 1, 2, 3, 4, 5, 6, 7, 8, 9]) (tX5_no (c := 1) rfl (by decide)) ⟨rfl, rfl⟩ dX5_way_16 wd733 cvX5_no rfl ⟨(Nat.le_of_ble_eq_true rfl), (Nat.le_of_ble_eq_true rfl)⟩ hcX5 rfl rfl rfl rfl (Nat.le_of_ble_eq_true rfl) (Nat.le_of_ble_eq_true rfl) (Nat.le_of_ble_eq_true rfl) rfl ?_
      refine o_iret dX5_way_19 rfl (vp_nar_int _) (Nat.le_of_ble_eq_true rfl) (Nat.le_of_ble_eq_true rfl) ?_
      exact MP.mk (σ := (r, im, hi, lt, L, rw, R, rfu rf 1)) (by simp only [s_way, hno2, Bool.and_false]; rfl)
theorem lX5_round {r m im wa lt rw rf nu : Nat → Int32} {hi pl sd : Int32} {L R : Nat} (hS : SOk r) {a : Nat} (la : a < 8) : ∀ (q k : Nat), dN r - k < q → k ≤ dN r → Ok mX5_round none 26 [some (.ref 0), some (.int (nI a)), some (.int (nI (rnN r (farOf r) a k))), some (.int (nI k))] [] (mW r m im wa (nF (farOf r)) hi lt rw rf (nI L) (nI R) pl nu sd) 0 0 (MP (s_round (nI a) (r, im, hi, lt, L, rw, R, rf))) := by
  intro q
  induction q with
  | zero => intro k hq hk; omega
  | succ q ih =>
  intro k hq hk
  have h6 := hS.n6
  have h9 := hS.d9
  have hln := rnN_le (r := r) (g := farOf r) (a := a) k
  have ia := inR_nI (D := 8) (by omega) la
  have ea := cN_nI (d := a) (by omega)
  refine o_iload_n dX5_round_26 rfl rfl ?_
  refine o_aload_n dX5_round_27 rfl rfl ?_
  refine o_getf (j := 0) dX5_round_28 rfl hcX5 inX5 (Nat.le_of_ble_eq_true rfl) wd686 rfl rfl ?_
  refine o_iconst dX5_round_31 ic_0 ?_
  refine o_ialp (i := 0) dX5_round_32 rfl (rfl) (by decide) ?_
  refine o_icmp_ge (tgt := 78) dX5_round_33 (by decide) (fun c_33 => ?_) (fun c_33 => ?_)
  · rw [hS.e0] at c_33
    have hkN : k = dN r := Nat.le_antisymm hk (geI (by omega) (by omega) c_33)
    refine o_iload_n dX5_round_78 rfl rfl ?_
    refine o_bipush dX5_round_79 bp_99 ?_
    refine o_icmp_lt (tgt := 89) dX5_round_81 (by decide) (fun c_81 => ?_) (fun c_81 => ?_)
    · skip
      refine o_iload_n dX5_round_89 rfl rfl ?_
      refine o_iret dX5_round_90 rfl (vp_nar_int _) (Nat.le_of_ble_eq_true rfl) (Nat.le_of_ble_eq_true rfl) ?_
      exact MP.mk (σ := (r, im, hi, lt, L, rw, R, rf)) (by simp only [s_round, ia, if_true, ea]; rw [← hkN, if_neg (Nat.not_le.mpr ((nI_ltI (b := 99) (by omega) (by omega)).mp c_81))])
    · skip
      refine o_bipush dX5_round_84 bp_m9 ?_
      refine o_goto (tgt := 90) dX5_round_86 (by decide) ?_
      refine o_iret dX5_round_90 rfl (vp_nar_int _) (Nat.le_of_ble_eq_true rfl) (Nat.le_of_ble_eq_true rfl) ?_
      exact MP.mk (σ := (r, im, hi, lt, L, rw, R, rf)) (by simp only [s_round, ia, if_true, ea]; rw [← hkN, if_pos (Nat.not_lt.mp (fun h => c_81 ((nI_ltI (b := 99) (by omega) (by omega)).mpr h)))])
  · rw [hS.e0] at c_33
    have hkN : k < dN r := ltI (by omega) (by omega) c_33
    have qb := (hS.T.2.2.2.2.2 k hkN).2.cN
    have lb : fB r k < 8 := qb.1
    have hle := farOf_le (r := r) (8 * fB r k + a)
    refine o_aload_n dX5_round_36 rfl rfl ?_
    refine o_getf (j := 0) dX5_round_37 rfl hcX5 inX5 (Nat.le_of_ble_eq_true rfl) wd686 rfl rfl ?_
    refine o_iload_n dX5_round_40 rfl rfl ?_
    refine o_iconst dX5_round_41 ic_2 ?_
    refine o_callSr (is := []) (ofD2) ⟨rfl, rfl⟩ dX5_round_42 wd777 csX5_ofD rfl ⟨(Nat.le_of_ble_eq_true rfl), (Nat.le_of_ble_eq_true rfl)⟩ rfl rfl rfl (Nat.le_of_ble_eq_true rfl) (Nat.le_of_ble_eq_true rfl) (Nat.le_of_ble_eq_true rfl) ?_
    refine o_ialp (i := 7 + 5 * k) dX5_round_45 rfl (rfl) (by omega) ?_
    refine o_iload_n dX5_round_46 rfl rfl ?_
    refine o_icmp_ne (tgt := 72) dX5_round_47 (by decide) (fun c_47 => ?_) (fun c_47 => ?_)
    · skip
      refine o_inc_3 dX5_round_72 rfl ic_1 (Nat.le_of_ble_eq_true rfl) ?_
      refine o_goto (tgt := 26) dX5_round_75 (by decide) ?_
      exact o_eqa (by rw [nI_1, rnN, if_neg c_47]) rfl (ih (k + 1) (by omega) (by omega))
    · skip
      refine o_iload_n dX5_round_50 rfl rfl ?_
      refine o_iconst dX5_round_51 ic_1 ?_
      refine o_aload_n dX5_round_52 rfl rfl ?_
      refine o_aload_n dX5_round_53 rfl rfl ?_
      refine o_getf (j := 0) dX5_round_54 rfl hcX5 inX5 (Nat.le_of_ble_eq_true rfl) wd686 rfl rfl ?_
      refine o_iload_n dX5_round_57 rfl rfl ?_
      refine o_iconst dX5_round_58 ic_3 ?_
      refine o_callSr (is := []) (ofD3) ⟨rfl, rfl⟩ dX5_round_59 wd777 csX5_ofD rfl ⟨(Nat.le_of_ble_eq_true rfl), (Nat.le_of_ble_eq_true rfl)⟩ rfl rfl rfl (Nat.le_of_ble_eq_true rfl) (Nat.le_of_ble_eq_true rfl) (Nat.le_of_ble_eq_true rfl) ?_
      refine o_ialp (i := 8 + 5 * k) dX5_round_62 rfl (rfl) (by omega) ?_
      refine o_eqs (by rw [show r (8 + 5 * k) = nI (fB r k) from qb.2]) ?_
      refine o_iload_n dX5_round_63 rfl rfl ?_
      refine o_callVr (is := [0, 1, 2, 3, 4, 5, 6, 7, 8, 9]) (tX5_wayOf lb la) ⟨rfl, rfl⟩ dX5_round_64 wd823 cvX5_wayOf rfl ⟨(Nat.le_of_ble_eq_true rfl), (Nat.le_of_ble_eq_true rfl)⟩ hcX5 rfl rfl rfl rfl (Nat.le_of_ble_eq_true rfl) (Nat.le_of_ble_eq_true rfl) (Nat.le_of_ble_eq_true rfl) ?_
      refine o_iadd dX5_round_67 ?_
      refine o_callSr (is := []) ((tX5_least : PD _ _ _ _ _).mono (r2 := some (.int (nI (min (rnN r (farOf r) a k) (1 + farOf r (8 * fB r k + a)))))) (by rw [nI_1a, least_n (by omega) (by omega)])) ⟨rfl, rfl⟩ dX5_round_68 wd805 csX5_least rfl ⟨(Nat.le_of_ble_eq_true rfl), (Nat.le_of_ble_eq_true rfl)⟩ rfl rfl rfl (Nat.le_of_ble_eq_true rfl) (Nat.le_of_ble_eq_true rfl) (Nat.le_of_ble_eq_true rfl) ?_
      refine o_istn_2 dX5_round_71 rfl rfl (Nat.le_of_ble_eq_true rfl) ?_
      refine o_inc_3 dX5_round_72 rfl ic_1 (Nat.le_of_ble_eq_true rfl) ?_
      refine o_goto (tgt := 26) dX5_round_75 (by decide) ?_
      exact o_eqa (by rw [nI_1, rnN, if_pos c_47]) rfl (ih (k + 1) (by omega) (by omega))
theorem tX5_round {r m im wa fr lt rw rf nu : Nat → Int32} {hi pl sd : Int32} {L R : Nat} (hS : SOk r) {x : Int32} : PM mX5_round [.ref 0, .int x] (mW r m im wa fr hi lt rw rf (nI L) (nI R) pl nu sd) (MP (s_round x (r, im, hi, lt, L, rw, R, rf))) := by
  refine PM.ofp 2 (by decide) (Nat.le_of_ble_eq_true rfl) ?_
  show Ok mX5_round none 0 [some (.ref 0), some (.int x), none, none] [] (mW r m im wa fr hi lt rw rf (nI L) (nI R) pl nu sd) 0 0 _
  refine o_iload_n dX5_round_0 rfl rfl ?_
  refine o_callSr (is := []) (tX5_isRoom) ⟨rfl, rfl⟩ dX5_round_1 wd774 csX5_isRoom rfl ⟨(Nat.le_of_ble_eq_true rfl), (Nat.le_of_ble_eq_true rfl)⟩ rfl rfl rfl (Nat.le_of_ble_eq_true rfl) (Nat.le_of_ble_eq_true rfl) (Nat.le_of_ble_eq_true rfl) ?_
  refine o_if_ne (tgt := 13) dX5_round_4 (by decide) (fun c_4 => ?_) (fun c_4 => ?_)
  · obtain ⟨a, la, rfl⟩ := inR_yes (D := 8) (by omega) (by rw [← isInB_eq 7 (by omega)]; exact bI_ne c_4)
    have ia := inR_nI (D := 8) (by omega) la
    have ea := cN_nI (d := a) (by omega)
    refine o_aload_n dX5_round_13 rfl rfl ?_
    refine o_aload_n dX5_round_14 rfl rfl ?_
    refine o_getf (j := 0) dX5_round_15 rfl hcX5 inX5 (Nat.le_of_ble_eq_true rfl) wd686 rfl rfl ?_
    refine o_callVd (is := [0, 1, 2, 3, 4, 5, 6, 7, 8, 9]) (tX5_measures_s hS.T) ⟨rfl, rfl⟩ dX5_round_18 wd801 cvX5_measures rfl ⟨(Nat.le_of_ble_eq_true rfl), (Nat.le_of_ble_eq_true rfl)⟩ hcX5 rfl rfl rfl rfl (Nat.le_of_ble_eq_true rfl) (Nat.le_of_ble_eq_true rfl) (Nat.le_of_ble_eq_true rfl) rfl ?_
    refine o_bipush dX5_round_21 bp_99 ?_
    refine o_istn_2 dX5_round_23 rfl rfl (Nat.le_of_ble_eq_true rfl) ?_
    refine o_iconst dX5_round_24 ic_0 ?_
    refine o_istn_3 dX5_round_25 rfl rfl (Nat.le_of_ble_eq_true rfl) ?_
    exact o_eqa (by rw [nI_0]; rfl) rfl (lX5_round hS la (dN r + 1) 0 (by omega) (by omega))
  · have hno : inR 8 x = false := by rw [← isInB_eq 7 (by omega)]; exact bI_0.mp c_4
    refine o_aload_n dX5_round_7 rfl rfl ?_
    refine o_iconst dX5_round_8 ic_m1 ?_
    refine o_callVd (is := [0, 1, 2, 3, 4, 5, 6, 7, 8, 9]) (tX5_no (c := 1) rfl (by decide)) ⟨rfl, rfl⟩ dX5_round_9 wd733 cvX5_no rfl ⟨(Nat.le_of_ble_eq_true rfl), (Nat.le_of_ble_eq_true rfl)⟩ hcX5 rfl rfl rfl rfl (Nat.le_of_ble_eq_true rfl) (Nat.le_of_ble_eq_true rfl) (Nat.le_of_ble_eq_true rfl) rfl ?_
    refine o_iret dX5_round_12 rfl (vp_nar_int _) (Nat.le_of_ble_eq_true rfl) (Nat.le_of_ble_eq_true rfl) ?_
    exact MP.mk (σ := (r, im, hi, lt, L, rw, R, rfu rf 1)) (by simp only [s_round, hno]; rfl)
theorem lX5_reach {r m im wa lt rw rf nu : Nat → Int32} {hi pl sd : Int32} {L R : Nat} (hS : SOk r) {a : Nat} (la : a < 8) : ∀ (q k : Nat), 8 - k < q → k ≤ 8 → Ok mX5_reach none 25 [some (.ref 0), some (.int (nI a)), some (.int (reS (farOf r) a k)), some (.int (nI k))] [] (mW r m im wa (nF (farOf r)) hi lt rw rf (nI L) (nI R) pl nu sd) 0 0 (MP (s_reach (nI a) (r, im, hi, lt, L, rw, R, rf))) := by
  intro q
  induction q with
  | zero => intro k hq hk; omega
  | succ q ih =>
  intro k hq hk
  have hle := farOf_le (r := r) (8 * a + k)
  refine o_iload_n dX5_reach_25 rfl rfl ?_
  refine o_bipush dX5_reach_26 bp_8 ?_
  refine o_icmp_ge (tgt := 58) dX5_reach_28 (by decide) (fun c_28 => ?_) (fun c_28 => ?_)
  · have hkN : k = 8 := Nat.le_antisymm hk (geI (b := 8) (by omega) (by omega) c_28)
    subst hkN
    refine o_iload_n dX5_reach_58 rfl rfl ?_
    refine o_iret dX5_reach_59 rfl (vp_nar_int _) (Nat.le_of_ble_eq_true rfl) (Nat.le_of_ble_eq_true rfl) ?_
    exact MP.mk (σ := (r, im, hi, lt, L, rw, R, rf)) (by simp only [s_reach, inR_nI (D := 8) (by omega) la, if_true, cN_nI (show a < 2147483648 by omega)])
  · have hkN : k < 8 := ltI (b := 8) (by omega) (by omega) c_28
    refine o_iload_n dX5_reach_31 rfl rfl ?_
    refine o_aload_n dX5_reach_32 rfl rfl ?_
    refine o_iload_n dX5_reach_33 rfl rfl ?_
    refine o_iload_n dX5_reach_34 rfl rfl ?_
    refine o_callVr (is := [0, 1, 2, 3, 4, 5, 6, 7, 8, 9]) (tX5_wayOf la hkN) ⟨rfl, rfl⟩ dX5_reach_35 wd823 cvX5_wayOf rfl ⟨(Nat.le_of_ble_eq_true rfl), (Nat.le_of_ble_eq_true rfl)⟩ hcX5 rfl rfl rfl rfl (Nat.le_of_ble_eq_true rfl) (Nat.le_of_ble_eq_true rfl) (Nat.le_of_ble_eq_true rfl) ?_
    refine o_bipush dX5_reach_38 bp_99 ?_
    refine o_icmp_ge (tgt := 49) dX5_reach_40 (by decide) (fun c_40 => ?_) (fun c_40 => ?_)
    · have hlt : ¬ farOf r (8 * a + k) < 99 := Nat.not_lt.mpr (geI (b := 99) (by omega) (by omega) c_40)
      refine o_iconst dX5_reach_49 ic_0 ?_
      refine o_ior dX5_reach_50 ?_
      refine o_istn_2 dX5_reach_51 rfl rfl (Nat.le_of_ble_eq_true rfl) ?_
      refine o_inc_3 dX5_reach_52 rfl ic_1 (Nat.le_of_ble_eq_true rfl) ?_
      refine o_goto (tgt := 25) dX5_reach_55 (by decide) ?_
      exact o_eqa (by rw [nI_1, reS, if_neg hlt]) rfl (ih (k + 1) (by omega) (by omega))
    · have hlt : farOf r (8 * a + k) < 99 := ltI (b := 99) (by omega) (by omega) c_40
      refine o_iconst dX5_reach_43 ic_1 ?_
      refine o_iload_n dX5_reach_44 rfl rfl ?_
      refine o_ishl dX5_reach_45 ?_
      refine o_goto (tgt := 50) dX5_reach_46 (by decide) ?_
      refine o_ior dX5_reach_50 ?_
      refine o_istn_2 dX5_reach_51 rfl rfl (Nat.le_of_ble_eq_true rfl) ?_
      refine o_inc_3 dX5_reach_52 rfl ic_1 (Nat.le_of_ble_eq_true rfl) ?_
      refine o_goto (tgt := 25) dX5_reach_55 (by decide) ?_
      exact o_eqa (by rw [nI_1, reS, if_pos hlt]) rfl (ih (k + 1) (by omega) (by omega))
theorem tX5_reach {r m im wa fr lt rw rf nu : Nat → Int32} {hi pl sd : Int32} {L R : Nat} (hS : SOk r) {x : Int32} : PM mX5_reach [.ref 0, .int x] (mW r m im wa fr hi lt rw rf (nI L) (nI R) pl nu sd) (MP (s_reach x (r, im, hi, lt, L, rw, R, rf))) := by
  refine PM.ofp 2 (by decide) (Nat.le_of_ble_eq_true rfl) ?_
  show Ok mX5_reach none 0 [some (.ref 0), some (.int x), none, none] [] (mW r m im wa fr hi lt rw rf (nI L) (nI R) pl nu sd) 0 0 _
  refine o_iload_n dX5_reach_0 rfl rfl ?_
  refine o_callSr (is := []) (tX5_isRoom) ⟨rfl, rfl⟩ dX5_reach_1 wd774 csX5_isRoom rfl ⟨(Nat.le_of_ble_eq_true rfl), (Nat.le_of_ble_eq_true rfl)⟩ rfl rfl rfl (Nat.le_of_ble_eq_true rfl) (Nat.le_of_ble_eq_true rfl) (Nat.le_of_ble_eq_true rfl) ?_
  refine o_if_ne (tgt := 13) dX5_reach_4 (by decide) (fun c_4 => ?_) (fun c_4 => ?_)
  · obtain ⟨a, la, rfl⟩ := inR_yes (D := 8) (by omega) (by rw [← isInB_eq 7 (by omega)]; exact bI_ne c_4)
    have ia := inR_nI (D := 8) (by omega) la
    have ea := cN_nI (d := a) (by omega)
    refine o_aload_n dX5_reach_13 rfl rfl ?_
    refine o_aload_n dX5_reach_14 rfl rfl ?_
    refine o_getf (j := 0) dX5_reach_15 rfl hcX5 inX5 (Nat.le_of_ble_eq_true rfl) wd686 rfl rfl ?_
    refine o_callVd (is := [0, 1, 2, 3, 4, 5, 6, 7, 8, 9]) (tX5_measures_s hS.T) ⟨rfl, rfl⟩ dX5_reach_18 wd801 cvX5_measures rfl ⟨(Nat.le_of_ble_eq_true rfl), (Nat.le_of_ble_eq_true rfl)⟩ hcX5 rfl rfl rfl rfl (Nat.le_of_ble_eq_true rfl) (Nat.le_of_ble_eq_true rfl) (Nat.le_of_ble_eq_true rfl) rfl ?_
    refine o_iconst dX5_reach_21 ic_0 ?_
    refine o_istn_2 dX5_reach_22 rfl rfl (Nat.le_of_ble_eq_true rfl) ?_
    refine o_iconst dX5_reach_23 ic_0 ?_
    refine o_istn_3 dX5_reach_24 rfl rfl (Nat.le_of_ble_eq_true rfl) ?_
    exact o_eqa (by rw [nI_0]; rfl) rfl (lX5_reach hS la 9 0 (by omega) (by omega))
  · have hno : inR 8 x = false := by rw [← isInB_eq 7 (by omega)]; exact bI_0.mp c_4
    refine o_aload_n dX5_reach_7 rfl rfl ?_
    refine o_iconst dX5_reach_8 ic_m1 ?_
    refine o_callVd (is := [0, 1, 2, 3, 4, 5, 6, 7, 8, 9]) (tX5_no (c := 1) rfl (by decide)) ⟨rfl, rfl⟩ dX5_reach_9 wd733 cvX5_no rfl ⟨(Nat.le_of_ble_eq_true rfl), (Nat.le_of_ble_eq_true rfl)⟩ hcX5 rfl rfl rfl rfl (Nat.le_of_ble_eq_true rfl) (Nat.le_of_ble_eq_true rfl) (Nat.le_of_ble_eq_true rfl) rfl ?_
    refine o_iret dX5_reach_12 rfl (vp_nar_int _) (Nat.le_of_ble_eq_true rfl) (Nat.le_of_ble_eq_true rfl) ?_
    exact MP.mk (σ := (r, im, hi, lt, L, rw, R, rfu rf 1)) (by simp only [s_reach, hno]; rfl)
theorem lX5_open {r m im wa fr lt rw rf nu : Nat → Int32} {hi pl sd : Int32} {L R : Nat} (hS : SOk r) : ∀ (q k : Nat), dN r - k < q → k ≤ dN r → Ok mX5_open none 4 [some (.ref 0), some (.int (opS r k)), some (.int (nI k))] [] (mW r m im wa fr hi lt rw rf (nI L) (nI R) pl nu sd) 0 0 (MP (s_open (r, im, hi, lt, L, rw, R, rf))) := by
  intro q
  induction q with
  | zero => intro k hq hk; omega
  | succ q ih =>
  intro k hq hk
  have h6 := hS.n6
  have h9 := hS.d9
  refine o_iload_n dX5_open_4 rfl rfl ?_
  refine o_aload_n dX5_open_5 rfl rfl ?_
  refine o_getf (j := 0) dX5_open_6 rfl hcX5 inX5 (Nat.le_of_ble_eq_true rfl) wd686 rfl rfl ?_
  refine o_iconst dX5_open_9 ic_0 ?_
  refine o_ialp (i := 0) dX5_open_10 rfl (rfl) (by decide) ?_
  refine o_icmp_ge (tgt := 51) dX5_open_11 (by decide) (fun c_11 => ?_) (fun c_11 => ?_)
  · rw [hS.e0] at c_11
    have hkN : k = dN r := Nat.le_antisymm hk (geI (by omega) (by omega) c_11)
    refine o_iload_n dX5_open_51 rfl rfl ?_
    refine o_iret dX5_open_52 rfl (vp_nar_int _) (Nat.le_of_ble_eq_true rfl) (Nat.le_of_ble_eq_true rfl) ?_
    exact MP.mk (σ := (r, im, hi, lt, L, rw, R, rf)) (by unfold s_open; rw [hkN])
  · rw [hS.e0] at c_11
    have hkN : k < dN r := ltI (by omega) (by omega) c_11
    refine o_iload_n dX5_open_14 rfl rfl ?_
    refine o_aload_n dX5_open_15 rfl rfl ?_
    refine o_getf (j := 0) dX5_open_16 rfl hcX5 inX5 (Nat.le_of_ble_eq_true rfl) wd686 rfl rfl ?_
    refine o_iload_n dX5_open_19 rfl rfl ?_
    refine o_bipush dX5_open_20 bp_m9 ?_
    refine o_aload_n dX5_open_22 rfl rfl ?_
    refine o_getf (j := 0) dX5_open_23 rfl hcX5 inX5 (Nat.le_of_ble_eq_true rfl) wd686 rfl rfl ?_
    refine o_iconst dX5_open_26 ic_2 ?_
    refine o_ialp (i := 2) dX5_open_27 rfl (rfl) (by decide) ?_
    refine o_iconst dX5_open_28 ic_1 ?_
    refine o_iadd dX5_open_29 ?_
    refine o_eqs (by rw [hS.e2, nI_1]) ?_
    refine o_callSr (is := [1]) (tX5_opens (by omega) hS.e1 (by omega) (hS.1.2.1 k hkN).1 (hS.1.2.1 k hkN).2 (by have := hS.2.2.1; omega)) ⟨rfl, rfl⟩ dX5_open_30 wd827 csX5_opens rfl ⟨(Nat.le_of_ble_eq_true rfl), (Nat.le_of_ble_eq_true rfl)⟩ rfl rfl rfl (Nat.le_of_ble_eq_true rfl) (Nat.le_of_ble_eq_true rfl) (Nat.le_of_ble_eq_true rfl) ?_
    refine o_if_eq (tgt := 42) dX5_open_33 (by decide) (fun c_33 => ?_) (fun c_33 => ?_)
    · have hb := bI_0.mp c_33
      rw [← nI_1, ← hS.e2] at hb
      refine o_iconst dX5_open_42 ic_0 ?_
      refine o_ior dX5_open_43 ?_
      refine o_istn_1 dX5_open_44 rfl rfl (Nat.le_of_ble_eq_true rfl) ?_
      refine o_inc_2 dX5_open_45 rfl ic_1 (Nat.le_of_ble_eq_true rfl) ?_
      refine o_goto (tgt := 4) dX5_open_48 (by decide) ?_
      exact o_eqa (by rw [nI_1, opS, hb]; rfl) rfl (ih (k + 1) (by omega) (by omega))
    · have hb := bI_ne c_33
      rw [← nI_1, ← hS.e2] at hb
      refine o_iconst dX5_open_36 ic_1 ?_
      refine o_iload_n dX5_open_37 rfl rfl ?_
      refine o_ishl dX5_open_38 ?_
      refine o_goto (tgt := 43) dX5_open_39 (by decide) ?_
      refine o_ior dX5_open_43 ?_
      refine o_istn_1 dX5_open_44 rfl rfl (Nat.le_of_ble_eq_true rfl) ?_
      refine o_inc_2 dX5_open_45 rfl ic_1 (Nat.le_of_ble_eq_true rfl) ?_
      refine o_goto (tgt := 4) dX5_open_48 (by decide) ?_
      exact o_eqa (by rw [nI_1, opS, if_pos hb]) rfl (ih (k + 1) (by omega) (by omega))
theorem tX5_open {r m im wa fr lt rw rf nu : Nat → Int32} {hi pl sd : Int32} {L R : Nat} (hS : SOk r) : PM mX5_open [.ref 0] (mW r m im wa fr hi lt rw rf (nI L) (nI R) pl nu sd) (MP (s_open (r, im, hi, lt, L, rw, R, rf))) := by
  refine PM.ofp 2 (by decide) (Nat.le_of_ble_eq_true rfl) ?_
  show Ok mX5_open none 0 [some (.ref 0), none, none] [] (mW r m im wa fr hi lt rw rf (nI L) (nI R) pl nu sd) 0 0 _
  refine o_iconst dX5_open_0 ic_0 ?_
  refine o_istn_1 dX5_open_1 rfl rfl (Nat.le_of_ble_eq_true rfl) ?_
  refine o_iconst dX5_open_2 ic_0 ?_
  refine o_istn_2 dX5_open_3 rfl rfl (Nat.le_of_ble_eq_true rfl) ?_
  exact o_eqa (by rw [nI_0]; rfl) rfl (lX5_open hS (dN r + 1) 0 (by omega) (by omega))
