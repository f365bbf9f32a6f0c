def skM (r : Nat → Int32) (who : Int32) (k : Nat) : Bool := decide (nI k = who) || gn r k
def hpM (r : Nat → Int32) (x who : Int32) : Nat → Int32
  | 0 => 0
  | k + 1 => if skM r who k = false ∧ r (50 + 3 * k) = x then hpM r x who k + 1 else hpM r x who k
def mdM (r : Nat → Int32) (x who : Int32) : Nat → Int32
  | 0 => 0
  | k + 1 => if skM r who k = false ∧ r (50 + 3 * k) = x then (if r (52 + 3 * k) ≤ mdM r x who k then mdM r x who k else r (52 + 3 * k)) else mdM r x who k
def opM (r : Nat → Int32) (N d : Nat) (who h : Int32) : Bool := decide (r (9 + 5 * d) = 1) || opB (r (5 + 5 * d)) (r (6 + 5 * d)) h (hpM r (r (8 + 5 * d)) who N) (mdM r (r (8 + 5 * d)) who N)
theorem bI_ne {b : Bool} (h : ¬ bI b = 0) : b = true := by cases b with
  | true => rfl
  | false => exact absurd rfl h
theorem lX5_opens {r : Nat → Int32} {N d h : Nat} {who : Int32} (hN : N ≤ 7) (h1 : r 1 = nI N) (hd : d < 9) (hk1 : KdI (r (5 + 5 * d))) (hf1 : FgI (r (6 + 5 * d))) (hh : h < 2147483648) (hw : ¬ r (9 + 5 * d) = 1) : ∀ (q k : Nat), N - k < q → k ≤ N → Ok mX5_opens none 22 [some (.ref 0), some (.int (nI d)), some (.int who), some (.int (nI h)), some (.int (hpM r (r (8 + 5 * d)) who k)), some (.int (mdM r (r (8 + 5 * d)) who k)), some (.int (nI k))] [] ([.inl (71, r)]) 0 0 (fun r2 w2 => r2 = some (.int (bI (opM r N d who (nI h)))) ∧ w2 = [.inl (71, r)]) := by
  intro q
  induction q with
  | zero => intro k hq hk; omega
  | succ q ih =>
  intro k hq hk
  refine o_iload dX5_opens_22 rfl ?_
  refine o_aload_n dX5_opens_24 rfl rfl ?_
  refine o_iconst dX5_opens_25 ic_1 ?_
  refine o_ialp (i := 1) dX5_opens_26 rfl (rfl) (by decide) ?_
  refine o_icmp_ge (tgt := 92) dX5_opens_27 (by decide) (fun c_27 => ?_) (fun c_27 => ?_)
  · rw [h1] at c_27
    have hkN : k = N := Nat.le_antisymm hk (geI (by omega) (by omega) c_27)
    subst hkN
    refine o_aload_n dX5_opens_92 rfl rfl ?_
    refine o_iload_n dX5_opens_93 rfl rfl ?_
    refine o_iconst dX5_opens_94 ic_0 ?_
    refine o_callSr (is := []) (ofD0) ⟨rfl, rfl⟩ dX5_opens_95 wd777 csX5_ofD rfl ⟨(Nat.le_of_ble_eq_true rfl), (Nat.le_of_ble_eq_true rfl)⟩ rfl rfl rfl (Nat.le_of_ble_eq_true rfl) (Nat.le_of_ble_eq_true rfl) (Nat.le_of_ble_eq_true rfl) ?_
    refine o_ialp (i := 5 + 5 * d) dX5_opens_98 rfl (rfl) (by omega) ?_
    refine o_aload_n dX5_opens_99 rfl rfl ?_
    refine o_iload_n dX5_opens_100 rfl rfl ?_
    refine o_iconst dX5_opens_101 ic_1 ?_
    refine o_callSr (is := []) (ofD1) ⟨rfl, rfl⟩ dX5_opens_102 wd777 csX5_ofD rfl ⟨(Nat.le_of_ble_eq_true rfl), (Nat.le_of_ble_eq_true rfl)⟩ rfl rfl rfl (Nat.le_of_ble_eq_true rfl) (Nat.le_of_ble_eq_true rfl) (Nat.le_of_ble_eq_true rfl) ?_
    refine o_ialp (i := 6 + 5 * d) dX5_opens_105 rfl (rfl) (by omega) ?_
    refine o_iload_n dX5_opens_106 rfl rfl ?_
    refine o_iload dX5_opens_107 rfl ?_
    refine o_iload dX5_opens_109 rfl ?_
    refine o_callSr (is := []) (tX5_opensBy hk1 hf1 hh) ⟨rfl, rfl⟩ dX5_opens_111 wd833 csX5_opensBy rfl ⟨(Nat.le_of_ble_eq_true rfl), (Nat.le_of_ble_eq_true rfl)⟩ rfl rfl rfl (Nat.le_of_ble_eq_true rfl) (Nat.le_of_ble_eq_true rfl) (Nat.le_of_ble_eq_true rfl) ?_
    refine o_iret dX5_opens_114 rfl (by first | exact nz_b _ | decide) (Nat.le_of_ble_eq_true rfl) (Nat.le_of_ble_eq_true rfl) ?_
    exact ⟨by rw [opM]; simp [hw], rfl⟩
  · rw [h1] at c_27
    have hkN : k < N := ltI (by omega) (by omega) c_27
    refine o_iload dX5_opens_30 rfl ?_
    refine o_iload_n dX5_opens_32 rfl rfl ?_
    refine o_icmp_eq (tgt := 86) dX5_opens_33 (by decide) (fun c_33 => ?_) (fun c_33 => ?_)
    · have hc : ¬ (skM r who k = false ∧ r (50 + 3 * k) = r (8 + 5 * d)) := fun q => by simp [skM, c_33] at q
      refine o_inc_6 dX5_opens_86 rfl ic_1 (Nat.le_of_ble_eq_true rfl) ?_
      refine o_goto (tgt := 22) dX5_opens_89 (by decide) ?_
      exact o_eqa (by rw [nI_1, hpM, mdM, if_neg hc, if_neg hc]) rfl (ih (k + 1) (by omega) (by omega))
    · skip
      refine o_aload_n dX5_opens_36 rfl rfl ?_
      refine o_iload dX5_opens_37 rfl ?_
      refine o_aload_n dX5_opens_39 rfl rfl ?_
      refine o_iload_n dX5_opens_40 rfl rfl ?_
      refine o_iconst dX5_opens_41 ic_3 ?_
      refine o_callSr (is := []) (ofD3) ⟨rfl, rfl⟩ dX5_opens_42 wd777 csX5_ofD rfl ⟨(Nat.le_of_ble_eq_true rfl), (Nat.le_of_ble_eq_true rfl)⟩ rfl rfl rfl (Nat.le_of_ble_eq_true rfl) (Nat.le_of_ble_eq_true rfl) (Nat.le_of_ble_eq_true rfl) ?_
      refine o_ialp (i := 8 + 5 * d) dX5_opens_45 rfl (rfl) (by omega) ?_
      refine o_callSr (is := [0]) (tX5_isThere (by omega)) ⟨rfl, rfl⟩ dX5_opens_46 wd830 csX5_isThere rfl ⟨(Nat.le_of_ble_eq_true rfl), (Nat.le_of_ble_eq_true rfl)⟩ rfl rfl rfl (Nat.le_of_ble_eq_true rfl) (Nat.le_of_ble_eq_true rfl) (Nat.le_of_ble_eq_true rfl) ?_
      refine o_if_ne (tgt := 55) dX5_opens_49 (by decide) (fun c_49 => ?_) (fun c_49 => ?_)
      · have hc : skM r who k = false ∧ r (50 + 3 * k) = r (8 + 5 * d) := by
          have q := bI_ne c_49
          simp only [Bool.and_eq_true, Bool.not_eq_true', decide_eq_true_eq] at q
          exact ⟨by simp [skM, c_33, q.1], q.2⟩
        refine o_inc_4 dX5_opens_55 rfl ic_1 (Nat.le_of_ble_eq_true rfl) ?_
        refine o_aload_n dX5_opens_58 rfl rfl ?_
        refine o_iload dX5_opens_59 rfl ?_
        refine o_iconst dX5_opens_61 ic_2 ?_
        refine o_callSr (is := []) (ofP2) ⟨rfl, rfl⟩ dX5_opens_62 wd783 csX5_ofP rfl ⟨(Nat.le_of_ble_eq_true rfl), (Nat.le_of_ble_eq_true rfl)⟩ rfl rfl rfl (Nat.le_of_ble_eq_true rfl) (Nat.le_of_ble_eq_true rfl) (Nat.le_of_ble_eq_true rfl) ?_
        refine o_ialp (i := 52 + 3 * k) dX5_opens_65 rfl (rfl) (by omega) ?_
        refine o_iload dX5_opens_66 rfl ?_
        refine o_icmp_le (tgt := 82) dX5_opens_68 (by decide) (fun c_68 => ?_) (fun c_68 => ?_)
        · skip
          refine o_iload dX5_opens_82 rfl ?_
          refine o_istg_5 dX5_opens_84 rfl (Nat.le_of_ble_eq_true rfl) ?_
          refine o_inc_6 dX5_opens_86 rfl ic_1 (Nat.le_of_ble_eq_true rfl) ?_
          refine o_goto (tgt := 22) dX5_opens_89 (by decide) ?_
          exact o_eqa (by rw [nI_1, hpM, mdM, if_pos hc, if_pos hc, if_pos c_68]) rfl (ih (k + 1) (by omega) (by omega))
        · skip
          refine o_aload_n dX5_opens_71 rfl rfl ?_
          refine o_iload dX5_opens_72 rfl ?_
          refine o_iconst dX5_opens_74 ic_2 ?_
          refine o_callSr (is := []) (ofP2) ⟨rfl, rfl⟩ dX5_opens_75 wd783 csX5_ofP rfl ⟨(Nat.le_of_ble_eq_true rfl), (Nat.le_of_ble_eq_true rfl)⟩ rfl rfl rfl (Nat.le_of_ble_eq_true rfl) (Nat.le_of_ble_eq_true rfl) (Nat.le_of_ble_eq_true rfl) ?_
          refine o_ialp (i := 52 + 3 * k) dX5_opens_78 rfl (rfl) (by omega) ?_
          refine o_goto (tgt := 84) dX5_opens_79 (by decide) ?_
          refine o_istg_5 dX5_opens_84 rfl (Nat.le_of_ble_eq_true rfl) ?_
          refine o_inc_6 dX5_opens_86 rfl ic_1 (Nat.le_of_ble_eq_true rfl) ?_
          refine o_goto (tgt := 22) dX5_opens_89 (by decide) ?_
          exact o_eqa (by rw [nI_1, hpM, mdM, if_pos hc, if_pos hc, if_neg c_68]) rfl (ih (k + 1) (by omega) (by omega))
      · have hc : ¬ (skM r who k = false ∧ r (50 + 3 * k) = r (8 + 5 * d)) := fun q => by
          have q2 := bI_0.mp c_49
          have q3 : gn r k = false := by
            have := q.1
            simp only [skM, Bool.or_eq_false_iff] at this
            exact this.2
          rw [q3, decide_eq_true q.2] at q2
          cases q2
        refine o_goto (tgt := 86) dX5_opens_52 (by decide) ?_
        refine o_inc_6 dX5_opens_86 rfl ic_1 (Nat.le_of_ble_eq_true rfl) ?_
        refine o_goto (tgt := 22) dX5_opens_89 (by decide) ?_
        exact o_eqa (by rw [nI_1, hpM, mdM, if_neg hc, if_neg hc]) rfl (ih (k + 1) (by omega) (by omega))
theorem tX5_opens {r : Nat → Int32} {N d h : Nat} {who : Int32} (hN : N ≤ 7) (h1 : r 1 = nI N) (hd : d < 9) (hk1 : KdI (r (5 + 5 * d))) (hf1 : FgI (r (6 + 5 * d))) (hh : h < 2147483648) : PD mX5_opens [.ref 0, .int (nI d), .int who, .int (nI h)] ([.inl (71, r)]) (some (.int (bI (opM r N d who (nI h))))) ([.inl (71, r)]) := by
  refine PM.ofp 3 (by decide) (Nat.le_of_ble_eq_true rfl) ?_
  show Ok mX5_opens none 0 [some (.ref 0), some (.int (nI d)), some (.int who), some (.int (nI h)), none, none, none] [] ([.inl (71, r)]) 0 0 _
  refine o_aload_n dX5_opens_0 rfl rfl ?_
  refine o_iload_n dX5_opens_1 rfl rfl ?_
  refine o_iconst dX5_opens_2 ic_4 ?_
  refine o_callSr (is := []) (ofD4) ⟨rfl, rfl⟩ dX5_opens_3 wd777 csX5_ofD rfl ⟨(Nat.le_of_ble_eq_true rfl), (Nat.le_of_ble_eq_true rfl)⟩ rfl rfl rfl (Nat.le_of_ble_eq_true rfl) (Nat.le_of_ble_eq_true rfl) (Nat.le_of_ble_eq_true rfl) ?_
  refine o_ialp (i := 9 + 5 * d) dX5_opens_6 rfl (rfl) (by omega) ?_
  refine o_iconst dX5_opens_7 ic_1 ?_
  refine o_icmp_ne (tgt := 13) dX5_opens_8 (by decide) (fun c_8 => ?_) (fun c_8 => ?_)
  · skip
    refine o_iconst dX5_opens_13 ic_0 ?_
    refine o_istg_4 dX5_opens_14 rfl (Nat.le_of_ble_eq_true rfl) ?_
    refine o_iconst dX5_opens_16 ic_0 ?_
    refine o_istg_5 dX5_opens_17 rfl (Nat.le_of_ble_eq_true rfl) ?_
    refine o_iconst dX5_opens_19 ic_0 ?_
    refine o_istg_6 dX5_opens_20 rfl (Nat.le_of_ble_eq_true rfl) ?_
    exact o_eqa (by rw [nI_0]; rfl) rfl (lX5_opens hN h1 hd hk1 hf1 hh c_8 (N + 1) 0 (by omega) (by omega))
  · skip
    refine o_iconst dX5_opens_11 ic_1 ?_
    refine o_iret dX5_opens_12 rfl (by first | exact nz_b _ | decide) (Nat.le_of_ble_eq_true rfl) (Nat.le_of_ble_eq_true rfl) ?_
    exact ⟨by simp [opM, c_8, bI], rfl⟩
def homeM (r : Nat → Int32) : Nat → Int32
  | 0 => 0
  | k + 1 => homeM r k ||| (if gn r k = false ∧ r (50 + 3 * k) = r (51 + 3 * k) then 1 <<< (nI k &&& 31) else 0)
theorem lX5_homeIn {r : Nat → Int32} {N : Nat} (hN : N ≤ 7) (h1 : r 1 = nI N) : ∀ (q k : Nat), N - k < q → k ≤ N → Ok mX5_homeIn none 4 [some (.ref 0), some (.int (homeM r k)), some (.int (nI k))] [] ([.inl (71, r)]) 0 0 (fun r2 w2 => r2 = some (.int (homeM r N)) ∧ w2 = [.inl (71, r)]) := by
  intro q
  induction q with
  | zero => intro k hq hk; omega
  | succ q ih =>
  intro k hq hk
  refine o_iload_n dX5_homeIn_4 rfl rfl ?_
  refine o_aload_n dX5_homeIn_5 rfl rfl ?_
  refine o_iconst dX5_homeIn_6 ic_1 ?_
  refine o_ialp (i := 1) dX5_homeIn_7 rfl (rfl) (by decide) ?_
  refine o_icmp_ge (tgt := 54) dX5_homeIn_8 (by decide) (fun c_8 => ?_) (fun c_8 => ?_)
  · rw [h1] at c_8
    have hkN : k = N := Nat.le_antisymm hk (geI (by omega) (by omega) c_8)
    subst hkN
    refine o_iload_n dX5_homeIn_54 rfl rfl ?_
    refine o_iret dX5_homeIn_55 rfl (vp_nar_int _) (Nat.le_of_ble_eq_true rfl) (Nat.le_of_ble_eq_true rfl) ?_
    exact ⟨rfl, rfl⟩
  · rw [h1] at c_8
    have hkN : k < N := ltI (by omega) (by omega) c_8
    refine o_iload_n dX5_homeIn_11 rfl rfl ?_
    refine o_aload_n dX5_homeIn_12 rfl rfl ?_
    refine o_iconst dX5_homeIn_13 ic_4 ?_
    refine o_ialp (i := 4) dX5_homeIn_14 rfl (rfl) (by decide) ?_
    refine o_iload_n dX5_homeIn_15 rfl rfl ?_
    refine o_callSr (is := []) (tX5_has) ⟨rfl, rfl⟩ dX5_homeIn_16 wd812 csX5_has rfl ⟨(Nat.le_of_ble_eq_true rfl), (Nat.le_of_ble_eq_true rfl)⟩ rfl rfl rfl (Nat.le_of_ble_eq_true rfl) (Nat.le_of_ble_eq_true rfl) (Nat.le_of_ble_eq_true rfl) ?_
    refine o_if_ne (tgt := 45) dX5_homeIn_19 (by decide) (fun c_19 => ?_) (fun c_19 => ?_)
    · have hg : gn r k = true := bI_ne c_19
      refine o_iconst dX5_homeIn_45 ic_0 ?_
      refine o_ior dX5_homeIn_46 ?_
      refine o_istn_1 dX5_homeIn_47 rfl rfl (Nat.le_of_ble_eq_true rfl) ?_
      refine o_inc_2 dX5_homeIn_48 rfl ic_1 (Nat.le_of_ble_eq_true rfl) ?_
      refine o_goto (tgt := 4) dX5_homeIn_51 (by decide) ?_
      exact o_eqa (by rw [nI_1, homeM, if_neg (fun q => by rw [hg] at q; cases q.1)]) rfl (ih (k + 1) (by omega) (by omega))
    · have hg : gn r k = false := bI_0.mp c_19
      refine o_aload_n dX5_homeIn_22 rfl rfl ?_
      refine o_iload_n dX5_homeIn_23 rfl rfl ?_
      refine o_iconst dX5_homeIn_24 ic_0 ?_
      refine o_callSr (is := []) (ofP0) ⟨rfl, rfl⟩ dX5_homeIn_25 wd783 csX5_ofP rfl ⟨(Nat.le_of_ble_eq_true rfl), (Nat.le_of_ble_eq_true rfl)⟩ rfl rfl rfl (Nat.le_of_ble_eq_true rfl) (Nat.le_of_ble_eq_true rfl) (Nat.le_of_ble_eq_true rfl) ?_
      refine o_ialp (i := 50 + 3 * k) dX5_homeIn_28 rfl (rfl) (by omega) ?_
      refine o_aload_n dX5_homeIn_29 rfl rfl ?_
      refine o_iload_n dX5_homeIn_30 rfl rfl ?_
      refine o_iconst dX5_homeIn_31 ic_1 ?_
      refine o_callSr (is := []) (ofP1) ⟨rfl, rfl⟩ dX5_homeIn_32 wd783 csX5_ofP rfl ⟨(Nat.le_of_ble_eq_true rfl), (Nat.le_of_ble_eq_true rfl)⟩ rfl rfl rfl (Nat.le_of_ble_eq_true rfl) (Nat.le_of_ble_eq_true rfl) (Nat.le_of_ble_eq_true rfl) ?_
      refine o_ialp (i := 51 + 3 * k) dX5_homeIn_35 rfl (rfl) (by omega) ?_
      refine o_icmp_ne (tgt := 45) dX5_homeIn_36 (by decide) (fun c_36 => ?_) (fun c_36 => ?_)
      · skip
        refine o_iconst dX5_homeIn_45 ic_0 ?_
        refine o_ior dX5_homeIn_46 ?_
        refine o_istn_1 dX5_homeIn_47 rfl rfl (Nat.le_of_ble_eq_true rfl) ?_
        refine o_inc_2 dX5_homeIn_48 rfl ic_1 (Nat.le_of_ble_eq_true rfl) ?_
        refine o_goto (tgt := 4) dX5_homeIn_51 (by decide) ?_
        exact o_eqa (by rw [nI_1, homeM, if_neg (fun q => c_36 q.2)]) rfl (ih (k + 1) (by omega) (by omega))
      · skip
        refine o_iconst dX5_homeIn_39 ic_1 ?_
        refine o_iload_n dX5_homeIn_40 rfl rfl ?_
        refine o_ishl dX5_homeIn_41 ?_
        refine o_goto (tgt := 46) dX5_homeIn_42 (by decide) ?_
        refine o_ior dX5_homeIn_46 ?_
        refine o_istn_1 dX5_homeIn_47 rfl rfl (Nat.le_of_ble_eq_true rfl) ?_
        refine o_inc_2 dX5_homeIn_48 rfl ic_1 (Nat.le_of_ble_eq_true rfl) ?_
        refine o_goto (tgt := 4) dX5_homeIn_51 (by decide) ?_
        exact o_eqa (by rw [nI_1, homeM, if_pos ⟨hg, c_36⟩]) rfl (ih (k + 1) (by omega) (by omega))
theorem tX5_homeIn {r : Nat → Int32} {N : Nat} (hN : N ≤ 7) (h1 : r 1 = nI N) : PD mX5_homeIn [.ref 0] ([.inl (71, r)]) (some (.int (homeM r N))) ([.inl (71, r)]) := by
  refine PM.ofp 2 (by decide) (Nat.le_of_ble_eq_true rfl) ?_
  show Ok mX5_homeIn none 0 [some (.ref 0), none, none] [] ([.inl (71, r)]) 0 0 _
  refine o_iconst dX5_homeIn_0 ic_0 ?_
  refine o_istn_1 dX5_homeIn_1 rfl rfl (Nat.le_of_ble_eq_true rfl) ?_
  refine o_iconst dX5_homeIn_2 ic_0 ?_
  refine o_istn_2 dX5_homeIn_3 rfl rfl (Nat.le_of_ble_eq_true rfl) ?_
  exact o_eqa (by rw [nI_0]; rfl) rfl (lX5_homeIn hN h1 (N + 1) 0 (by omega) (by omega))
abbrev mW (s m im wa fr : Nat → Int32) (hi : Int32) (lt rw rf : Nat → Int32) (lm rn pl : Int32) (nu : Nat → Int32) (sd : Int32) : PW := [.inr (5, [.ref 1, .ref 2, .ref 3, .ref 4, .ref 5, .int hi, .ref 6, .ref 7, .ref 8, .int lm, .int rn, .int pl, .ref 9, .int sd]), .inl (71, s), .inl (71, m), .inl (71, im), .inl (71, wa), .inl (64, fr), .inl (96, lt), .inl (16, rw), .inl (7, rf), .inl (4, nu)]
def f0N (i : Nat) : Nat := if i % 9 = 0 then 0 else 99
def feN (fa fb : Nat → Nat) : Nat → (Nat → Nat)
  | 0 => f0N
  | d + 1 => gup (feN fa fb d) (8 * fa d + fb d) 1
def fwB (g : Nat → Nat) (k a : Nat) : Nat → (Nat → Nat)
  | 0 => g
  | b + 1 => gup (fwB g k a b) (8 * a + b) (min (fwB g k a b (8 * a + b)) (fwB g k a b (8 * a + k) + fwB g k a b (8 * k + b)))
def fwA (g : Nat → Nat) (k : Nat) : Nat → (Nat → Nat)
  | 0 => g
  | a + 1 => fwB (fwA g k a) k a 8
def fwK (g : Nat → Nat) : Nat → (Nat → Nat)
  | 0 => g
  | k + 1 => fwA (fwK g k) k 8
def frT (fa fb : Nat → Nat) (D : Nat) : Nat → Nat := fwK (feN fa fb D) 8
theorem f0N_le (i : Nat) : f0N i ≤ 99 := by unfold f0N; split <;> omega
theorem feN_le {fa fb : Nat → Nat} : ∀ d i, feN fa fb d i ≤ 99
  | 0, i => f0N_le i
  | d + 1, i => gup_le (feN_le d) (by omega) i
theorem fwB_le {g : Nat → Nat} {k a : Nat} (h : ∀ i, g i ≤ 99) : ∀ b i, fwB g k a b i ≤ 99
  | 0, i => h i
  | b + 1, i => gup_le (fwB_le h b) (Nat.le_trans (Nat.min_le_left _ _) (fwB_le h b _)) i
theorem fwA_le {g : Nat → Nat} {k : Nat} (h : ∀ i, g i ≤ 99) : ∀ a i, fwA g k a i ≤ 99
  | 0, i => h i
  | a + 1, i => fwB_le (fwA_le h a) 8 i
theorem fwK_le {g : Nat → Nat} (h : ∀ i, g i ≤ 99) : ∀ k i, fwK g k i ≤ 99
  | 0, i => h i
  | k + 1, i => fwA_le (fwK_le h k) 8 i
theorem frT_le {fa fb : Nat → Nat} {D : Nat} (i : Nat) : frT fa fb D i ≤ 99 := fwK_le (feN_le D) 8 i
theorem least_n {x y : Nat} (hx : x < 2147483648) (hy : y < 2147483648) : leastF (nI x) (nI y) = nI (min x y) := by
  unfold leastF
  by_cases h : y ≤ x
  · rw [if_pos (nI_le h hx), Nat.min_eq_right h]
  · rw [if_neg (fun q => h ((nI_leI hy hx).mp q)), Nat.min_eq_left (by omega)]
theorem ix8l (a b : Nat) : 8 * nI a + nI b = nI (8 * a + b) := by rw [show (8 : Int32) = nI 8 from rfl, pk_mul, nI_add]
theorem rm9 {i : Nat} (h : i < 1000) : nI i - nI i / 9 * 9 = nI (i % 9) := pk_rem (d := 9) (by omega) (by omega) (by omega)
theorem tX5_wayOf {s m im wa lt rw rf nu : Nat → Int32} {hi lm rn pl sd : Int32} {g : Nat → Nat} {a b : Nat} (ha : a < 8) (hb : b < 8) : PD mX5_wayOf [.ref 0, .int (nI a), .int (nI b)] (mW s m im wa (nF g) hi lt rw rf lm rn pl nu sd) (some (.int (nI (g (8 * a + b))))) (mW s m im wa (nF g) hi lt rw rf lm rn pl nu sd) := by
  refine PM.ofp 0 (by decide) (Nat.le_of_ble_eq_true rfl) ?_
  show Ok mX5_wayOf none 0 [some (.ref 0), some (.int (nI a)), some (.int (nI b))] [] (mW s m im wa (nF g) hi lt rw rf lm rn pl nu sd) 0 0 _
  refine o_aload_n dX5_wayOf_0 rfl rfl ?_
  refine o_getf (j := 4) dX5_wayOf_1 rfl hcX5 inX5 (Nat.le_of_ble_eq_true rfl) wd690 rfl rfl ?_
  refine o_bipush dX5_wayOf_4 bp_8 ?_
  refine o_iload_n dX5_wayOf_6 rfl rfl ?_
  refine o_imul dX5_wayOf_7 ?_
  refine o_iload_n dX5_wayOf_8 rfl rfl ?_
  refine o_iadd dX5_wayOf_9 ?_
  refine o_ialp (i := 8 * a + b) dX5_wayOf_10 rfl (ix8l a b) (by omega) ?_
  refine o_iret dX5_wayOf_11 rfl (vp_nar_int _) (Nat.le_of_ble_eq_true rfl) (Nat.le_of_ble_eq_true rfl) ?_
  exact ⟨rfl, rfl⟩
theorem lX5_ms1_s {m im wa fr lt rw rf nu : Nat → Int32} {hi lm rn pl sd : Int32}{r : Nat → Int32} {P : Option Value → PW → Prop} {x3 x4 : Option Value} (hP : ∀ i2, Ok mX5_measures none 33 [some (.ref 0), some (.ref 1), some (.int i2), x3, x4] [] (mW r m im wa (nF f0N) hi lt rw rf lm rn pl nu sd) 0 0 P) : ∀ (q k : Nat), 64 - k < q → k ≤ 64 → Ok mX5_measures none 2 [some (.ref 0), some (.ref 1), some (.int (nI k)), x3, x4] [] (mW r m im wa (zrF fr (nF f0N) k) hi lt rw rf lm rn pl nu sd) 0 0 (P) := by
  intro q
  induction q with
  | zero => intro k hq hk; omega
  | succ q ih =>
  intro k hq hk
  refine o_iload_n dX5_measures_2 rfl rfl ?_
  refine o_bipush dX5_measures_3 bp_64 ?_
  refine o_icmp_ge (tgt := 33) dX5_measures_5 (by decide) (fun c_5 => ?_) (fun c_5 => ?_)
  · have hkN : k = 64 := Nat.le_antisymm hk (geI (b := 64) (by omega) (by omega) c_5)
    subst hkN
    refine o_same (w2 := mW r m im wa (nF f0N) hi lt rw rf lm rn pl nu sd) rfl (fun j x y hx hy => ?_) (hP _)
    match j, hx, hy with
    | 0, hx, hy => cases hx; cases hy; exact rfl
    | 1, hx, hy => cases hx; cases hy; exact ⟨rfl, fun _ _ => rfl⟩
    | 2, hx, hy => cases hx; cases hy; exact ⟨rfl, fun _ _ => rfl⟩
    | 3, hx, hy => cases hx; cases hy; exact ⟨rfl, fun _ _ => rfl⟩
    | 4, hx, hy => cases hx; cases hy; exact ⟨rfl, fun _ _ => rfl⟩
    | 5, hx, hy => cases hx; cases hy; exact ⟨rfl, fun j hj => zrF_n fr (nF f0N) 64 j hj⟩
    | 6, hx, hy => cases hx; cases hy; exact ⟨rfl, fun _ _ => rfl⟩
    | 7, hx, hy => cases hx; cases hy; exact ⟨rfl, fun _ _ => rfl⟩
    | 8, hx, hy => cases hx; cases hy; exact ⟨rfl, fun _ _ => rfl⟩
    | 9, hx, hy => cases hx; cases hy; exact ⟨rfl, fun _ _ => rfl⟩
  · have hkN : k < 64 := ltI (b := 64) (by omega) (by omega) c_5
    refine o_aload_n dX5_measures_8 rfl rfl ?_
    refine o_getf (j := 4) dX5_measures_9 rfl hcX5 inX5 (Nat.le_of_ble_eq_true rfl) wd690 rfl rfl ?_
    refine o_iload_n dX5_measures_12 rfl rfl ?_
    refine o_iload_n dX5_measures_13 rfl rfl ?_
    refine o_bipush dX5_measures_14 bp_9 ?_
    refine o_irem dX5_measures_16 (by decide) ?_
    refine o_if_ne (tgt := 24) dX5_measures_17 (by decide) (fun c_17 => ?_) (fun c_17 => ?_)
    · rw [rm9 (by omega)] at c_17
      have e0 : (99 : Int32) = nF f0N k := by unfold nF f0N; rw [if_neg (fun q => c_17 (by rw [q]; rfl))]; rfl
      refine o_bipush dX5_measures_24 bp_99 ?_
      refine o_iasp (i := k) dX5_measures_26 rfl (rfl) (hkN) rfl ?_
      refine o_inc_2 dX5_measures_27 rfl ic_1 (Nat.le_of_ble_eq_true rfl) ?_
      refine o_goto (tgt := 2) dX5_measures_30 (by decide) ?_
      exact o_eqa (by rw [nI_1]) (by rw [← zrF_s, ← e0]; rfl) (ih (k + 1) (by omega) (by omega))
    · rw [rm9 (by omega)] at c_17
      have e0 : (0 : Int32) = nF f0N k := by unfold nF f0N; rw [if_pos ((nI_eq (b := 0) (by omega) (by omega)).mp c_17)]; rfl
      refine o_iconst dX5_measures_20 ic_0 ?_
      refine o_goto (tgt := 26) dX5_measures_21 (by decide) ?_
      refine o_iasp (i := k) dX5_measures_26 rfl (rfl) (hkN) rfl ?_
      refine o_inc_2 dX5_measures_27 rfl ic_1 (Nat.le_of_ble_eq_true rfl) ?_
      refine o_goto (tgt := 2) dX5_measures_30 (by decide) ?_
      exact o_eqa (by rw [nI_1]) (by rw [← zrF_s, ← e0]; rfl) (ih (k + 1) (by omega) (by omega))
theorem lX5_ms2_s {m im wa lt rw rf nu : Nat → Int32} {hi lm rn pl sd : Int32}{r : Nat → Int32} {D N : Nat} (hT : TOk r D N) {P : Option Value → PW → Prop} {x3 x4 : Option Value} (hP : ∀ i2, Ok mX5_measures none 72 [some (.ref 0), some (.ref 1), some (.int i2), x3, x4] [] (mW r m im wa (nF (feN (fA r) (fB r) D)) hi lt rw rf lm rn pl nu sd) 0 0 P) : ∀ (q k : Nat), D - k < q → k ≤ D → Ok mX5_measures none 35 [some (.ref 0), some (.ref 1), some (.int (nI k)), x3, x4] [] (mW r m im wa (nF (feN (fA r) (fB r) k)) hi lt rw rf lm rn pl nu sd) 0 0 (P) := by
  intro q
  induction q with
  | zero => intro k hq hk; omega
  | succ q ih =>
  intro k hq hk
  have hD9 := hT.2.1
  refine o_iload_n dX5_measures_35 rfl rfl ?_
  refine o_aload_n dX5_measures_36 rfl rfl ?_
  refine o_iconst dX5_measures_37 ic_0 ?_
  refine o_ialp (i := 0) dX5_measures_38 rfl (rfl) (by decide) ?_
  refine o_icmp_ge (tgt := 72) dX5_measures_39 (by decide) (fun c_39 => ?_) (fun c_39 => ?_)
  · rw [hT.1] at c_39
    have hkN : k = D := Nat.le_antisymm hk (geI (by omega) (by omega) c_39)
    subst hkN
    exact hP _
  · rw [hT.1] at c_39
    have hkN : k < D := ltI (by omega) (by omega) c_39
    obtain ⟨qa, qb⟩ := hT.2.2.2.2.2 k hkN
    have qa := qa.cN
    have qb := qb.cN
    have la : fA r k < 8 := qa.1
    have lb : fB r k < 8 := qb.1
    have ei : 8 * r (7 + 5 * k) + r (8 + 5 * k) = nI (8 * fA r k + fB r k) := by rw [← ix8l]; unfold fA fB; rw [← qa.2, ← qb.2]
    refine o_aload_n dX5_measures_42 rfl rfl ?_
    refine o_getf (j := 4) dX5_measures_43 rfl hcX5 inX5 (Nat.le_of_ble_eq_true rfl) wd690 rfl rfl ?_
    refine o_bipush dX5_measures_46 bp_8 ?_
    refine o_aload_n dX5_measures_48 rfl rfl ?_
    refine o_iload_n dX5_measures_49 rfl rfl ?_
    refine o_iconst dX5_measures_50 ic_2 ?_
    refine o_callSr (is := []) (ofD2) ⟨rfl, rfl⟩ dX5_measures_51 wd777 csX5_ofD rfl ⟨(Nat.le_of_ble_eq_true rfl), (Nat.le_of_ble_eq_true rfl)⟩ rfl rfl rfl (Nat.le_of_ble_eq_true rfl) (Nat.le_of_ble_eq_true rfl) (Nat.le_of_ble_eq_true rfl) ?_
    refine o_ialp (i := 7 + 5 * k) dX5_measures_54 rfl (rfl) (by omega) ?_
    refine o_imul dX5_measures_55 ?_
    refine o_aload_n dX5_measures_56 rfl rfl ?_
    refine o_iload_n dX5_measures_57 rfl rfl ?_
    refine o_iconst dX5_measures_58 ic_3 ?_
    refine o_callSr (is := []) (ofD3) ⟨rfl, rfl⟩ dX5_measures_59 wd777 csX5_ofD rfl ⟨(Nat.le_of_ble_eq_true rfl), (Nat.le_of_ble_eq_true rfl)⟩ rfl rfl rfl (Nat.le_of_ble_eq_true rfl) (Nat.le_of_ble_eq_true rfl) (Nat.le_of_ble_eq_true rfl) ?_
    refine o_ialp (i := 8 + 5 * k) dX5_measures_62 rfl (rfl) (by omega) ?_
    refine o_iadd dX5_measures_63 ?_
    refine o_iconst dX5_measures_64 ic_1 ?_
    refine o_iasp (i := 8 * fA r k + fB r k) dX5_measures_65 rfl (ei) (by omega) rfl ?_
    refine o_inc_2 dX5_measures_66 rfl ic_1 (Nat.le_of_ble_eq_true rfl) ?_
    refine o_goto (tgt := 35) dX5_measures_69 (by decide) ?_
    exact o_eqa (by rw [nI_1]) (by rw [feN, ← nF_up]; rfl) (ih (k + 1) (by omega) (by omega))
theorem lX5_ms3_s {m im wa lt rw rf nu : Nat → Int32} {hi lm rn pl sd : Int32}{r : Nat → Int32} {g : Nat → Nat} (hg : ∀ i, g i ≤ 99) {a c : Nat} (ha : a < 8) (hc : c < 8) {P : Option Value → PW → Prop} (hP : ∀ i4, Ok mX5_measures none 155 [some (.ref 0), some (.ref 1), some (.int (nI c)), some (.int (nI a)), some (.int i4)] [] (mW r m im wa (nF (fwB g c a 8)) hi lt rw rf lm rn pl nu sd) 0 0 P) : ∀ (q k : Nat), 8 - k < q → k ≤ 8 → Ok mX5_measures none 91 [some (.ref 0), some (.ref 1), some (.int (nI c)), some (.int (nI a)), some (.int (nI k))] [] (mW r m im wa (nF (fwB g c a k)) hi lt rw rf lm rn pl nu sd) 0 0 (P) := by
  intro q
  induction q with
  | zero => intro k hq hk; omega
  | succ q ih =>
  intro k hq hk
  have hle := fwB_le (k := c) (a := a) hg k
  refine o_iload dX5_measures_91 rfl ?_
  refine o_bipush dX5_measures_93 bp_8 ?_
  refine o_icmp_ge (tgt := 155) dX5_measures_95 (by decide) (fun c_95 => ?_) (fun c_95 => ?_)
  · have hkN : k = 8 := Nat.le_antisymm hk (geI (b := 8) (by omega) (by omega) c_95)
    subst hkN
    exact hP _
  · have hkN : k < 8 := ltI (b := 8) (by omega) (by omega) c_95
    refine o_aload_n dX5_measures_98 rfl rfl ?_
    refine o_getf (j := 4) dX5_measures_99 rfl hcX5 inX5 (Nat.le_of_ble_eq_true rfl) wd690 rfl rfl ?_
    refine o_bipush dX5_measures_102 bp_8 ?_
    refine o_iload_n dX5_measures_104 rfl rfl ?_
    refine o_imul dX5_measures_105 ?_
    refine o_iload dX5_measures_106 rfl ?_
    refine o_iadd dX5_measures_108 ?_
    refine o_aload_n dX5_measures_109 rfl rfl ?_
    refine o_getf (j := 4) dX5_measures_110 rfl hcX5 inX5 (Nat.le_of_ble_eq_true rfl) wd690 rfl rfl ?_
    refine o_bipush dX5_measures_113 bp_8 ?_
    refine o_iload_n dX5_measures_115 rfl rfl ?_
    refine o_imul dX5_measures_116 ?_
    refine o_iload dX5_measures_117 rfl ?_
    refine o_iadd dX5_measures_119 ?_
    refine o_ialp (i := 8 * a + k) dX5_measures_120 rfl (ix8l a k) (by omega) ?_
    refine o_aload_n dX5_measures_121 rfl rfl ?_
    refine o_getf (j := 4) dX5_measures_122 rfl hcX5 inX5 (Nat.le_of_ble_eq_true rfl) wd690 rfl rfl ?_
    refine o_bipush dX5_measures_125 bp_8 ?_
    refine o_iload_n dX5_measures_127 rfl rfl ?_
    refine o_imul dX5_measures_128 ?_
    refine o_iload_n dX5_measures_129 rfl rfl ?_
    refine o_iadd dX5_measures_130 ?_
    refine o_ialp (i := 8 * a + c) dX5_measures_131 rfl (ix8l a c) (by omega) ?_
    refine o_aload_n dX5_measures_132 rfl rfl ?_
    refine o_getf (j := 4) dX5_measures_133 rfl hcX5 inX5 (Nat.le_of_ble_eq_true rfl) wd690 rfl rfl ?_
    refine o_bipush dX5_measures_136 bp_8 ?_
    refine o_iload_n dX5_measures_138 rfl rfl ?_
    refine o_imul dX5_measures_139 ?_
    refine o_iload dX5_measures_140 rfl ?_
    refine o_iadd dX5_measures_142 ?_
    refine o_ialp (i := 8 * c + k) dX5_measures_143 rfl (ix8l c k) (by omega) ?_
    refine o_iadd dX5_measures_144 ?_
    have e1 := hle (8 * a + k)
    have e2 := hle (8 * a + c)
    have e3 := hle (8 * c + k)
    refine o_callSr (is := []) ((tX5_least : PD _ _ _ _ _).mono (r2 := some (.int (nI (min (fwB g c a k (8 * a + k)) (fwB g c a k (8 * a + c) + fwB g c a k (8 * c + k)))))) (by unfold nF; rw [nI_add, least_n (by omega) (by omega)])) ⟨rfl, rfl⟩ dX5_measures_145 wd805 csX5_least rfl ⟨(Nat.le_of_ble_eq_true rfl), (Nat.le_of_ble_eq_true rfl)⟩ rfl rfl rfl (Nat.le_of_ble_eq_true rfl) (Nat.le_of_ble_eq_true rfl) (Nat.le_of_ble_eq_true rfl) ?_
    skip
    refine o_iasp (i := 8 * a + k) dX5_measures_148 rfl (ix8l a k) (by omega) rfl ?_
    refine o_inc_4 dX5_measures_149 rfl ic_1 (Nat.le_of_ble_eq_true rfl) ?_
    refine o_goto (tgt := 91) dX5_measures_152 (by decide) ?_
    exact o_eqa (by rw [nI_1]) (by rw [fwB, ← nF_up]; rfl) (ih (k + 1) (by omega) (by omega))
theorem lX5_ms4_s {m im wa lt rw rf nu : Nat → Int32} {hi lm rn pl sd : Int32}{r : Nat → Int32} {g : Nat → Nat} (hg : ∀ i, g i ≤ 99) {c : Nat} (hc : c < 8) {P : Option Value → PW → Prop} (hP : ∀ i3 x4, Ok mX5_measures none 161 [some (.ref 0), some (.ref 1), some (.int (nI c)), some (.int i3), x4] [] (mW r m im wa (nF (fwA g c 8)) hi lt rw rf lm rn pl nu sd) 0 0 P) : ∀ (q k : Nat) (x4 : Option Value), 8 - k < q → k ≤ 8 → Ok mX5_measures none 82 [some (.ref 0), some (.ref 1), some (.int (nI c)), some (.int (nI k)), x4] [] (mW r m im wa (nF (fwA g c k)) hi lt rw rf lm rn pl nu sd) 0 0 (P) := by
  intro q
  induction q with
  | zero => intro k x4 hq hk; omega
  | succ q ih =>
  intro k x4 hq hk
  refine o_iload_n dX5_measures_82 rfl rfl ?_
  refine o_bipush dX5_measures_83 bp_8 ?_
  refine o_icmp_ge (tgt := 161) dX5_measures_85 (by decide) (fun c_85 => ?_) (fun c_85 => ?_)
  · have hkN : k = 8 := Nat.le_antisymm hk (geI (b := 8) (by omega) (by omega) c_85)
    subst hkN
    exact hP _ _
  · have hkN : k < 8 := ltI (b := 8) (by omega) (by omega) c_85
    refine o_iconst dX5_measures_88 ic_0 ?_
    refine o_istg_4 dX5_measures_89 rfl (Nat.le_of_ble_eq_true rfl) ?_
    refine o_eqa (by rw [nI_0]) rfl (lX5_ms3_s (fwA_le hg k) hkN hc (fun i4 => ?_) 9 0 (by omega) (by omega))
    refine o_inc_3 dX5_measures_155 rfl ic_1 (Nat.le_of_ble_eq_true rfl) ?_
    refine o_goto (tgt := 82) dX5_measures_158 (by decide) ?_
    exact o_eqa (by rw [nI_1]) rfl (ih (k + 1) _ (by omega) (by omega))
theorem lX5_ms5_s {m im wa lt rw rf nu : Nat → Int32} {hi lm rn pl sd : Int32}{r : Nat → Int32} {g : Nat → Nat} (hg : ∀ i, g i ≤ 99) : ∀ (q k : Nat) (x3 x4 : Option Value), 8 - k < q → k ≤ 8 → Ok mX5_measures none 74 [some (.ref 0), some (.ref 1), some (.int (nI k)), x3, x4] [] (mW r m im wa (nF (fwK g k)) hi lt rw rf lm rn pl nu sd) 0 0 (fun r2 w2 => r2 = none ∧ w2 = mW r m im wa (nF (fwK g 8)) hi lt rw rf lm rn pl nu sd) := by
  intro q
  induction q with
  | zero => intro k x3 x4 hq hk; omega
  | succ q ih =>
  intro k x3 x4 hq hk
  refine o_iload_n dX5_measures_74 rfl rfl ?_
  refine o_bipush dX5_measures_75 bp_8 ?_
  refine o_icmp_ge (tgt := 167) dX5_measures_77 (by decide) (fun c_77 => ?_) (fun c_77 => ?_)
  · have hkN : k = 8 := Nat.le_antisymm hk (geI (b := 8) (by omega) (by omega) c_77)
    subst hkN
    refine o_vret dX5_measures_167 rfl (Nat.le_of_ble_eq_true rfl) (Nat.le_of_ble_eq_true rfl) ?_
    exact ⟨rfl, rfl⟩
  · have hkN : k < 8 := ltI (b := 8) (by omega) (by omega) c_77
    refine o_iconst dX5_measures_80 ic_0 ?_
    refine o_istn_3 dX5_measures_81 rfl rfl (Nat.le_of_ble_eq_true rfl) ?_
    refine o_eqa (by rw [nI_0]) rfl (lX5_ms4_s (fwK_le hg k) hkN (fun i3 y4 => ?_) 9 0 _ (by omega) (by omega))
    refine o_inc_2 dX5_measures_161 rfl ic_1 (Nat.le_of_ble_eq_true rfl) ?_
    refine o_goto (tgt := 74) dX5_measures_164 (by decide) ?_
    exact o_eqa (by rw [nI_1]) rfl (ih (k + 1) _ _ (by omega) (by omega))
theorem tX5_measures_s {m im wa fr lt rw rf nu : Nat → Int32} {hi lm rn pl sd : Int32}{r : Nat → Int32} {D N : Nat} (hT : TOk r D N) : PD mX5_measures [.ref 0, .ref 1] (mW r m im wa fr hi lt rw rf lm rn pl nu sd) (none) (mW r m im wa (nF (frT (fA r) (fB r) D)) hi lt rw rf lm rn pl nu sd) := by
  refine PM.ofp 3 (by decide) (Nat.le_of_ble_eq_true rfl) ?_
  show Ok mX5_measures none 0 [some (.ref 0), some (.ref 1), none, none, none] [] (mW r m im wa fr hi lt rw rf lm rn pl nu sd) 0 0 _
  refine o_iconst dX5_measures_0 ic_0 ?_
  refine o_istn_2 dX5_measures_1 rfl rfl (Nat.le_of_ble_eq_true rfl) ?_
  refine o_eqa (by rw [nI_0]) (by rw [zrF_0]) (lX5_ms1_s (fun i2 => ?_) 65 0 (by omega) (by omega))
  refine o_iconst dX5_measures_33 ic_0 ?_
  refine o_istn_2 dX5_measures_34 rfl rfl (Nat.le_of_ble_eq_true rfl) ?_
  refine o_eqa (by rw [nI_0]) rfl (lX5_ms2_s hT (fun i2 => ?_) (D + 1) 0 (by omega) (by omega))
  refine o_iconst dX5_measures_72 ic_0 ?_
  refine o_istn_2 dX5_measures_73 rfl rfl (Nat.le_of_ble_eq_true rfl) ?_
  exact o_eqa (by rw [nI_0]) rfl (lX5_ms5_s (feN_le D) 9 0 _ _ (by omega) (by omega))
theorem lX5_ms1_m {s im wa fr lt rw rf nu : Nat → Int32} {hi lm rn pl sd : Int32}{r : Nat → Int32} {P : Option Value → PW → Prop} {x3 x4 : Option Value} (hP : ∀ i2, Ok mX5_measures none 33 [some (.ref 0), some (.ref 2), some (.int i2), x3, x4] [] (mW s r im wa (nF f0N) hi lt rw rf lm rn pl nu sd) 0 0 P) : ∀ (q k : Nat), 64 - k < q → k ≤ 64 → Ok mX5_measures none 2 [some (.ref 0), some (.ref 2), some (.int (nI k)), x3, x4] [] (mW s r im wa (zrF fr (nF f0N) k) hi lt rw rf lm rn pl nu sd) 0 0 (P) := by
  intro q
  induction q with
  | zero => intro k hq hk; omega
  | succ q ih =>
  intro k hq hk
  refine o_iload_n dX5_measures_2 rfl rfl ?_
  refine o_bipush dX5_measures_3 bp_64 ?_
  refine o_icmp_ge (tgt := 33) dX5_measures_5 (by decide) (fun c_5 => ?_) (fun c_5 => ?_)
  · have hkN : k = 64 := Nat.le_antisymm hk (geI (b := 64) (by omega) (by omega) c_5)
    subst hkN
    refine o_same (w2 := mW s r im wa (nF f0N) hi lt rw rf lm rn pl nu sd) rfl (fun j x y hx hy => ?_) (hP _)
    match j, hx, hy with
    | 0, hx, hy => cases hx; cases hy; exact rfl
    | 1, hx, hy => cases hx; cases hy; exact ⟨rfl, fun _ _ => rfl⟩
    | 2, hx, hy => cases hx; cases hy; exact ⟨rfl, fun _ _ => rfl⟩
    | 3, hx, hy => cases hx; cases hy; exact ⟨rfl, fun _ _ => rfl⟩
    | 4, hx, hy => cases hx; cases hy; exact ⟨rfl, fun _ _ => rfl⟩
    | 5, hx, hy => cases hx; cases hy; exact ⟨rfl, fun j hj => zrF_n fr (nF f0N) 64 j hj⟩
    | 6, hx, hy => cases hx; cases hy; exact ⟨rfl, fun _ _ => rfl⟩
    | 7, hx, hy => cases hx; cases hy; exact ⟨rfl, fun _ _ => rfl⟩
    | 8, hx, hy => cases hx; cases hy; exact ⟨rfl, fun _ _ => rfl⟩
    | 9, hx, hy => cases hx; cases hy; exact ⟨rfl, fun _ _ => rfl⟩
  · have hkN : k < 64 := ltI (b := 64) (by omega) (by omega) c_5
    refine o_aload_n dX5_measures_8 rfl rfl ?_
    refine o_getf (j := 4) dX5_measures_9 rfl hcX5 inX5 (Nat.le_of_ble_eq_true rfl) wd690 rfl rfl ?_
    refine o_iload_n dX5_measures_12 rfl rfl ?_
    refine o_iload_n dX5_measures_13 rfl rfl ?_
    refine o_bipush dX5_measures_14 bp_9 ?_
    refine o_irem dX5_measures_16 (by decide) ?_
    refine o_if_ne (tgt := 24) dX5_measures_17 (by decide) (fun c_17 => ?_) (fun c_17 => ?_)
    · rw [rm9 (by omega)] at c_17
      have e0 : (99 : Int32) = nF f0N k := by unfold nF f0N; rw [if_neg (fun q => c_17 (by rw [q]; rfl))]; rfl
      refine o_bipush dX5_measures_24 bp_99 ?_
      refine o_iasp (i := k) dX5_measures_26 rfl (rfl) (hkN) rfl ?_
      refine o_inc_2 dX5_measures_27 rfl ic_1 (Nat.le_of_ble_eq_true rfl) ?_
      refine o_goto (tgt := 2) dX5_measures_30 (by decide) ?_
      exact o_eqa (by rw [nI_1]) (by rw [← zrF_s, ← e0]; rfl) (ih (k + 1) (by omega) (by omega))
    · rw [rm9 (by omega)] at c_17
      have e0 : (0 : Int32) = nF f0N k := by unfold nF f0N; rw [if_pos ((nI_eq (b := 0) (by omega) (by omega)).mp c_17)]; rfl
      refine o_iconst dX5_measures_20 ic_0 ?_
      refine o_goto (tgt := 26) dX5_measures_21 (by decide) ?_
      refine o_iasp (i := k) dX5_measures_26 rfl (rfl) (hkN) rfl ?_
      refine o_inc_2 dX5_measures_27 rfl ic_1 (Nat.le_of_ble_eq_true rfl) ?_
      refine o_goto (tgt := 2) dX5_measures_30 (by decide) ?_
      exact o_eqa (by rw [nI_1]) (by rw [← zrF_s, ← e0]; rfl) (ih (k + 1) (by omega) (by omega))
theorem lX5_ms2_m {s im wa lt rw rf nu : Nat → Int32} {hi lm rn pl sd : Int32}{r : Nat → Int32} {D N : Nat} (hT : TOk r D N) {P : Option Value → PW → Prop} {x3 x4 : Option Value} (hP : ∀ i2, Ok mX5_measures none 72 [some (.ref 0), some (.ref 2), some (.int i2), x3, x4] [] (mW s r im wa (nF (feN (fA r) (fB r) D)) hi lt rw rf lm rn pl nu sd) 0 0 P) : ∀ (q k : Nat), D - k < q → k ≤ D → Ok mX5_measures none 35 [some (.ref 0), some (.ref 2), some (.int (nI k)), x3, x4] [] (mW s r im wa (nF (feN (fA r) (fB r) k)) hi lt rw rf lm rn pl nu sd) 0 0 (P) := by
  intro q
  induction q with
  | zero => intro k hq hk; omega
  | succ q ih =>
  intro k hq hk
  have hD9 := hT.2.1
  refine o_iload_n dX5_measures_35 rfl rfl ?_
  refine o_aload_n dX5_measures_36 rfl rfl ?_
  refine o_iconst dX5_measures_37 ic_0 ?_
  refine o_ialp (i := 0) dX5_measures_38 rfl (rfl) (by decide) ?_
  refine o_icmp_ge (tgt := 72) dX5_measures_39 (by decide) (fun c_39 => ?_) (fun c_39 => ?_)
  · rw [hT.1] at c_39
    have hkN : k = D := Nat.le_antisymm hk (geI (by omega) (by omega) c_39)
    subst hkN
    exact hP _
  · rw [hT.1] at c_39
    have hkN : k < D := ltI (by omega) (by omega) c_39
    obtain ⟨qa, qb⟩ := hT.2.2.2.2.2 k hkN
    have qa := qa.cN
    have qb := qb.cN
    have la : fA r k < 8 := qa.1
    have lb : fB r k < 8 := qb.1
    have ei : 8 * r (7 + 5 * k) + r (8 + 5 * k) = nI (8 * fA r k + fB r k) := by rw [← ix8l]; unfold fA fB; rw [← qa.2, ← qb.2]
    refine o_aload_n dX5_measures_42 rfl rfl ?_
    refine o_getf (j := 4) dX5_measures_43 rfl hcX5 inX5 (Nat.le_of_ble_eq_true rfl) wd690 rfl rfl ?_
    refine o_bipush dX5_measures_46 bp_8 ?_
    refine o_aload_n dX5_measures_48 rfl rfl ?_
    refine o_iload_n dX5_measures_49 rfl rfl ?_
    refine o_iconst dX5_measures_50 ic_2 ?_
    refine o_callSr (is := []) (ofD2) ⟨rfl, rfl⟩ dX5_measures_51 wd777 csX5_ofD rfl ⟨(Nat.le_of_ble_eq_true rfl), (Nat.le_of_ble_eq_true rfl)⟩ rfl rfl rfl (Nat.le_of_ble_eq_true rfl) (Nat.le_of_ble_eq_true rfl) (Nat.le_of_ble_eq_true rfl) ?_
    refine o_ialp (i := 7 + 5 * k) dX5_measures_54 rfl (rfl) (by omega) ?_
    refine o_imul dX5_measures_55 ?_
    refine o_aload_n dX5_measures_56 rfl rfl ?_
    refine o_iload_n dX5_measures_57 rfl rfl ?_
    refine o_iconst dX5_measures_58 ic_3 ?_
    refine o_callSr (is := []) (ofD3) ⟨rfl, rfl⟩ dX5_measures_59 wd777 csX5_ofD rfl ⟨(Nat.le_of_ble_eq_true rfl), (Nat.le_of_ble_eq_true rfl)⟩ rfl rfl rfl (Nat.le_of_ble_eq_true rfl) (Nat.le_of_ble_eq_true rfl) (Nat.le_of_ble_eq_true rfl) ?_
    refine o_ialp (i := 8 + 5 * k) dX5_measures_62 rfl (rfl) (by omega) ?_
    refine o_iadd dX5_measures_63 ?_
    refine o_iconst dX5_measures_64 ic_1 ?_
    refine o_iasp (i := 8 * fA r k + fB r k) dX5_measures_65 rfl (ei) (by omega) rfl ?_
    refine o_inc_2 dX5_measures_66 rfl ic_1 (Nat.le_of_ble_eq_true rfl) ?_
    refine o_goto (tgt := 35) dX5_measures_69 (by decide) ?_
    exact o_eqa (by rw [nI_1]) (by rw [feN, ← nF_up]; rfl) (ih (k + 1) (by omega) (by omega))
theorem lX5_ms3_m {s im wa lt rw rf nu : Nat → Int32} {hi lm rn pl sd : Int32}{r : Nat → Int32} {g : Nat → Nat} (hg : ∀ i, g i ≤ 99) {a c : Nat} (ha : a < 8) (hc : c < 8) {P : Option Value → PW → Prop} (hP : ∀ i4, Ok mX5_measures none 155 [some (.ref 0), some (.ref 2), some (.int (nI c)), some (.int (nI a)), some (.int i4)] [] (mW s r im wa (nF (fwB g c a 8)) hi lt rw rf lm rn pl nu sd) 0 0 P) : ∀ (q k : Nat), 8 - k < q → k ≤ 8 → Ok mX5_measures none 91 [some (.ref 0), some (.ref 2), some (.int (nI c)), some (.int (nI a)), some (.int (nI k))] [] (mW s r im wa (nF (fwB g c a k)) hi lt rw rf lm rn pl nu sd) 0 0 (P) := by
  intro q
  induction q with
  | zero => intro k hq hk; omega
  | succ q ih =>
  intro k hq hk
  have hle := fwB_le (k := c) (a := a) hg k
  refine o_iload dX5_measures_91 rfl ?_
  refine o_bipush dX5_measures_93 bp_8 ?_
  refine o_icmp_ge (tgt := 155) dX5_measures_95 (by decide) (fun c_95 => ?_) (fun c_95 => ?_)
  · have hkN : k = 8 := Nat.le_antisymm hk (geI (b := 8) (by omega) (by omega) c_95)
    subst hkN
    exact hP _
  · have hkN : k < 8 := ltI (b := 8) (by omega) (by omega) c_95
    refine o_aload_n dX5_measures_98 rfl rfl ?_
    refine o_getf (j := 4) dX5_measures_99 rfl hcX5 inX5 (Nat.le_of_ble_eq_true rfl) wd690 rfl rfl ?_
    refine o_bipush dX5_measures_102 bp_8 ?_
    refine o_iload_n dX5_measures_104 rfl rfl ?_
    refine o_imul dX5_measures_105 ?_
    refine o_iload dX5_measures_106 rfl ?_
    refine o_iadd dX5_measures_108 ?_
    refine o_aload_n dX5_measures_109 rfl rfl ?_
    refine o_getf (j := 4) dX5_measures_110 rfl hcX5 inX5 (Nat.le_of_ble_eq_true rfl) wd690 rfl rfl ?_
    refine o_bipush dX5_measures_113 bp_8 ?_
    refine o_iload_n dX5_measures_115 rfl rfl ?_
    refine o_imul dX5_measures_116 ?_
    refine o_iload dX5_measures_117 rfl ?_
    refine o_iadd dX5_measures_119 ?_
    refine o_ialp (i := 8 * a + k) dX5_measures_120 rfl (ix8l a k) (by omega) ?_
    refine o_aload_n dX5_measures_121 rfl rfl ?_
    refine o_getf (j := 4) dX5_measures_122 rfl hcX5 inX5 (Nat.le_of_ble_eq_true rfl) wd690 rfl rfl ?_
    refine o_bipush dX5_measures_125 bp_8 ?_
    refine o_iload_n dX5_measures_127 rfl rfl ?_
    refine o_imul dX5_measures_128 ?_
    refine o_iload_n dX5_measures_129 rfl rfl ?_
    refine o_iadd dX5_measures_130 ?_
    refine o_ialp (i := 8 * a + c) dX5_measures_131 rfl (ix8l a c) (by omega) ?_
    refine o_aload_n dX5_measures_132 rfl rfl ?_
    refine o_getf (j := 4) dX5_measures_133 rfl hcX5 inX5 (Nat.le_of_ble_eq_true rfl) wd690 rfl rfl ?_
    refine o_bipush dX5_measures_136 bp_8 ?_
    refine o_iload_n dX5_measures_138 rfl rfl ?_
    refine o_imul dX5_measures_139 ?_
    refine o_iload dX5_measures_140 rfl ?_
    refine o_iadd dX5_measures_142 ?_
    refine o_ialp (i := 8 * c + k) dX5_measures_143 rfl (ix8l c k) (by omega) ?_
    refine o_iadd dX5_measures_144 ?_
    have e1 := hle (8 * a + k)
    have e2 := hle (8 * a + c)
    have e3 := hle (8 * c + k)
    refine o_callSr (is := []) ((tX5_least : PD _ _ _ _ _).mono (r2 := some (.int (nI (min (fwB g c a k (8 * a + k)) (fwB g c a k (8 * a + c) + fwB g c a k (8 * c + k)))))) (by unfold nF; rw [nI_add, least_n (by omega) (by omega)])) ⟨rfl, rfl⟩ dX5_measures_145 wd805 csX5_least rfl ⟨(Nat.le_of_ble_eq_true rfl), (Nat.le_of_ble_eq_true rfl)⟩ rfl rfl rfl (Nat.le_of_ble_eq_true rfl) (Nat.le_of_ble_eq_true rfl) (Nat.le_of_ble_eq_true rfl) ?_
    skip
    refine o_iasp (i := 8 * a + k) dX5_measures_148 rfl (ix8l a k) (by omega) rfl ?_
    refine o_inc_4 dX5_measures_149 rfl ic_1 (Nat.le_of_ble_eq_true rfl) ?_
    refine o_goto (tgt := 91) dX5_measures_152 (by decide) ?_
    exact o_eqa (by rw [nI_1]) (by rw [fwB, ← nF_up]; rfl) (ih (k + 1) (by omega) (by omega))
theorem lX5_ms4_m {s im wa lt rw rf nu : Nat → Int32} {hi lm rn pl sd : Int32}{r : Nat → Int32} {g : Nat → Nat} (hg : ∀ i, g i ≤ 99) {c : Nat} (hc : c < 8) {P : Option Value → PW → Prop} (hP : ∀ i3 x4, Ok mX5_measures none 161 [some (.ref 0), some (.ref 2), some (.int (nI c)), some (.int i3), x4] [] (mW s r im wa (nF (fwA g c 8)) hi lt rw rf lm rn pl nu sd) 0 0 P) : ∀ (q k : Nat) (x4 : Option Value), 8 - k < q → k ≤ 8 → Ok mX5_measures none 82 [some (.ref 0), some (.ref 2), some (.int (nI c)), some (.int (nI k)), x4] [] (mW s r im wa (nF (fwA g c k)) hi lt rw rf lm rn pl nu sd) 0 0 (P) := by
  intro q
  induction q with
  | zero => intro k x4 hq hk; omega
  | succ q ih =>
  intro k x4 hq hk
  refine o_iload_n dX5_measures_82 rfl rfl ?_
  refine o_bipush dX5_measures_83 bp_8 ?_
  refine o_icmp_ge (tgt := 161) dX5_measures_85 (by decide) (fun c_85 => ?_) (fun c_85 => ?_)
  · have hkN : k = 8 := Nat.le_antisymm hk (geI (b := 8) (by omega) (by omega) c_85)
    subst hkN
    exact hP _ _
  · have hkN : k < 8 := ltI (b := 8) (by omega) (by omega) c_85
    refine o_iconst dX5_measures_88 ic_0 ?_
    refine o_istg_4 dX5_measures_89 rfl (Nat.le_of_ble_eq_true rfl) ?_
    refine o_eqa (by rw [nI_0]) rfl (lX5_ms3_m (fwA_le hg k) hkN hc (fun i4 => ?_) 9 0 (by omega) (by omega))
    refine o_inc_3 dX5_measures_155 rfl ic_1 (Nat.le_of_ble_eq_true rfl) ?_
    refine o_goto (tgt := 82) dX5_measures_158 (by decide) ?_
    exact o_eqa (by rw [nI_1]) rfl (ih (k + 1) _ (by omega) (by omega))
theorem lX5_ms5_m {s im wa lt rw rf nu : Nat → Int32} {hi lm rn pl sd : Int32}{r : Nat → Int32} {g : Nat → Nat} (hg : ∀ i, g i ≤ 99) : ∀ (q k : Nat) (x3 x4 : Option Value), 8 - k < q → k ≤ 8 → Ok mX5_measures none 74 [some (.ref 0), some (.ref 2), some (.int (nI k)), x3, x4] [] (mW s r im wa (nF (fwK g k)) hi lt rw rf lm rn pl nu sd) 0 0 (fun r2 w2 => r2 = none ∧ w2 = mW s r im wa (nF (fwK g 8)) hi lt rw rf lm rn pl nu sd) := by
  intro q
  induction q with
  | zero => intro k x3 x4 hq hk; omega
  | succ q ih =>
  intro k x3 x4 hq hk
  refine o_iload_n dX5_measures_74 rfl rfl ?_
  refine o_bipush dX5_measures_75 bp_8 ?_
  refine o_icmp_ge (tgt := 167) dX5_measures_77 (by decide) (fun c_77 => ?_) (fun c_77 => ?_)
  · have hkN : k = 8 := Nat.le_antisymm hk (geI (b := 8) (by omega) (by omega) c_77)
    subst hkN
    refine o_vret dX5_measures_167 rfl (Nat.le_of_ble_eq_true rfl) (Nat.le_of_ble_eq_true rfl) ?_
    exact ⟨rfl, rfl⟩
  · have hkN : k < 8 := ltI (b := 8) (by omega) (by omega) c_77
    refine o_iconst dX5_measures_80 ic_0 ?_
    refine o_istn_3 dX5_measures_81 rfl rfl (Nat.le_of_ble_eq_true rfl) ?_
    refine o_eqa (by rw [nI_0]) rfl (lX5_ms4_m (fwK_le hg k) hkN (fun i3 y4 => ?_) 9 0 _ (by omega) (by omega))
    refine o_inc_2 dX5_measures_161 rfl ic_1 (Nat.le_of_ble_eq_true rfl) ?_
    refine o_goto (tgt := 74) dX5_measures_164 (by decide) ?_
    exact o_eqa (by rw [nI_1]) rfl (ih (k + 1) _ _ (by omega) (by omega))
theorem tX5_measures_m {s im wa fr lt rw rf nu : Nat → Int32} {hi lm rn pl sd : Int32}{r : Nat → Int32} {D N : Nat} (hT : TOk r D N) : PD mX5_measures [.ref 0, .ref 2] (mW s r im wa fr hi lt rw rf lm rn pl nu sd) (none) (mW s r im wa (nF (frT (fA r) (fB r) D)) hi lt rw rf lm rn pl nu sd) := by
  refine PM.ofp 3 (by decide) (Nat.le_of_ble_eq_true rfl) ?_
  show Ok mX5_measures none 0 [some (.ref 0), some (.ref 2), none, none, none] [] (mW s r im wa fr hi lt rw rf lm rn pl nu sd) 0 0 _
  refine o_iconst dX5_measures_0 ic_0 ?_
  refine o_istn_2 dX5_measures_1 rfl rfl (Nat.le_of_ble_eq_true rfl) ?_
  refine o_eqa (by rw [nI_0]) (by rw [zrF_0]) (lX5_ms1_m (fun i2 => ?_) 65 0 (by omega) (by omega))
  refine o_iconst dX5_measures_33 ic_0 ?_
  refine o_istn_2 dX5_measures_34 rfl rfl (Nat.le_of_ble_eq_true rfl) ?_
  refine o_eqa (by rw [nI_0]) rfl (lX5_ms2_m hT (fun i2 => ?_) (D + 1) 0 (by omega) (by omega))
  refine o_iconst dX5_measures_72 ic_0 ?_
  refine o_istn_2 dX5_measures_73 rfl rfl (Nat.le_of_ble_eq_true rfl) ?_
  exact o_eqa (by rw [nI_0]) rfl (lX5_ms5_m (feN_le D) 9 0 _ _ (by omega) (by omega))
