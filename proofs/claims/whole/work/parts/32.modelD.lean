theorem wiR_ok {r : Nat → Int32} {i k h : Nat} (hM : MOk (upd r i (nI k)) (dN r) (nN r) h) : ∀ j, MOk (wiR r i k j) (dN r) (nN r) (h + j)
  | 0 => hM
  | j + 1 => (wiR_ok hM j).hour.hstep (nN r) (Nat.le_refl _)
theorem lX5_wi2_0 {r im wa lt rw rf nu : Nat → Int32} {hi pl sd : Int32} {L R : Nat} (hS : SOk r) {d e k h : Nat} {A : Int32} (hR : R ≤ 16) (hd : d < nN r) (hM : MOk (upd r (5 + 5 * e) (nI k)) (dN r) (nN r) h) (hh : h < 2000) {P : Option Value → PW → Prop} (hP : ∀ i7 m2, Ok mX5_whatIs none 148 [some (.ref 0), some (.int (nI d)), some (.int (nI e)), some (.int 0), some (.int A), some (.int (nI k)), some (.int (bI (wiB r rw d (5 + 5 * e) k R))), some (.int i7)] [] (mW r m2 im wa (nF (farOf r)) hi lt rw rf (nI L) (nI R) pl nu sd) 0 0 P) : ∀ (q j : Nat), R - j < q → j ≤ R → Ok mX5_whatIs none 95 [some (.ref 0), some (.int (nI d)), some (.int (nI e)), some (.int 0), some (.int A), some (.int (nI k)), some (.int (bI (wiB r rw d (5 + 5 * e) k j))), some (.int (nI j))] [] (mW r (wiR r (5 + 5 * e) k j) im wa (nF (farOf r)) hi lt rw rf (nI L) (nI R) pl nu sd) 0 0 (P) := by
  have h6 := hS.n6
  intro q
  induction q with
  | zero => intro j hq hj; omega
  | succ q ih =>
  intro j hq hj
  refine o_iload dX5_whatIs_95 rfl ?_
  refine o_aload_n dX5_whatIs_97 rfl rfl ?_
  refine o_getf (j := 10) dX5_whatIs_98 rfl hcX5 inX5 (Nat.le_of_ble_eq_true rfl) wd696 rfl rfl ?_
  refine o_icmp_ge (tgt := 148) dX5_whatIs_101 (by decide) (fun c_101 => ?_) (fun c_101 => ?_)
  · have hjN : j = R := Nat.le_antisymm hj (geI (by omega) (by omega) c_101)
    subst hjN
    exact hP _ _
  · have hjN : j < R := ltI (by omega) (by omega) c_101
    refine o_iload dX5_whatIs_104 rfl ?_
    refine o_aload_n dX5_whatIs_106 rfl rfl ?_
    refine o_getf (j := 1) dX5_whatIs_107 rfl hcX5 inX5 (Nat.le_of_ble_eq_true rfl) wd687 rfl rfl ?_
    refine o_iload_n dX5_whatIs_110 rfl rfl ?_
    refine o_iconst dX5_whatIs_111 ic_0 ?_
    refine o_callSr (is := []) (ofP0) ⟨rfl, rfl⟩ dX5_whatIs_112 wd783 csX5_ofP rfl ⟨(Nat.le_of_ble_eq_true rfl), (Nat.le_of_ble_eq_true rfl)⟩ rfl rfl rfl (Nat.le_of_ble_eq_true rfl) (Nat.le_of_ble_eq_true rfl) (Nat.le_of_ble_eq_true rfl) ?_
    refine o_ialp (i := 50 + 3 * d) dX5_whatIs_115 rfl (rfl) (by omega) ?_
    refine o_aload_n dX5_whatIs_116 rfl rfl ?_
    refine o_getf (j := 7) dX5_whatIs_117 rfl hcX5 inX5 (Nat.le_of_ble_eq_true rfl) wd693 rfl rfl ?_
    refine o_iload dX5_whatIs_120 rfl ?_
    refine o_ialp (i := j) dX5_whatIs_122 rfl (rfl) (by omega) ?_
    refine o_icmp_ne (tgt := 130) dX5_whatIs_123 (by decide) (fun c_123 => ?_) (fun c_123 => ?_)
    · have eb : wiB r rw d (5 + 5 * e) k (j + 1) = false := by rw [wiB, decide_eq_false c_123, Bool.and_false]
      refine o_iconst dX5_whatIs_130 ic_0 ?_
      refine o_iand dX5_whatIs_131 ?_
      refine o_istg_6 dX5_whatIs_132 rfl (Nat.le_of_ble_eq_true rfl) ?_
      refine o_aload_n dX5_whatIs_134 rfl rfl ?_
      refine o_aload_n dX5_whatIs_135 rfl rfl ?_
      refine o_getf (j := 1) dX5_whatIs_136 rfl hcX5 inX5 (Nat.le_of_ble_eq_true rfl) wd687 rfl rfl ?_
      refine o_callVd (w2 := mW r (wiR r (5 + 5 * e) k (j + 1)) im wa (nF (farOf r)) hi lt rw rf (nI L) (nI R) pl nu sd) (is := [0, 1, 2, 3, 4, 5, 6, 7, 8, 9]) (tX5_hour_m farOf_le (wiR_ok hM j) (by omega)) ⟨rfl, rfl⟩ dX5_whatIs_139 wd808 cvX5_hour rfl ⟨(Nat.le_of_ble_eq_true rfl), (Nat.le_of_ble_eq_true rfl)⟩ hcX5 rfl rfl rfl rfl (Nat.le_of_ble_eq_true rfl) (Nat.le_of_ble_eq_true rfl) (Nat.le_of_ble_eq_true rfl) rfl ?_
      refine o_inc_7 dX5_whatIs_142 rfl ic_1 (Nat.le_of_ble_eq_true rfl) ?_
      refine o_goto (tgt := 95) dX5_whatIs_145 (by decide) ?_
      exact o_eqa (by rw [nI_1, bI_and0, eb]; rfl) rfl (ih (j + 1) (by omega) (by omega))
    · have eb : wiB r rw d (5 + 5 * e) k (j + 1) = wiB r rw d (5 + 5 * e) k j := by rw [wiB, decide_eq_true c_123, Bool.and_true]
      refine o_iconst dX5_whatIs_126 ic_1 ?_
      refine o_goto (tgt := 131) dX5_whatIs_127 (by decide) ?_
      refine o_iand dX5_whatIs_131 ?_
      refine o_istg_6 dX5_whatIs_132 rfl (Nat.le_of_ble_eq_true rfl) ?_
      refine o_aload_n dX5_whatIs_134 rfl rfl ?_
      refine o_aload_n dX5_whatIs_135 rfl rfl ?_
      refine o_getf (j := 1) dX5_whatIs_136 rfl hcX5 inX5 (Nat.le_of_ble_eq_true rfl) wd687 rfl rfl ?_
      refine o_callVd (w2 := mW r (wiR r (5 + 5 * e) k (j + 1)) im wa (nF (farOf r)) hi lt rw rf (nI L) (nI R) pl nu sd) (is := [0, 1, 2, 3, 4, 5, 6, 7, 8, 9]) (tX5_hour_m farOf_le (wiR_ok hM j) (by omega)) ⟨rfl, rfl⟩ dX5_whatIs_139 wd808 cvX5_hour rfl ⟨(Nat.le_of_ble_eq_true rfl), (Nat.le_of_ble_eq_true rfl)⟩ hcX5 rfl rfl rfl rfl (Nat.le_of_ble_eq_true rfl) (Nat.le_of_ble_eq_true rfl) (Nat.le_of_ble_eq_true rfl) rfl ?_
      refine o_inc_7 dX5_whatIs_142 rfl ic_1 (Nat.le_of_ble_eq_true rfl) ?_
      refine o_goto (tgt := 95) dX5_whatIs_145 (by decide) ?_
      exact o_eqa (by rw [nI_1, bI_and1, eb]) rfl (ih (j + 1) (by omega) (by omega))
theorem lX5_wi1_0 {r im wa lt rw rf nu : Nat → Int32} {hi pl sd : Int32} {L R : Nat} (hS : SOk r) {d e : Nat} (hR : R ≤ 16) (hd : d < nN r) (he : e < dN r) : ∀ (q k : Nat) (m fr : Nat → Int32) (x6 x7 : Option Value), 6 - k < q → k ≤ 6 → Ok mX5_whatIs none 44 [some (.ref 0), some (.int (nI d)), some (.int (nI e)), some (.int 0), some (.int (wiS r rw d (5 + 5 * e) R k)), some (.int (nI k)), x6, x7] [] (mW r m im wa fr hi lt rw rf (nI L) (nI R) pl nu sd) 0 0 (fun a w2 => a = some (.int (wiS r rw d (5 + 5 * e) R 6)) ∧ ∃ m2 fr2, w2 = mW r m2 im wa fr2 hi lt rw rf (nI L) (nI R) pl nu sd) := by
  intro q
  induction q with
  | zero => intro k m fr x6 x7 hq hk; omega
  | succ q ih =>
  intro k m fr x6 x7 hq hk
  have h6 := hS.n6
  have h9 := hS.d9
  have h99 := hS.h9
  refine o_iload dX5_whatIs_44 rfl ?_
  refine o_iload_n dX5_whatIs_46 rfl rfl ?_
  refine o_if_ne (tgt := 55) dX5_whatIs_47 (by decide) (fun cq => absurd (by decide) cq) (fun _ => ?_)
  refine o_bipush dX5_whatIs_50 bp_6 ?_
  refine o_goto (tgt := 57) dX5_whatIs_52 (by decide) ?_
  refine o_icmp_ge (tgt := 172) dX5_whatIs_57 (by decide) (fun c_57 => ?_) (fun c_57 => ?_)
  · have hkN : k = 6 := Nat.le_antisymm hk (geI (b := 6) (by omega) (by omega) c_57)
    subst hkN
    refine o_iload dX5_whatIs_172 rfl ?_
    refine o_iret dX5_whatIs_174 rfl (vp_nar_int _) (Nat.le_of_ble_eq_true rfl) (Nat.le_of_ble_eq_true rfl) ?_
    exact ⟨rfl, _, _, rfl⟩
  · have hkN : k < 6 := ltI (b := 6) (by omega) (by omega) c_57
    refine o_iconst dX5_whatIs_60 ic_1 ?_
    refine o_istg_6 dX5_whatIs_61 rfl (Nat.le_of_ble_eq_true rfl) ?_
    refine o_aload_n dX5_whatIs_63 rfl rfl ?_
    refine o_iconst dX5_whatIs_64 ic_0 ?_
    refine o_callVd (w2 := mW r r im wa (nF (farOf r)) hi lt rw rf (nI L) (nI R) pl nu sd) (is := [0, 1, 2, 3, 4, 5, 6, 7, 8, 9]) (tX5_takes (n := 0) hS (by omega)) ⟨rfl, rfl⟩ dX5_whatIs_65 wd893 cvX5_takes rfl ⟨(Nat.le_of_ble_eq_true rfl), (Nat.le_of_ble_eq_true rfl)⟩ hcX5 rfl rfl rfl rfl (Nat.le_of_ble_eq_true rfl) (Nat.le_of_ble_eq_true rfl) (Nat.le_of_ble_eq_true rfl) rfl ?_
    refine o_aload_n dX5_whatIs_68 rfl rfl ?_
    refine o_getf (j := 1) dX5_whatIs_69 rfl hcX5 inX5 (Nat.le_of_ble_eq_true rfl) wd687 rfl rfl ?_
    refine o_iload_n dX5_whatIs_72 rfl rfl ?_
    refine o_if_ne (tgt := 84) dX5_whatIs_73 (by decide) (fun cq => absurd (by decide) cq) (fun _ => ?_)
    refine o_iload_n dX5_whatIs_76 rfl rfl ?_
    refine o_iconst dX5_whatIs_77 ic_0 ?_
    refine o_callSr (is := []) (ofD0) ⟨rfl, rfl⟩ dX5_whatIs_78 wd777 csX5_ofD rfl ⟨(Nat.le_of_ble_eq_true rfl), (Nat.le_of_ble_eq_true rfl)⟩ rfl rfl rfl (Nat.le_of_ble_eq_true rfl) (Nat.le_of_ble_eq_true rfl) (Nat.le_of_ble_eq_true rfl) ?_
    refine o_goto (tgt := 89) dX5_whatIs_81 (by decide) ?_
    refine o_iload dX5_whatIs_89 rfl ?_
    refine o_iasp (i := 5 + 5 * e) dX5_whatIs_91 rfl (rfl) (by omega) rfl ?_
    refine o_iconst dX5_whatIs_92 ic_0 ?_
    refine o_istg_7 dX5_whatIs_93 rfl (Nat.le_of_ble_eq_true rfl) ?_
    have hM : MOk (upd r (5 + 5 * e) (nI k)) (dN r) (nN r) (cN (r 2)) := hS.M.kind (by omega) ⟨k, by omega, rfl⟩
    refine o_eqa (by rw [nI_0]; rfl) rfl (lX5_wi2_0 (d := d) (e := e) (k := k) (A := wiS r rw d (5 + 5 * e) R k) hS hR hd hM (by omega) (fun i7 m2 => ?_) (R + 1) 0 (by omega) (by omega))
    refine o_iload dX5_whatIs_148 rfl ?_
    refine o_iload dX5_whatIs_150 rfl ?_
    refine o_if_eq (tgt := 162) dX5_whatIs_152 (by decide) (fun c_152 => ?_) (fun c_152 => ?_)
    · skip
      refine o_iconst dX5_whatIs_162 ic_0 ?_
      refine o_ior dX5_whatIs_163 ?_
      refine o_istg_4 dX5_whatIs_164 rfl (Nat.le_of_ble_eq_true rfl) ?_
      refine o_inc_5 dX5_whatIs_166 rfl ic_1 (Nat.le_of_ble_eq_true rfl) ?_
      refine o_goto (tgt := 44) dX5_whatIs_169 (by decide) ?_
      exact o_eqa (by rw [nI_1, wiS, bI_0.mp c_152]; rfl) rfl (ih (k + 1) _ _ _ _ (by omega) (by omega))
    · skip
      refine o_iconst dX5_whatIs_155 ic_1 ?_
      refine o_iload dX5_whatIs_156 rfl ?_
      refine o_ishl dX5_whatIs_158 ?_
      refine o_goto (tgt := 163) dX5_whatIs_159 (by decide) ?_
      refine o_ior dX5_whatIs_163 ?_
      refine o_istg_4 dX5_whatIs_164 rfl (Nat.le_of_ble_eq_true rfl) ?_
      refine o_inc_5 dX5_whatIs_166 rfl ic_1 (Nat.le_of_ble_eq_true rfl) ?_
      refine o_goto (tgt := 44) dX5_whatIs_169 (by decide) ?_
      exact o_eqa (by rw [nI_1, wiS, bI_ne c_152]; rfl) rfl (ih (k + 1) _ _ _ _ (by omega) (by omega))
theorem lX5_wi2_1 {r im wa lt rw rf nu : Nat → Int32} {hi pl sd : Int32} {L R : Nat} (hS : SOk r) {d e k h : Nat} {A : Int32} (hR : R ≤ 16) (hd : d < nN r) (hM : MOk (upd r (51 + 3 * d) (nI k)) (dN r) (nN r) h) (hh : h < 2000) {P : Option Value → PW → Prop} (hP : ∀ i7 m2, Ok mX5_whatIs none 148 [some (.ref 0), some (.int (nI d)), some (.int (nI e)), some (.int 1), some (.int A), some (.int (nI k)), some (.int (bI (wiB r rw d (51 + 3 * d) k R))), some (.int i7)] [] (mW r m2 im wa (nF (farOf r)) hi lt rw rf (nI L) (nI R) pl nu sd) 0 0 P) : ∀ (q j : Nat), R - j < q → j ≤ R → Ok mX5_whatIs none 95 [some (.ref 0), some (.int (nI d)), some (.int (nI e)), some (.int 1), some (.int A), some (.int (nI k)), some (.int (bI (wiB r rw d (51 + 3 * d) k j))), some (.int (nI j))] [] (mW r (wiR r (51 + 3 * d) k j) im wa (nF (farOf r)) hi lt rw rf (nI L) (nI R) pl nu sd) 0 0 (P) := by
  have h6 := hS.n6
  intro q
  induction q with
  | zero => intro j hq hj; omega
  | succ q ih =>
  intro j hq hj
  refine o_iload dX5_whatIs_95 rfl ?_
  refine o_aload_n dX5_whatIs_97 rfl rfl ?_
  refine o_getf (j := 10) dX5_whatIs_98 rfl hcX5 inX5 (Nat.le_of_ble_eq_true rfl) wd696 rfl rfl ?_
  refine o_icmp_ge (tgt := 148) dX5_whatIs_101 (by decide) (fun c_101 => ?_) (fun c_101 => ?_)
  · have hjN : j = R := Nat.le_antisymm hj (geI (by omega) (by omega) c_101)
    subst hjN
    exact hP _ _
  · have hjN : j < R := ltI (by omega) (by omega) c_101
    refine o_iload dX5_whatIs_104 rfl ?_
    refine o_aload_n dX5_whatIs_106 rfl rfl ?_
    refine o_getf (j := 1) dX5_whatIs_107 rfl hcX5 inX5 (Nat.le_of_ble_eq_true rfl) wd687 rfl rfl ?_
    refine o_iload_n dX5_whatIs_110 rfl rfl ?_
    refine o_iconst dX5_whatIs_111 ic_0 ?_
    refine o_callSr (is := []) (ofP0) ⟨rfl, rfl⟩ dX5_whatIs_112 wd783 csX5_ofP rfl ⟨(Nat.le_of_ble_eq_true rfl), (Nat.le_of_ble_eq_true rfl)⟩ rfl rfl rfl (Nat.le_of_ble_eq_true rfl) (Nat.le_of_ble_eq_true rfl) (Nat.le_of_ble_eq_true rfl) ?_
    refine o_ialp (i := 50 + 3 * d) dX5_whatIs_115 rfl (rfl) (by omega) ?_
    refine o_aload_n dX5_whatIs_116 rfl rfl ?_
    refine o_getf (j := 7) dX5_whatIs_117 rfl hcX5 inX5 (Nat.le_of_ble_eq_true rfl) wd693 rfl rfl ?_
    refine o_iload dX5_whatIs_120 rfl ?_
    refine o_ialp (i := j) dX5_whatIs_122 rfl (rfl) (by omega) ?_
    refine o_icmp_ne (tgt := 130) dX5_whatIs_123 (by decide) (fun c_123 => ?_) (fun c_123 => ?_)
    · have eb : wiB r rw d (51 + 3 * d) k (j + 1) = false := by rw [wiB, decide_eq_false c_123, Bool.and_false]
      refine o_iconst dX5_whatIs_130 ic_0 ?_
      refine o_iand dX5_whatIs_131 ?_
      refine o_istg_6 dX5_whatIs_132 rfl (Nat.le_of_ble_eq_true rfl) ?_
      refine o_aload_n dX5_whatIs_134 rfl rfl ?_
      refine o_aload_n dX5_whatIs_135 rfl rfl ?_
      refine o_getf (j := 1) dX5_whatIs_136 rfl hcX5 inX5 (Nat.le_of_ble_eq_true rfl) wd687 rfl rfl ?_
      refine o_callVd (w2 := mW r (wiR r (51 + 3 * d) k (j + 1)) im wa (nF (farOf r)) hi lt rw rf (nI L) (nI R) pl nu sd) (is := [0, 1, 2, 3, 4, 5, 6, 7, 8, 9]) (tX5_hour_m farOf_le (wiR_ok hM j) (by omega)) ⟨rfl, rfl⟩ dX5_whatIs_139 wd808 cvX5_hour rfl ⟨(Nat.le_of_ble_eq_true rfl), (Nat.le_of_ble_eq_true rfl)⟩ hcX5 rfl rfl rfl rfl (Nat.le_of_ble_eq_true rfl) (Nat.le_of_ble_eq_true rfl) (Nat.le_of_ble_eq_true rfl) rfl ?_
      refine o_inc_7 dX5_whatIs_142 rfl ic_1 (Nat.le_of_ble_eq_true rfl) ?_
      refine o_goto (tgt := 95) dX5_whatIs_145 (by decide) ?_
      exact o_eqa (by rw [nI_1, bI_and0, eb]; rfl) rfl (ih (j + 1) (by omega) (by omega))
    · have eb : wiB r rw d (51 + 3 * d) k (j + 1) = wiB r rw d (51 + 3 * d) k j := by rw [wiB, decide_eq_true c_123, Bool.and_true]
      refine o_iconst dX5_whatIs_126 ic_1 ?_
      refine o_goto (tgt := 131) dX5_whatIs_127 (by decide) ?_
      refine o_iand dX5_whatIs_131 ?_
      refine o_istg_6 dX5_whatIs_132 rfl (Nat.le_of_ble_eq_true rfl) ?_
      refine o_aload_n dX5_whatIs_134 rfl rfl ?_
      refine o_aload_n dX5_whatIs_135 rfl rfl ?_
      refine o_getf (j := 1) dX5_whatIs_136 rfl hcX5 inX5 (Nat.le_of_ble_eq_true rfl) wd687 rfl rfl ?_
      refine o_callVd (w2 := mW r (wiR r (51 + 3 * d) k (j + 1)) im wa (nF (farOf r)) hi lt rw rf (nI L) (nI R) pl nu sd) (is := [0, 1, 2, 3, 4, 5, 6, 7, 8, 9]) (tX5_hour_m farOf_le (wiR_ok hM j) (by omega)) ⟨rfl, rfl⟩ dX5_whatIs_139 wd808 cvX5_hour rfl ⟨(Nat.le_of_ble_eq_true rfl), (Nat.le_of_ble_eq_true rfl)⟩ hcX5 rfl rfl rfl rfl (Nat.le_of_ble_eq_true rfl) (Nat.le_of_ble_eq_true rfl) (Nat.le_of_ble_eq_true rfl) rfl ?_
      refine o_inc_7 dX5_whatIs_142 rfl ic_1 (Nat.le_of_ble_eq_true rfl) ?_
      refine o_goto (tgt := 95) dX5_whatIs_145 (by decide) ?_
      exact o_eqa (by rw [nI_1, bI_and1, eb]) rfl (ih (j + 1) (by omega) (by omega))
theorem lX5_wi1_1 {r im wa lt rw rf nu : Nat → Int32} {hi pl sd : Int32} {L R : Nat} (hS : SOk r) {d e : Nat} (hR : R ≤ 16) (hd : d < nN r) (he : e < dN r) : ∀ (q k : Nat) (m fr : Nat → Int32) (x6 x7 : Option Value), 8 - k < q → k ≤ 8 → Ok mX5_whatIs none 44 [some (.ref 0), some (.int (nI d)), some (.int (nI e)), some (.int 1), some (.int (wiS r rw d (51 + 3 * d) R k)), some (.int (nI k)), x6, x7] [] (mW r m im wa fr hi lt rw rf (nI L) (nI R) pl nu sd) 0 0 (fun a w2 => a = some (.int (wiS r rw d (51 + 3 * d) R 8)) ∧ ∃ m2 fr2, w2 = mW r m2 im wa fr2 hi lt rw rf (nI L) (nI R) pl nu sd) := by
  intro q
  induction q with
  | zero => intro k m fr x6 x7 hq hk; omega
  | succ q ih =>
  intro k m fr x6 x7 hq hk
  have h6 := hS.n6
  have h9 := hS.d9
  have h99 := hS.h9
  refine o_iload dX5_whatIs_44 rfl ?_
  refine o_iload_n dX5_whatIs_46 rfl rfl ?_
  refine o_if_ne (tgt := 55) dX5_whatIs_47 (by decide) (fun _ => ?_) (fun cq => absurd cq (by decide))
  refine o_bipush dX5_whatIs_55 bp_8 ?_
  refine o_icmp_ge (tgt := 172) dX5_whatIs_57 (by decide) (fun c_57 => ?_) (fun c_57 => ?_)
  · have hkN : k = 8 := Nat.le_antisymm hk (geI (b := 8) (by omega) (by omega) c_57)
    subst hkN
    refine o_iload dX5_whatIs_172 rfl ?_
    refine o_iret dX5_whatIs_174 rfl (vp_nar_int _) (Nat.le_of_ble_eq_true rfl) (Nat.le_of_ble_eq_true rfl) ?_
    exact ⟨rfl, _, _, rfl⟩
  · have hkN : k < 8 := ltI (b := 8) (by omega) (by omega) c_57
    refine o_iconst dX5_whatIs_60 ic_1 ?_
    refine o_istg_6 dX5_whatIs_61 rfl (Nat.le_of_ble_eq_true rfl) ?_
    refine o_aload_n dX5_whatIs_63 rfl rfl ?_
    refine o_iconst dX5_whatIs_64 ic_0 ?_
    refine o_callVd (w2 := mW r r im wa (nF (farOf r)) hi lt rw rf (nI L) (nI R) pl nu sd) (is := [0, 1, 2, 3, 4, 5, 6, 7, 8, 9]) (tX5_takes (n := 0) hS (by omega)) ⟨rfl, rfl⟩ dX5_whatIs_65 wd893 cvX5_takes rfl ⟨(Nat.le_of_ble_eq_true rfl), (Nat.le_of_ble_eq_true rfl)⟩ hcX5 rfl rfl rfl rfl (Nat.le_of_ble_eq_true rfl) (Nat.le_of_ble_eq_true rfl) (Nat.le_of_ble_eq_true rfl) rfl ?_
    refine o_aload_n dX5_whatIs_68 rfl rfl ?_
    refine o_getf (j := 1) dX5_whatIs_69 rfl hcX5 inX5 (Nat.le_of_ble_eq_true rfl) wd687 rfl rfl ?_
    refine o_iload_n dX5_whatIs_72 rfl rfl ?_
    refine o_if_ne (tgt := 84) dX5_whatIs_73 (by decide) (fun _ => ?_) (fun cq => absurd cq (by decide))
    refine o_iload_n dX5_whatIs_84 rfl rfl ?_
    refine o_iconst dX5_whatIs_85 ic_1 ?_
    refine o_callSr (is := []) (ofP1) ⟨rfl, rfl⟩ dX5_whatIs_86 wd783 csX5_ofP rfl ⟨(Nat.le_of_ble_eq_true rfl), (Nat.le_of_ble_eq_true rfl)⟩ rfl rfl rfl (Nat.le_of_ble_eq_true rfl) (Nat.le_of_ble_eq_true rfl) (Nat.le_of_ble_eq_true rfl) ?_
    refine o_iload dX5_whatIs_89 rfl ?_
    refine o_iasp (i := 51 + 3 * d) dX5_whatIs_91 rfl (rfl) (by omega) rfl ?_
    refine o_iconst dX5_whatIs_92 ic_0 ?_
    refine o_istg_7 dX5_whatIs_93 rfl (Nat.le_of_ble_eq_true rfl) ?_
    have hM : MOk (upd r (51 + 3 * d) (nI k)) (dN r) (nN r) (cN (r 2)) := hS.M.goal hd ⟨k, by omega, rfl⟩
    refine o_eqa (by rw [nI_0]; rfl) rfl (lX5_wi2_1 (d := d) (e := e) (k := k) (A := wiS r rw d (51 + 3 * d) R k) hS hR hd hM (by omega) (fun i7 m2 => ?_) (R + 1) 0 (by omega) (by omega))
    refine o_iload dX5_whatIs_148 rfl ?_
    refine o_iload dX5_whatIs_150 rfl ?_
    refine o_if_eq (tgt := 162) dX5_whatIs_152 (by decide) (fun c_152 => ?_) (fun c_152 => ?_)
    · skip
      refine o_iconst dX5_whatIs_162 ic_0 ?_
      refine o_ior dX5_whatIs_163 ?_
      refine o_istg_4 dX5_whatIs_164 rfl (Nat.le_of_ble_eq_true rfl) ?_
      refine o_inc_5 dX5_whatIs_166 rfl ic_1 (Nat.le_of_ble_eq_true rfl) ?_
      refine o_goto (tgt := 44) dX5_whatIs_169 (by decide) ?_
      exact o_eqa (by rw [nI_1, wiS, bI_0.mp c_152]; rfl) rfl (ih (k + 1) _ _ _ _ (by omega) (by omega))
    · skip
      refine o_iconst dX5_whatIs_155 ic_1 ?_
      refine o_iload dX5_whatIs_156 rfl ?_
      refine o_ishl dX5_whatIs_158 ?_
      refine o_goto (tgt := 163) dX5_whatIs_159 (by decide) ?_
      refine o_ior dX5_whatIs_163 ?_
      refine o_istg_4 dX5_whatIs_164 rfl (Nat.le_of_ble_eq_true rfl) ?_
      refine o_inc_5 dX5_whatIs_166 rfl ic_1 (Nat.le_of_ble_eq_true rfl) ?_
      refine o_goto (tgt := 44) dX5_whatIs_169 (by decide) ?_
      exact o_eqa (by rw [nI_1, wiS, bI_ne c_152]; rfl) rfl (ih (k + 1) _ _ _ _ (by omega) (by omega))
theorem tX5_whatIs {r m im wa fr lt rw rf nu : Nat → Int32} {hi pl sd : Int32} {L R : Nat} (hS : SOk r) {x y w : Int32} (hR : R ≤ 16) : PM mX5_whatIs [.ref 0, .int x, .int y, .int w] (mW r m im wa fr hi lt rw rf (nI L) (nI R) pl nu sd) (MP (s_whatIs x y w (r, im, hi, lt, L, rw, R, rf))) := by
  refine PM.ofp 4 (by decide) (Nat.le_of_ble_eq_true rfl) ?_
  show Ok mX5_whatIs none 0 [some (.ref 0), some (.int x), some (.int y), some (.int w), none, none, none, none] [] (mW r m im wa fr hi lt rw rf (nI L) (nI R) pl nu sd) 0 0 _
  refine o_aload_n dX5_whatIs_0 rfl rfl ?_
  refine o_iload_n dX5_whatIs_1 rfl rfl ?_
  refine o_callVr (is := [0, 1, 2, 3, 4, 5, 6, 7, 8, 9]) (tX5_isPerson hS) ⟨rfl, rfl⟩ dX5_whatIs_2 wd786 cvX5_isPerson rfl ⟨(Nat.le_of_ble_eq_true rfl), (Nat.le_of_ble_eq_true rfl)⟩ hcX5 rfl rfl rfl rfl (Nat.le_of_ble_eq_true rfl) (Nat.le_of_ble_eq_true rfl) (Nat.le_of_ble_eq_true rfl) ?_
  refine o_if_eq (tgt := 16) dX5_whatIs_5 (by decide) (fun c_5 => ?_) (fun c_5 => ?_)
  · have hno : (inR (nN r) x && inR (dN r) y) = false := by rw [bI_0.mp c_5]; rfl
    refine o_aload_n dX5_whatIs_16 rfl rfl ?_
    refine o_iconst dX5_whatIs_17 ic_m1 ?_
    refine o_callVd (is := [0, 1, 2, 3, 4, 5, 6, 7, 8, 9]) (tX5_no (c := 1) rfl (by decide)) ⟨rfl, rfl⟩ dX5_whatIs_18 wd733 cvX5_no rfl ⟨(Nat.le_of_ble_eq_true rfl), (Nat.le_of_ble_eq_true rfl)⟩ hcX5 rfl rfl rfl rfl (Nat.le_of_ble_eq_true rfl) (Nat.le_of_ble_eq_true rfl) (Nat.le_of_ble_eq_true rfl) rfl ?_
    refine o_iret dX5_whatIs_21 rfl (vp_nar_int _) (Nat.le_of_ble_eq_true rfl) (Nat.le_of_ble_eq_true rfl) ?_
    exact MP.mk (σ := (r, im, hi, lt, L, rw, R, rfu rf 1)) (by simp only [s_whatIs, hno]; rfl)
  · obtain ⟨d, hd, rfl⟩ := inR_yes (by have := hS.n6; omega) (bI_ne c_5)
    have h6 := hS.n6
    have hid := inR_nI (D := nN r) (by omega) hd
    have ed := cN_nI (d := d) (by omega)
    refine o_aload_n dX5_whatIs_8 rfl rfl ?_
    refine o_iload_n dX5_whatIs_9 rfl rfl ?_
    refine o_callVr (is := [0, 1, 2, 3, 4, 5, 6, 7, 8, 9]) (tX5_isDoor hS) ⟨rfl, rfl⟩ dX5_whatIs_10 wd790 cvX5_isDoor rfl ⟨(Nat.le_of_ble_eq_true rfl), (Nat.le_of_ble_eq_true rfl)⟩ hcX5 rfl rfl rfl rfl (Nat.le_of_ble_eq_true rfl) (Nat.le_of_ble_eq_true rfl) (Nat.le_of_ble_eq_true rfl) ?_
    refine o_if_ne (tgt := 22) dX5_whatIs_13 (by decide) (fun c_13 => ?_) (fun c_13 => ?_)
    · obtain ⟨e, he, rfl⟩ := inR_yes (by have := hS.d9; omega) (bI_ne c_13)
      have h9 := hS.d9
      have hie := inR_nI (D := dN r) (by omega) he
      have ee := cN_nI (d := e) (by omega)
      have hyes : (inR (nN r) (nI d) && inR (dN r) (nI e)) = true := by rw [hid, hie]; rfl
      refine o_iload_n dX5_whatIs_22 rfl rfl ?_
      refine o_iconst dX5_whatIs_23 ic_0 ?_
      refine o_iconst dX5_whatIs_24 ic_1 ?_
      refine o_callSr (is := []) (tX5_isIn) ⟨rfl, rfl⟩ dX5_whatIs_25 wd760 csX5_isIn rfl ⟨(Nat.le_of_ble_eq_true rfl), (Nat.le_of_ble_eq_true rfl)⟩ rfl rfl rfl (Nat.le_of_ble_eq_true rfl) (Nat.le_of_ble_eq_true rfl) (Nat.le_of_ble_eq_true rfl) ?_
      refine o_if_ne (tgt := 38) dX5_whatIs_28 (by decide) (fun c_28 => ?_) (fun c_28 => ?_)
      · have hww : inR 2 w = true := by rw [← isInB_eq 1 (by omega)]; exact bI_ne c_28
        obtain ⟨u, hu, rfl⟩ := inR_yes (by omega) hww
        refine o_iconst dX5_whatIs_38 ic_0 ?_
        refine o_istg_4 dX5_whatIs_39 rfl (Nat.le_of_ble_eq_true rfl) ?_
        refine o_iconst dX5_whatIs_41 ic_0 ?_
        refine o_istg_5 dX5_whatIs_42 rfl (Nat.le_of_ble_eq_true rfl) ?_
        match u, hu with
        | 0, _ =>
          exact o_post (fun a w2 h => by obtain ⟨rfl, m2, fr2, rfl⟩ := h; exact MP.mk (σ := (r, im, hi, lt, L, rw, R, rf)) (by simp only [s_whatIs, hyes, if_true, hww, ed, ee]; rw [if_pos (show nI 0 = 0 from rfl)])) (o_eqa (by rw [nI_0]; rfl) rfl (lX5_wi1_0 (d := d) (e := e) hS hR hd he 7 0 m fr _ _ (by omega) (by omega)))
        | 1, _ =>
          exact o_post (fun a w2 h => by obtain ⟨rfl, m2, fr2, rfl⟩ := h; exact MP.mk (σ := (r, im, hi, lt, L, rw, R, rf)) (by simp only [s_whatIs, hyes, if_true, hww, ed, ee]; rw [if_neg (show ¬ nI 1 = 0 by decide)])) (o_eqa (by rw [nI_0]; rfl) rfl (lX5_wi1_1 (d := d) (e := e) hS hR hd he 9 0 m fr _ _ (by omega) (by omega)))
      · have hww : inR 2 w = false := by rw [← isInB_eq 1 (by omega)]; exact bI_0.mp c_28
        refine o_aload_n dX5_whatIs_31 rfl rfl ?_
        refine o_bipush dX5_whatIs_32 bp_m2 ?_
        refine o_callVd (is := [0, 1, 2, 3, 4, 5, 6, 7, 8, 9]) (tX5_no (c := 2) rfl (by decide)) ⟨rfl, rfl⟩ dX5_whatIs_34 wd733 cvX5_no rfl ⟨(Nat.le_of_ble_eq_true rfl), (Nat.le_of_ble_eq_true rfl)⟩ hcX5 rfl rfl rfl rfl (Nat.le_of_ble_eq_true rfl) (Nat.le_of_ble_eq_true rfl) (Nat.le_of_ble_eq_true rfl) rfl ?_
        refine o_iret dX5_whatIs_37 rfl (vp_nar_int _) (Nat.le_of_ble_eq_true rfl) (Nat.le_of_ble_eq_true rfl) ?_
        exact MP.mk (σ := (r, im, hi, lt, L, rw, R, rfu rf 2)) (by simp only [s_whatIs, hyes, if_true, hww]; rfl)
    · have hno : (inR (nN r) (nI d) && inR (dN r) y) = false := by rw [bI_0.mp c_13]; simp
      refine o_aload_n dX5_whatIs_16 rfl rfl ?_
      refine o_iconst dX5_whatIs_17 ic_m1 ?_
      refine o_callVd (is := [0, 1, 2, 3, 4, 5, 6, 7, 8, 9]) (tX5_no (c := 1) rfl (by decide)) ⟨rfl, rfl⟩ dX5_whatIs_18 wd733 cvX5_no rfl ⟨(Nat.le_of_ble_eq_true rfl), (Nat.le_of_ble_eq_true rfl)⟩ hcX5 rfl rfl rfl rfl (Nat.le_of_ble_eq_true rfl) (Nat.le_of_ble_eq_true rfl) (Nat.le_of_ble_eq_true rfl) rfl ?_
      refine o_iret dX5_whatIs_21 rfl (vp_nar_int _) (Nat.le_of_ble_eq_true rfl) (Nat.le_of_ble_eq_true rfl) ?_
      exact MP.mk (σ := (r, im, hi, lt, L, rw, R, rfu rf 1)) (by simp only [s_whatIs, hno]; rfl)
