theorem sh1 {N : Nat} (h : N ≤ 7) : (1 : Int32) <<< (nI N &&& 31) = nI (2 ^ N) := by
  have : ∀ n, n < 8 → (1 : Int32) <<< (nI n &&& 31) = nI (2 ^ n) := by decide +kernel
  exact this N (by omega)
theorem p2_le {N : Nat} (h : N ≤ 6) : 2 ^ N ≤ 64 := by
  have : ∀ n, n < 7 → 2 ^ n ≤ 64 := by decide
  exact this N (by omega)
def mnS (r : Nat → Int32) (x : Int32) : Nat → Int32
  | 0 => 0
  | k + 1 => mnS r x k + (if r (50 + 3 * k) = x then 1 else 0)
def dbS (r : Nat → Int32) (b : Nat) (x : Int32) : Nat → Int32
  | 0 => 0
  | k + 1 => dbS r b x k ||| (if r (b + 5 * k) = x then 1 <<< (nI k &&& 31) else 0)
def cwF (r : Nat → Int32) : Nat → Int32
  | 0 => 0
  | k + 1 => if mnS r (cwF r k) (nN r) < mnS r (nI k) (nN r) then nI k else cwF r k
def cwT (r : Nat → Int32) (w : Int32) : Nat → Int32
  | 0 => 0
  | k + 1 => cwT r w k ||| (if (if w = 2 then mnS r (nI k) (nN r) else dbS r 7 (nI k) (dN r)) = 0 then 1 <<< (nI k &&& 31) else 0)
def s_crowd (w : Int32) (σ : St) : Res := if inR 4 w then (some (.int (if w = 0 then cwF σ.1 8 else if w = 1 then mnS σ.1 (cwF σ.1 8) (nN σ.1) else cwT σ.1 w 8)), σ) else noR σ 2
def s_handles (x : Int32) (σ : St) : Res := if inR 8 x then (some (.int (dbS σ.1 8 x (dN σ.1))), σ) else noR σ 1
def mtN (r : Nat → Int32) (g : Nat → Nat) (x : Nat) : Nat → Nat
  | 0 => 0
  | k + 1 => mtN r g x k + g (8 * cN (r (50 + 3 * k)) + x)
def bmS (v : Nat → Nat) : Nat → Int32 × Nat
  | 0 => (-9, 99)
  | k + 1 => if v k < (bmS v k).2 then (nI k, v k) else bmS v k
def s_meet (w : Int32) (σ : St) : Res := if inR 2 w then (some (.int (if (bmS (fun x => mtN σ.1 (farOf σ.1) x (nN σ.1)) 8).1 < 0 ∨ w = 0 then (bmS (fun x => mtN σ.1 (farOf σ.1) x (nN σ.1)) 8).1 else nI (bmS (fun x => mtN σ.1 (farOf σ.1) x (nN σ.1)) 8).2)), σ) else noR σ 2
theorem mtN_le {r : Nat → Int32} {g : Nat → Nat} {x : Nat} (hg : ∀ i, g i ≤ 99) : ∀ k, mtN r g x k ≤ 99 * k
  | 0 => Nat.le_refl _
  | k + 1 => by
    have := mtN_le (r := r) (x := x) hg k
    have h2 := hg (8 * cN (r (50 + 3 * k)) + x)
    simp only [mtN]; omega
theorem bmS_le {v : Nat → Nat} : ∀ k, (bmS v k).2 ≤ 99
  | 0 => Nat.le_refl _
  | k + 1 => by
    have := bmS_le (v := v) k
    unfold bmS
    split
    · show v k ≤ 99; omega
    · exact this
theorem lX5_few2 {r im wa fr lt rw rf nu : Nat → Int32} {hi pl sd : Int32} {L R : Nat} (hS : SOk r) {d n k : Nat} {z3 f : Int32} {P : Option Value → PW → Prop} (hP : ∀ i6, Ok mX5_fewest none 143 [some (.ref 0), some (.int (nI d)), some (.int (nI n)), some (.int z3), some (.int f), some (.int (nI k)), some (.int i6)] [] (mW r (stG r (nI k) (nN r)) im wa fr hi lt rw rf (nI L) (nI R) pl nu sd) 0 0 P) : ∀ (q j : Nat), nN r - j < q → j ≤ nN r → Ok mX5_fewest none 94 [some (.ref 0), some (.int (nI d)), some (.int (nI n)), some (.int z3), some (.int f), some (.int (nI k)), some (.int (nI j))] [] (mW r (stG r (nI k) j) im wa fr hi lt rw rf (nI L) (nI R) pl nu sd) 0 0 (P) := by
  have h6 := hS.n6
  intro q
  induction q with
  | zero => intro j hq hj; omega
  | succ q ih =>
  intro j hq hj
  refine o_iload dX5_fewest_94 rfl ?_
  refine o_aload_n dX5_fewest_96 rfl rfl ?_
  refine o_getf (j := 0) dX5_fewest_97 rfl hcX5 inX5 (Nat.le_of_ble_eq_true rfl) wd686 rfl rfl ?_
  refine o_iconst dX5_fewest_100 ic_1 ?_
  refine o_ialp (i := 1) dX5_fewest_101 rfl (rfl) (by decide) ?_
  refine o_icmp_ge (tgt := 143) dX5_fewest_102 (by decide) (fun c_102 => ?_) (fun c_102 => ?_)
  · rw [hS.e1] at c_102
    have hjN : j = nN r := Nat.le_antisymm hj (geI (by omega) (by omega) c_102)
    exact o_eqa rfl (by rw [hjN]) (hP _)
  · rw [hS.e1] at c_102
    have hjN : j < nN r := ltI (by omega) (by omega) c_102
    refine o_iload dX5_fewest_105 rfl ?_
    refine o_iload dX5_fewest_107 rfl ?_
    refine o_callSr (is := []) (tX5_has) ⟨rfl, rfl⟩ dX5_fewest_109 wd812 csX5_has rfl ⟨(Nat.le_of_ble_eq_true rfl), (Nat.le_of_ble_eq_true rfl)⟩ rfl rfl rfl (Nat.le_of_ble_eq_true rfl) (Nat.le_of_ble_eq_true rfl) (Nat.le_of_ble_eq_true rfl) ?_
    refine o_if_eq (tgt := 137) dX5_fewest_112 (by decide) (fun c_112 => ?_) (fun c_112 => ?_)
    · skip
      refine o_inc_6 dX5_fewest_137 rfl ic_1 (Nat.le_of_ble_eq_true rfl) ?_
      refine o_goto (tgt := 94) dX5_fewest_140 (by decide) ?_
      exact o_eqa (by rw [nI_1]) (by rw [stG, if_neg (fun h => by rw [bI_0.mp c_112] at h; cases h)]) (ih (j + 1) (by omega) (by omega))
    · skip
      refine o_aload_n dX5_fewest_115 rfl rfl ?_
      refine o_getf (j := 1) dX5_fewest_116 rfl hcX5 inX5 (Nat.le_of_ble_eq_true rfl) wd687 rfl rfl ?_
      refine o_iload dX5_fewest_119 rfl ?_
      refine o_iconst dX5_fewest_121 ic_1 ?_
      refine o_callSr (is := []) (ofP1) ⟨rfl, rfl⟩ dX5_fewest_122 wd783 csX5_ofP rfl ⟨(Nat.le_of_ble_eq_true rfl), (Nat.le_of_ble_eq_true rfl)⟩ rfl rfl rfl (Nat.le_of_ble_eq_true rfl) (Nat.le_of_ble_eq_true rfl) (Nat.le_of_ble_eq_true rfl) ?_
      refine o_aload_n dX5_fewest_125 rfl rfl ?_
      refine o_getf (j := 1) dX5_fewest_126 rfl hcX5 inX5 (Nat.le_of_ble_eq_true rfl) wd687 rfl rfl ?_
      refine o_iload dX5_fewest_129 rfl ?_
      refine o_iconst dX5_fewest_131 ic_0 ?_
      refine o_callSr (is := []) (ofP0) ⟨rfl, rfl⟩ dX5_fewest_132 wd783 csX5_ofP rfl ⟨(Nat.le_of_ble_eq_true rfl), (Nat.le_of_ble_eq_true rfl)⟩ rfl rfl rfl (Nat.le_of_ble_eq_true rfl) (Nat.le_of_ble_eq_true rfl) (Nat.le_of_ble_eq_true rfl) ?_
      refine o_ialp (i := 50 + 3 * j) dX5_fewest_135 rfl (rfl) (by omega) ?_
      refine o_iasp (i := 51 + 3 * j) dX5_fewest_136 rfl (rfl) (by omega) rfl ?_
      refine o_inc_6 dX5_fewest_137 rfl ic_1 (Nat.le_of_ble_eq_true rfl) ?_
      refine o_goto (tgt := 94) dX5_fewest_140 (by decide) ?_
      exact o_eqa (by rw [nI_1]) (by rw [stG, if_pos (bI_ne c_112)]; rfl) (ih (j + 1) (by omega) (by omega))
theorem lX5_few1 {r im wa lt rw rf nu : Nat → Int32} {hi pl sd : Int32} {L R : Nat} (hS : SOk r) {d n : Nat} (hn : n ≤ 30) (hd : d < nN r) : ∀ (q k : Nat) (m fr : Nat → Int32) (x6 : Option Value) (z3 : Int32), 2 ^ nN r - k < q → k ≤ 2 ^ nN r → Ok mX5_fewest none 37 [some (.ref 0), some (.int (nI d)), some (.int (nI n)), some (.int z3), some (.int (fwS r n d k)), some (.int (nI k)), x6] [] (mW r m im wa fr hi lt rw rf (nI L) (nI R) pl nu sd) 0 0 (fun a w2 => a = some (.int (fwS r n d (2 ^ nN r))) ∧ ∃ m2 fr2, w2 = mW r m2 im wa fr2 hi lt rw rf (nI L) (nI R) pl nu sd) := by
  intro q
  induction q with
  | zero => intro k m fr x6 z3 hq hk; omega
  | succ q ih =>
  intro k m fr x6 z3 hq hk
  have h6 := hS.n6
  have h9 := hS.d9
  have h99 := hS.h9
  have hp := p2_le h6
  have h80 : ¬ (hasB (nI k) (nI d) = true ∨ (¬ fwS r n d k < 0 ∧ ¬ bitsM (nI k) 9 < bitsM (fwS r n d k) 9)) → k < 2 ^ nN r → ∀ (m fr : Nat → Int32) (x6 : Option Value) (z3 : Int32), Ok mX5_fewest none 80 [some (.ref 0), some (.int (nI d)), some (.int (nI n)), some (.int z3), some (.int (fwS r n d k)), some (.int (nI k)), x6] [] (mW r m im wa fr hi lt rw rf (nI L) (nI R) pl nu sd) 0 0 (fun a w2 => a = some (.int (fwS r n d (2 ^ nN r))) ∧ ∃ m2 fr2, w2 = mW r m2 im wa fr2 hi lt rw rf (nI L) (nI R) pl nu sd) := by
    intro hc hkN m fr x6 z3
    obtain ⟨hm, em1, em2, em3⟩ := (MOk.stG (set := nI k) hS.M (nN r) (Nat.le_refl _)).self (by omega)
    have h7 := MS.n hm n
    rw [em2] at h7
    refine o_aload_n dX5_fewest_80 rfl rfl ?_
    refine o_getf (j := 0) dX5_fewest_81 rfl hcX5 inX5 (Nat.le_of_ble_eq_true rfl) wd686 rfl rfl ?_
    refine o_aload_n dX5_fewest_84 rfl rfl ?_
    refine o_getf (j := 1) dX5_fewest_85 rfl hcX5 inX5 (Nat.le_of_ble_eq_true rfl) wd687 rfl rfl ?_
    refine o_callSd (is := [1, 2]) (tX5_copies) ⟨rfl, rfl⟩ dX5_fewest_88 wd763 csX5_copies rfl ⟨(Nat.le_of_ble_eq_true rfl), (Nat.le_of_ble_eq_true rfl)⟩ rfl rfl rfl (Nat.le_of_ble_eq_true rfl) (Nat.le_of_ble_eq_true rfl) (Nat.le_of_ble_eq_true rfl) rfl ?_
    refine o_iconst dX5_fewest_91 ic_0 ?_
    refine o_istg_6 dX5_fewest_92 rfl (Nat.le_of_ble_eq_true rfl) ?_
    refine o_eqa (by rw [nI_0]) rfl (lX5_few2 (d := d) (n := n) (k := k) (z3 := z3) (f := fwS r n d k) hS (fun i6 => ?_) (nN r + 1) 0 (by omega) (by omega))
    refine o_aload_n dX5_fewest_143 rfl rfl ?_
    refine o_aload_n dX5_fewest_144 rfl rfl ?_
    refine o_getf (j := 1) dX5_fewest_145 rfl hcX5 inX5 (Nat.le_of_ble_eq_true rfl) wd687 rfl rfl ?_
    refine o_iload_n dX5_fewest_148 rfl rfl ?_
    refine o_callVd (is := [0, 1, 2, 3, 4, 5, 6, 7, 8, 9]) (ho_m hm (by omega)) ⟨rfl, rfl⟩ dX5_fewest_149 wd797 cvX5_hoursOn rfl ⟨(Nat.le_of_ble_eq_true rfl), (Nat.le_of_ble_eq_true rfl)⟩ hcX5 rfl rfl rfl rfl (Nat.le_of_ble_eq_true rfl) (Nat.le_of_ble_eq_true rfl) (Nat.le_of_ble_eq_true rfl) rfl ?_
    refine o_aload_n dX5_fewest_152 rfl rfl ?_
    refine o_getf (j := 1) dX5_fewest_153 rfl hcX5 inX5 (Nat.le_of_ble_eq_true rfl) wd687 rfl rfl ?_
    refine o_callSr (is := [2]) (tX5_homeIn (by omega) h7) ⟨rfl, rfl⟩ dX5_fewest_156 wd883 csX5_homeIn rfl ⟨(Nat.le_of_ble_eq_true rfl), (Nat.le_of_ble_eq_true rfl)⟩ rfl rfl rfl (Nat.le_of_ble_eq_true rfl) (Nat.le_of_ble_eq_true rfl) (Nat.le_of_ble_eq_true rfl) ?_
    refine o_iload_n dX5_fewest_159 rfl rfl ?_
    refine o_callSr (is := []) (tX5_has) ⟨rfl, rfl⟩ dX5_fewest_160 wd812 csX5_has rfl ⟨(Nat.le_of_ble_eq_true rfl), (Nat.le_of_ble_eq_true rfl)⟩ rfl rfl rfl (Nat.le_of_ble_eq_true rfl) (Nat.le_of_ble_eq_true rfl) (Nat.le_of_ble_eq_true rfl) ?_
    refine o_if_eq (tgt := 170) dX5_fewest_163 (by decide) (fun c_163 => ?_) (fun c_163 => ?_)
    · skip
      refine o_inc_5 dX5_fewest_170 rfl ic_1 (Nat.le_of_ble_eq_true rfl) ?_
      refine o_goto (tgt := 37) dX5_fewest_173 (by decide) ?_
      exact o_eqa (by rw [nI_1, fwS, if_neg hc, if_neg (fun h => by rw [bI_0.mp c_163] at h; cases h)]) rfl (ih (k + 1) _ _ _ _ (by omega) (by omega))
    · skip
      refine o_iload dX5_fewest_166 rfl ?_
      refine o_istg_4 dX5_fewest_168 rfl (Nat.le_of_ble_eq_true rfl) ?_
      refine o_inc_5 dX5_fewest_170 rfl ic_1 (Nat.le_of_ble_eq_true rfl) ?_
      refine o_goto (tgt := 37) dX5_fewest_173 (by decide) ?_
      exact o_eqa (by rw [nI_1, fwS, if_neg hc, if_pos (bI_ne c_163)]) rfl (ih (k + 1) _ _ _ _ (by omega) (by omega))
  refine o_iload dX5_fewest_37 rfl ?_
  refine o_iconst dX5_fewest_39 ic_1 ?_
  refine o_aload_n dX5_fewest_40 rfl rfl ?_
  refine o_getf (j := 0) dX5_fewest_41 rfl hcX5 inX5 (Nat.le_of_ble_eq_true rfl) wd686 rfl rfl ?_
  refine o_iconst dX5_fewest_44 ic_1 ?_
  refine o_ialp (i := 1) dX5_fewest_45 rfl (rfl) (by decide) ?_
  refine o_ishl dX5_fewest_46 ?_
  refine o_icmp_ge (tgt := 176) dX5_fewest_47 (by decide) (fun c_47 => ?_) (fun c_47 => ?_)
  · rw [hS.e1, sh1 (by omega)] at c_47
    have hkN : k = 2 ^ nN r := Nat.le_antisymm hk (geI (by omega) (by omega) c_47)
    refine o_iload dX5_fewest_176 rfl ?_
    refine o_iret dX5_fewest_178 rfl (vp_nar_int _) (Nat.le_of_ble_eq_true rfl) (Nat.le_of_ble_eq_true rfl) ?_
    exact ⟨by rw [hkN], _, _, rfl⟩
  · rw [hS.e1, sh1 (by omega)] at c_47
    have hkN : k < 2 ^ nN r := ltI (by omega) (by omega) c_47
    refine o_iload dX5_fewest_50 rfl ?_
    refine o_iload_n dX5_fewest_52 rfl rfl ?_
    refine o_callSr (is := []) (tX5_has) ⟨rfl, rfl⟩ dX5_fewest_53 wd812 csX5_has rfl ⟨(Nat.le_of_ble_eq_true rfl), (Nat.le_of_ble_eq_true rfl)⟩ rfl rfl rfl (Nat.le_of_ble_eq_true rfl) (Nat.le_of_ble_eq_true rfl) (Nat.le_of_ble_eq_true rfl) ?_
    refine o_if_ne (tgt := 170) dX5_fewest_56 (by decide) (fun c_56 => ?_) (fun c_56 => ?_)
    · have hc : hasB (nI k) (nI d) = true ∨ (¬ fwS r n d k < 0 ∧ ¬ bitsM (nI k) 9 < bitsM (fwS r n d k) 9) := Or.inl (bI_ne c_56)
      refine o_inc_5 dX5_fewest_170 rfl ic_1 (Nat.le_of_ble_eq_true rfl) ?_
      refine o_goto (tgt := 37) dX5_fewest_173 (by decide) ?_
      exact o_eqa (by rw [nI_1, fwS, if_pos hc]) rfl (ih (k + 1) _ _ _ _ (by omega) (by omega))
    · skip
      refine o_iload dX5_fewest_59 rfl ?_
      refine o_if_lt (tgt := 80) dX5_fewest_61 (by decide) (fun c_61 => ?_) (fun c_61 => ?_)
      · have hc : ¬ (hasB (nI k) (nI d) = true ∨ (¬ fwS r n d k < 0 ∧ ¬ bitsM (nI k) 9 < bitsM (fwS r n d k) 9)) := fun h => h.elim (fun h => by rw [bI_0.mp c_56] at h; cases h) (fun h => h.1 c_61)
        exact h80 hc hkN _ _ _ _
      · skip
        refine o_iload dX5_fewest_64 rfl ?_
        refine o_callSr (is := []) (tX5_bits) ⟨rfl, rfl⟩ dX5_fewest_66 wd886 csX5_bits rfl ⟨(Nat.le_of_ble_eq_true rfl), (Nat.le_of_ble_eq_true rfl)⟩ rfl rfl rfl (Nat.le_of_ble_eq_true rfl) (Nat.le_of_ble_eq_true rfl) (Nat.le_of_ble_eq_true rfl) ?_
        refine o_iload dX5_fewest_69 rfl ?_
        refine o_callSr (is := []) (tX5_bits) ⟨rfl, rfl⟩ dX5_fewest_71 wd886 csX5_bits rfl ⟨(Nat.le_of_ble_eq_true rfl), (Nat.le_of_ble_eq_true rfl)⟩ rfl rfl rfl (Nat.le_of_ble_eq_true rfl) (Nat.le_of_ble_eq_true rfl) (Nat.le_of_ble_eq_true rfl) ?_
        refine o_icmp_lt (tgt := 80) dX5_fewest_74 (by decide) (fun c_74 => ?_) (fun c_74 => ?_)
        · have hc : ¬ (hasB (nI k) (nI d) = true ∨ (¬ fwS r n d k < 0 ∧ ¬ bitsM (nI k) 9 < bitsM (fwS r n d k) 9)) := fun h => h.elim (fun h => by rw [bI_0.mp c_56] at h; cases h) (fun h => h.2 c_74)
          exact h80 hc hkN _ _ _ _
        · have hc : hasB (nI k) (nI d) = true ∨ (¬ fwS r n d k < 0 ∧ ¬ bitsM (nI k) 9 < bitsM (fwS r n d k) 9) := Or.inr ⟨c_61, c_74⟩
          refine o_goto (tgt := 170) dX5_fewest_77 (by decide) ?_
          refine o_inc_5 dX5_fewest_170 rfl ic_1 (Nat.le_of_ble_eq_true rfl) ?_
          refine o_goto (tgt := 37) dX5_fewest_173 (by decide) ?_
          exact o_eqa (by rw [nI_1, fwS, if_pos hc]) rfl (ih (k + 1) _ _ _ _ (by omega) (by omega))
theorem tX5_fewest {r m im wa fr lt rw rf nu : Nat → Int32} {hi pl sd : Int32} {L R : Nat} (hS : SOk r) {x n : Int32} : PM mX5_fewest [.ref 0, .int x, .int n] (mW r m im wa fr hi lt rw rf (nI L) (nI R) pl nu sd) (MP (s_fewest x n (r, im, hi, lt, L, rw, R, rf))) := by
  refine PM.ofp 4 (by decide) (Nat.le_of_ble_eq_true rfl) ?_
  show Ok mX5_fewest none 0 [some (.ref 0), some (.int x), some (.int n), none, none, none, none] [] (mW r m im wa fr hi lt rw rf (nI L) (nI R) pl nu sd) 0 0 _
  refine o_aload_n dX5_fewest_0 rfl rfl ?_
  refine o_iload_n dX5_fewest_1 rfl rfl ?_
  refine o_callVr (is := [0, 1, 2, 3, 4, 5, 6, 7, 8, 9]) (tX5_isPerson hS) ⟨rfl, rfl⟩ dX5_fewest_2 wd786 cvX5_isPerson rfl ⟨(Nat.le_of_ble_eq_true rfl), (Nat.le_of_ble_eq_true rfl)⟩ hcX5 rfl rfl rfl rfl (Nat.le_of_ble_eq_true rfl) (Nat.le_of_ble_eq_true rfl) (Nat.le_of_ble_eq_true rfl) ?_
  refine o_if_eq (tgt := 18) dX5_fewest_5 (by decide) (fun c_5 => ?_) (fun c_5 => ?_)
  · have hno := bI_0.mp c_5
    refine o_iconst dX5_fewest_18 ic_m1 ?_
    refine o_istn_3 dX5_fewest_19 rfl rfl (Nat.le_of_ble_eq_true rfl) ?_
    refine o_iload_n dX5_fewest_20 rfl rfl ?_
    refine o_if_eq (tgt := 30) dX5_fewest_21 (by decide) (fun cq => absurd cq (by decide)) (fun _ => ?_)
    refine o_aload_n dX5_fewest_24 rfl rfl ?_
    refine o_iload_n dX5_fewest_25 rfl rfl ?_
    refine o_callVd (is := [0, 1, 2, 3, 4, 5, 6, 7, 8, 9]) (tX5_no (c := 1) rfl (by decide)) ⟨rfl, rfl⟩ dX5_fewest_26 wd733 cvX5_no rfl ⟨(Nat.le_of_ble_eq_true rfl), (Nat.le_of_ble_eq_true rfl)⟩ hcX5 rfl rfl rfl rfl (Nat.le_of_ble_eq_true rfl) (Nat.le_of_ble_eq_true rfl) (Nat.le_of_ble_eq_true rfl) rfl ?_
    refine o_iret dX5_fewest_29 rfl (vp_nar_int _) (Nat.le_of_ble_eq_true rfl) (Nat.le_of_ble_eq_true rfl) ?_
    exact MP.mk (σ := (r, im, hi, lt, L, rw, R, rfu rf 1)) (by simp only [s_fewest, hno]; rfl)
  · obtain ⟨d, hd, rfl⟩ := inR_yes (by have := hS.n6; omega) (bI_ne c_5)
    have h9 := hS.n6
    have hin := inR_nI (D := nN r) (by omega) hd
    have ec := cN_nI (d := d) (by omega)
    refine o_iload_n dX5_fewest_8 rfl rfl ?_
    refine o_iconst dX5_fewest_9 ic_0 ?_
    refine o_bipush dX5_fewest_10 bp_30 ?_
    refine o_callSr (is := []) (tX5_wrongBy) ⟨rfl, rfl⟩ dX5_fewest_12 wd872 csX5_wrongBy rfl ⟨(Nat.le_of_ble_eq_true rfl), (Nat.le_of_ble_eq_true rfl)⟩ rfl rfl rfl (Nat.le_of_ble_eq_true rfl) (Nat.le_of_ble_eq_true rfl) (Nat.le_of_ble_eq_true rfl) ?_
    refine o_wr3 (fun hw => ?_) (fun hw1 hw2 => ?_) (fun hw1 hw2 => ?_)
    · skip
      refine o_goto (tgt := 19) dX5_fewest_15 (by decide) ?_
      refine o_istn_3 dX5_fewest_19 rfl rfl (Nat.le_of_ble_eq_true rfl) ?_
      refine o_iload_n dX5_fewest_20 rfl rfl ?_
      refine o_if_eq (tgt := 30) dX5_fewest_21 (by decide) (fun cq => absurd cq (by decide)) (fun _ => ?_)
      refine o_aload_n dX5_fewest_24 rfl rfl ?_
      refine o_iload_n dX5_fewest_25 rfl rfl ?_
      refine o_callVd (is := [0, 1, 2, 3, 4, 5, 6, 7, 8, 9]) (tX5_no (c := 4) rfl (by decide)) ⟨rfl, rfl⟩ dX5_fewest_26 wd733 cvX5_no rfl ⟨(Nat.le_of_ble_eq_true rfl), (Nat.le_of_ble_eq_true rfl)⟩ hcX5 rfl rfl rfl rfl (Nat.le_of_ble_eq_true rfl) (Nat.le_of_ble_eq_true rfl) (Nat.le_of_ble_eq_true rfl) rfl ?_
      refine o_iret dX5_fewest_29 rfl (vp_nar_int _) (Nat.le_of_ble_eq_true rfl) (Nat.le_of_ble_eq_true rfl) ?_
      exact MP.mk (σ := (r, im, hi, lt, L, rw, R, rfu rf 4)) (by simp only [s_fewest, hin, if_true, wrB, if_pos hw]; rfl)
    · skip
      refine o_goto (tgt := 19) dX5_fewest_15 (by decide) ?_
      refine o_istn_3 dX5_fewest_19 rfl rfl (Nat.le_of_ble_eq_true rfl) ?_
      refine o_iload_n dX5_fewest_20 rfl rfl ?_
      refine o_if_eq (tgt := 30) dX5_fewest_21 (by decide) (fun cq => absurd cq (by decide)) (fun _ => ?_)
      refine o_aload_n dX5_fewest_24 rfl rfl ?_
      refine o_iload_n dX5_fewest_25 rfl rfl ?_
      refine o_callVd (is := [0, 1, 2, 3, 4, 5, 6, 7, 8, 9]) (tX5_no (c := 6) rfl (by decide)) ⟨rfl, rfl⟩ dX5_fewest_26 wd733 cvX5_no rfl ⟨(Nat.le_of_ble_eq_true rfl), (Nat.le_of_ble_eq_true rfl)⟩ hcX5 rfl rfl rfl rfl (Nat.le_of_ble_eq_true rfl) (Nat.le_of_ble_eq_true rfl) (Nat.le_of_ble_eq_true rfl) rfl ?_
      refine o_iret dX5_fewest_29 rfl (vp_nar_int _) (Nat.le_of_ble_eq_true rfl) (Nat.le_of_ble_eq_true rfl) ?_
      exact MP.mk (σ := (r, im, hi, lt, L, rw, R, rfu rf 6)) (by simp only [s_fewest, hin, if_true, wrB, if_neg hw1, show nI 30 < n from hw2, if_true]; rfl)
    · obtain ⟨q, hq, rfl⟩ := rng (b := 30) (by omega) hw1 hw2
      have eq := cN_nI (d := q) (by omega)
      refine o_goto (tgt := 19) dX5_fewest_15 (by decide) ?_
      refine o_istn_3 dX5_fewest_19 rfl rfl (Nat.le_of_ble_eq_true rfl) ?_
      refine o_iload_n dX5_fewest_20 rfl rfl ?_
      refine o_if_eq (tgt := 30) dX5_fewest_21 (by decide) (fun _ => ?_) (fun cq => absurd (by decide) cq)
      refine o_bipush dX5_fewest_30 bp_m9 ?_
      refine o_istg_4 dX5_fewest_32 rfl (Nat.le_of_ble_eq_true rfl) ?_
      refine o_iconst dX5_fewest_34 ic_0 ?_
      refine o_istg_5 dX5_fewest_35 rfl (Nat.le_of_ble_eq_true rfl) ?_
      exact o_post (fun a w2 h => by obtain ⟨rfl, m2, fr2, rfl⟩ := h; exact MP.mk (σ := (r, im, hi, lt, L, rw, R, rf)) (by simp only [s_fewest, hin, if_true, wrB, if_neg hw1, show ¬ nI 30 < nI q from hw2, if_false, eq, ec])) (o_eqa (by rw [nI_0]; rfl) rfl (lX5_few1 (n := q) (d := d) hS hq hd (2 ^ nN r + 1) 0 m fr _ _ (Nat.lt_succ_of_le (Nat.sub_le _ _)) (Nat.zero_le _)))
theorem lX5_holds {r im wa lt rw rf nu : Nat → Int32} {hi pl sd : Int32} {L R : Nat} (hS : SOk r) {n : Nat} {w : Int32} (hn : n ≤ 30) : ∀ (q k : Nat) (m fr : Nat → Int32) (x7 : Option Value) (z3 : Int32), nN r - k < q → k ≤ nN r → Ok mX5_holds none 45 [some (.ref 0), some (.int (nI n)), some (.int w), some (.int z3), some (.int (blS (hdV r n) k).1), some (.int (blS (hdV r n) k).2), some (.int (nI k)), x7] [] (mW r m im wa fr hi lt rw rf (nI L) (nI R) pl nu sd) 0 0 (fun a w2 => a = some (.int (if (blS (hdV r n) (nN r)).1 < 0 ∨ w = 0 then (blS (hdV r n) (nN r)).1 else (blS (hdV r n) (nN r)).2)) ∧ ∃ m2 fr2, w2 = mW r m2 im wa fr2 hi lt rw rf (nI L) (nI R) pl nu sd) := by
  intro q
  induction q with
  | zero => intro k m fr x7 z3 hq hk; omega
  | succ q ih =>
  intro k m fr x7 z3 hq hk
  have h6 := hS.n6
  have h9 := hS.d9
  have h99 := hS.h9
  refine o_iload dX5_holds_45 rfl ?_
  refine o_aload_n dX5_holds_47 rfl rfl ?_
  refine o_getf (j := 0) dX5_holds_48 rfl hcX5 inX5 (Nat.le_of_ble_eq_true rfl) wd686 rfl rfl ?_
  refine o_iconst dX5_holds_51 ic_1 ?_
  refine o_ialp (i := 1) dX5_holds_52 rfl (rfl) (by decide) ?_
  refine o_icmp_ge (tgt := 122) dX5_holds_53 (by decide) (fun c_53 => ?_) (fun c_53 => ?_)
  · rw [hS.e1] at c_53
    have hkN : k = nN r := Nat.le_antisymm hk (geI (by omega) (by omega) c_53)
    refine o_iload dX5_holds_122 rfl ?_
    refine o_if_lt (tgt := 131) dX5_holds_124 (by decide) (fun c_124 => ?_) (fun c_124 => ?_)
    · skip
      refine o_iload dX5_holds_131 rfl ?_
      refine o_goto (tgt := 138) dX5_holds_133 (by decide) ?_
      refine o_iret dX5_holds_138 rfl (vp_nar_int _) (Nat.le_of_ble_eq_true rfl) (Nat.le_of_ble_eq_true rfl) ?_
      exact ⟨by rw [← hkN, if_pos (Or.inl c_124)], _, _, rfl⟩
    · skip
      refine o_iload_n dX5_holds_127 rfl rfl ?_
      refine o_if_ne (tgt := 136) dX5_holds_128 (by decide) (fun c_128 => ?_) (fun c_128 => ?_)
      · skip
        refine o_iload dX5_holds_136 rfl ?_
        refine o_iret dX5_holds_138 rfl (vp_nar_int _) (Nat.le_of_ble_eq_true rfl) (Nat.le_of_ble_eq_true rfl) ?_
        exact ⟨by rw [← hkN, if_neg (fun h => h.elim c_124 c_128)], _, _, rfl⟩
      · skip
        refine o_iload dX5_holds_131 rfl ?_
        refine o_goto (tgt := 138) dX5_holds_133 (by decide) ?_
        refine o_iret dX5_holds_138 rfl (vp_nar_int _) (Nat.le_of_ble_eq_true rfl) (Nat.le_of_ble_eq_true rfl) ?_
        exact ⟨by rw [← hkN, if_pos (Or.inr c_128)], _, _, rfl⟩
  · rw [hS.e1] at c_53
    have hkN : k < nN r := ltI (by omega) (by omega) c_53
    obtain ⟨hm, em1, em2, em3⟩ := (MOk.gone (v := 1 <<< (nI k &&& 31)) hS.M).self (by omega)
    have h7 := MS.n hm n
    rw [em2] at h7
    have ev : hdV r n k = bitsM (homeM (hrs (upd r 4 (1 <<< (nI k &&& 31))) n) (nN r)) 9 := by
      show bitsM (homeM (hrs (upd r 4 (1 <<< (nI k &&& 31))) n) (nN (upd r 4 (1 <<< (nI k &&& 31))))) 9 = _
      rw [em2]
    refine o_aload_n dX5_holds_56 rfl rfl ?_
    refine o_getf (j := 0) dX5_holds_57 rfl hcX5 inX5 (Nat.le_of_ble_eq_true rfl) wd686 rfl rfl ?_
    refine o_aload_n dX5_holds_60 rfl rfl ?_
    refine o_getf (j := 1) dX5_holds_61 rfl hcX5 inX5 (Nat.le_of_ble_eq_true rfl) wd687 rfl rfl ?_
    refine o_callSd (is := [1, 2]) (tX5_copies) ⟨rfl, rfl⟩ dX5_holds_64 wd763 csX5_copies rfl ⟨(Nat.le_of_ble_eq_true rfl), (Nat.le_of_ble_eq_true rfl)⟩ rfl rfl rfl (Nat.le_of_ble_eq_true rfl) (Nat.le_of_ble_eq_true rfl) (Nat.le_of_ble_eq_true rfl) rfl ?_
    refine o_aload_n dX5_holds_67 rfl rfl ?_
    refine o_getf (j := 1) dX5_holds_68 rfl hcX5 inX5 (Nat.le_of_ble_eq_true rfl) wd687 rfl rfl ?_
    refine o_iconst dX5_holds_71 ic_4 ?_
    refine o_iconst dX5_holds_72 ic_1 ?_
    refine o_iload dX5_holds_73 rfl ?_
    refine o_ishl dX5_holds_75 ?_
    refine o_iasp (i := 4) dX5_holds_76 rfl (rfl) (by decide) rfl ?_
    refine o_aload_n dX5_holds_77 rfl rfl ?_
    refine o_aload_n dX5_holds_78 rfl rfl ?_
    refine o_getf (j := 1) dX5_holds_79 rfl hcX5 inX5 (Nat.le_of_ble_eq_true rfl) wd687 rfl rfl ?_
    refine o_iload_n dX5_holds_82 rfl rfl ?_
    refine o_callVd (is := [0, 1, 2, 3, 4, 5, 6, 7, 8, 9]) (ho_m hm (by omega)) ⟨rfl, rfl⟩ dX5_holds_83 wd797 cvX5_hoursOn rfl ⟨(Nat.le_of_ble_eq_true rfl), (Nat.le_of_ble_eq_true rfl)⟩ hcX5 rfl rfl rfl rfl (Nat.le_of_ble_eq_true rfl) (Nat.le_of_ble_eq_true rfl) (Nat.le_of_ble_eq_true rfl) rfl ?_
    refine o_aload_n dX5_holds_86 rfl rfl ?_
    refine o_getf (j := 1) dX5_holds_87 rfl hcX5 inX5 (Nat.le_of_ble_eq_true rfl) wd687 rfl rfl ?_
    refine o_callSr (is := [2]) (tX5_homeIn (by omega) h7) ⟨rfl, rfl⟩ dX5_holds_90 wd883 csX5_homeIn rfl ⟨(Nat.le_of_ble_eq_true rfl), (Nat.le_of_ble_eq_true rfl)⟩ rfl rfl rfl (Nat.le_of_ble_eq_true rfl) (Nat.le_of_ble_eq_true rfl) (Nat.le_of_ble_eq_true rfl) ?_
    refine o_callSr (is := []) (tX5_bits) ⟨rfl, rfl⟩ dX5_holds_93 wd886 csX5_bits rfl ⟨(Nat.le_of_ble_eq_true rfl), (Nat.le_of_ble_eq_true rfl)⟩ rfl rfl rfl (Nat.le_of_ble_eq_true rfl) (Nat.le_of_ble_eq_true rfl) (Nat.le_of_ble_eq_true rfl) ?_
    refine o_istg_7 dX5_holds_96 rfl (Nat.le_of_ble_eq_true rfl) ?_
    refine o_iload dX5_holds_98 rfl ?_
    refine o_iload dX5_holds_100 rfl ?_
    refine o_icmp_lt (tgt := 108) dX5_holds_102 (by decide) (fun c_102 => ?_) (fun c_102 => ?_)
    · skip
      refine o_iload dX5_holds_108 rfl ?_
      refine o_istg_4 dX5_holds_110 rfl (Nat.le_of_ble_eq_true rfl) ?_
      refine o_iload dX5_holds_112 rfl ?_
      refine o_istg_5 dX5_holds_114 rfl (Nat.le_of_ble_eq_true rfl) ?_
      refine o_inc_6 dX5_holds_116 rfl ic_1 (Nat.le_of_ble_eq_true rfl) ?_
      refine o_goto (tgt := 45) dX5_holds_119 (by decide) ?_
      have hb : blS (hdV r n) (k + 1) = (nI k, hdV r n k) := by
        show (if hdV r n k < (blS (hdV r n) k).2 then (nI k, hdV r n k) else blS (hdV r n) k) = _
        rw [ev, if_pos c_102]
      exact o_eqa (by rw [nI_1, hb, ev]) rfl (ih (k + 1) _ _ _ _ (by omega) (by omega))
    · skip
      refine o_goto (tgt := 116) dX5_holds_105 (by decide) ?_
      refine o_inc_6 dX5_holds_116 rfl ic_1 (Nat.le_of_ble_eq_true rfl) ?_
      refine o_goto (tgt := 45) dX5_holds_119 (by decide) ?_
      have hb : blS (hdV r n) (k + 1) = blS (hdV r n) k := by
        show (if hdV r n k < (blS (hdV r n) k).2 then (nI k, hdV r n k) else blS (hdV r n) k) = _
        rw [ev, if_neg c_102]
      exact o_eqa (by rw [nI_1, hb]) rfl (ih (k + 1) _ _ _ _ (by omega) (by omega))
theorem tX5_holds {r m im wa fr lt rw rf nu : Nat → Int32} {hi pl sd : Int32} {L R : Nat} (hS : SOk r) {x w : Int32} : PM mX5_holds [.ref 0, .int x, .int w] (mW r m im wa fr hi lt rw rf (nI L) (nI R) pl nu sd) (MP (s_holds x w (r, im, hi, lt, L, rw, R, rf))) := by
  refine PM.ofp 5 (by decide) (Nat.le_of_ble_eq_true rfl) ?_
  show Ok mX5_holds none 0 [some (.ref 0), some (.int x), some (.int w), none, none, none, none, none] [] (mW r m im wa fr hi lt rw rf (nI L) (nI R) pl nu sd) 0 0 _
  refine o_iload_n dX5_holds_0 rfl rfl ?_
  refine o_iconst dX5_holds_1 ic_0 ?_
  refine o_bipush dX5_holds_2 bp_30 ?_
  refine o_callSr (is := []) (tX5_wrongBy) ⟨rfl, rfl⟩ dX5_holds_4 wd872 csX5_wrongBy rfl ⟨(Nat.le_of_ble_eq_true rfl), (Nat.le_of_ble_eq_true rfl)⟩ rfl rfl rfl (Nat.le_of_ble_eq_true rfl) (Nat.le_of_ble_eq_true rfl) (Nat.le_of_ble_eq_true rfl) ?_
  refine o_wr3 (fun hw => ?_) (fun hw1 hw2 => ?_) (fun hw1 hw2 => ?_)
  · skip
    refine o_istn_3 dX5_holds_7 rfl rfl (Nat.le_of_ble_eq_true rfl) ?_
    refine o_iload_n dX5_holds_8 rfl rfl ?_
    refine o_if_ne (tgt := 24) dX5_holds_9 (by decide) (fun _ => ?_) (fun cq => absurd cq (by decide))
    refine o_iload_n dX5_holds_24 rfl rfl ?_
    refine o_if_eq (tgt := 34) dX5_holds_25 (by decide) (fun cq => absurd cq (by decide)) (fun _ => ?_)
    refine o_aload_n dX5_holds_28 rfl rfl ?_
    refine o_iload_n dX5_holds_29 rfl rfl ?_
    refine o_callVd (is := [0, 1, 2, 3, 4, 5, 6, 7, 8, 9]) (tX5_no (c := 4) rfl (by decide)) ⟨rfl, rfl⟩ dX5_holds_30 wd733 cvX5_no rfl ⟨(Nat.le_of_ble_eq_true rfl), (Nat.le_of_ble_eq_true rfl)⟩ hcX5 rfl rfl rfl rfl (Nat.le_of_ble_eq_true rfl) (Nat.le_of_ble_eq_true rfl) (Nat.le_of_ble_eq_true rfl) rfl ?_
    refine o_iret dX5_holds_33 rfl (vp_nar_int _) (Nat.le_of_ble_eq_true rfl) (Nat.le_of_ble_eq_true rfl) ?_
    exact MP.mk (σ := (r, im, hi, lt, L, rw, R, rfu rf 4)) (by simp only [s_holds, wrB, if_pos hw]; rfl)
  · skip
    refine o_istn_3 dX5_holds_7 rfl rfl (Nat.le_of_ble_eq_true rfl) ?_
    refine o_iload_n dX5_holds_8 rfl rfl ?_
    refine o_if_ne (tgt := 24) dX5_holds_9 (by decide) (fun _ => ?_) (fun cq => absurd cq (by decide))
    refine o_iload_n dX5_holds_24 rfl rfl ?_
    refine o_if_eq (tgt := 34) dX5_holds_25 (by decide) (fun cq => absurd cq (by decide)) (fun _ => ?_)
    refine o_aload_n dX5_holds_28 rfl rfl ?_
    refine o_iload_n dX5_holds_29 rfl rfl ?_
    refine o_callVd (is := [0, 1, 2, 3, 4, 5, 6, 7, 8, 9]) (tX5_no (c := 6) rfl (by decide)) ⟨rfl, rfl⟩ dX5_holds_30 wd733 cvX5_no rfl ⟨(Nat.le_of_ble_eq_true rfl), (Nat.le_of_ble_eq_true rfl)⟩ hcX5 rfl rfl rfl rfl (Nat.le_of_ble_eq_true rfl) (Nat.le_of_ble_eq_true rfl) (Nat.le_of_ble_eq_true rfl) rfl ?_
    refine o_iret dX5_holds_33 rfl (vp_nar_int _) (Nat.le_of_ble_eq_true rfl) (Nat.le_of_ble_eq_true rfl) ?_
    exact MP.mk (σ := (r, im, hi, lt, L, rw, R, rfu rf 6)) (by simp only [s_holds, wrB, if_neg hw1, show nI 30 < x from hw2, if_true]; rfl)
  · obtain ⟨q, hq, rfl⟩ := rng (b := 30) (by omega) hw1 hw2
    have eq := cN_nI (d := q) (by omega)
    refine o_istn_3 dX5_holds_7 rfl rfl (Nat.le_of_ble_eq_true rfl) ?_
    refine o_iload_n dX5_holds_8 rfl rfl ?_
    refine o_if_ne (tgt := 24) dX5_holds_9 (by decide) (fun cq => absurd (by decide) cq) (fun _ => ?_)
    refine o_iload_n dX5_holds_12 rfl rfl ?_
    refine o_iconst dX5_holds_13 ic_0 ?_
    refine o_iconst dX5_holds_14 ic_1 ?_
    refine o_callSr (is := []) (tX5_isIn) ⟨rfl, rfl⟩ dX5_holds_15 wd760 csX5_isIn rfl ⟨(Nat.le_of_ble_eq_true rfl), (Nat.le_of_ble_eq_true rfl)⟩ rfl rfl rfl (Nat.le_of_ble_eq_true rfl) (Nat.le_of_ble_eq_true rfl) (Nat.le_of_ble_eq_true rfl) ?_
    refine o_if_ne (tgt := 24) dX5_holds_18 (by decide) (fun c_18 => ?_) (fun c_18 => ?_)
    · have hww : inR 2 w = true := by rw [← isInB_eq 1 (by omega)]; exact bI_ne c_18
      refine o_iload_n dX5_holds_24 rfl rfl ?_
      refine o_if_eq (tgt := 34) dX5_holds_25 (by decide) (fun _ => ?_) (fun cq => absurd (by decide) cq)
      refine o_bipush dX5_holds_34 bp_m9 ?_
      refine o_istg_4 dX5_holds_36 rfl (Nat.le_of_ble_eq_true rfl) ?_
      refine o_ldc dX5_holds_38 wd972 ?_
      refine o_istg_5 dX5_holds_40 rfl (Nat.le_of_ble_eq_true rfl) ?_
      refine o_iconst dX5_holds_42 ic_0 ?_
      refine o_istg_6 dX5_holds_43 rfl (Nat.le_of_ble_eq_true rfl) ?_
      exact o_post (fun a w2 h => by obtain ⟨rfl, m2, fr2, rfl⟩ := h; exact MP.mk (σ := (r, im, hi, lt, L, rw, R, rf)) (by simp only [s_holds, wrB, if_neg hw1, show ¬ nI 30 < nI q from hw2, if_false, hww, if_true, eq])) (o_eqa (by rw [nI_0]; rfl) rfl (lX5_holds (w := w) (n := q) hS hq (nN r + 1) 0 m fr _ _ (by omega) (by omega)))
    · have hww : inR 2 w = false := by rw [← isInB_eq 1 (by omega)]; exact bI_0.mp c_18
      refine o_bipush dX5_holds_21 bp_m2 ?_
      refine o_istn_3 dX5_holds_23 rfl rfl (Nat.le_of_ble_eq_true rfl) ?_
      refine o_iload_n dX5_holds_24 rfl rfl ?_
      refine o_if_eq (tgt := 34) dX5_holds_25 (by decide) (fun cq => absurd cq (by decide)) (fun _ => ?_)
      refine o_aload_n dX5_holds_28 rfl rfl ?_
      refine o_iload_n dX5_holds_29 rfl rfl ?_
      refine o_callVd (is := [0, 1, 2, 3, 4, 5, 6, 7, 8, 9]) (tX5_no (c := 2) rfl (by decide)) ⟨rfl, rfl⟩ dX5_holds_30 wd733 cvX5_no rfl ⟨(Nat.le_of_ble_eq_true rfl), (Nat.le_of_ble_eq_true rfl)⟩ hcX5 rfl rfl rfl rfl (Nat.le_of_ble_eq_true rfl) (Nat.le_of_ble_eq_true rfl) (Nat.le_of_ble_eq_true rfl) rfl ?_
      refine o_iret dX5_holds_33 rfl (vp_nar_int _) (Nat.le_of_ble_eq_true rfl) (Nat.le_of_ble_eq_true rfl) ?_
      exact MP.mk (σ := (r, im, hi, lt, L, rw, R, rfu rf 2)) (by simp only [s_holds, wrB, if_neg hw1, show ¬ nI 30 < nI q from hw2, if_false, hww]; rfl)
