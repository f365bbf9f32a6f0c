def dnS (c : Int32) (nu r : Nat → Int32) : Option (Nat → Int32) :=
  if c = 100 then (if inR 8 (nu 2) && inR 8 (nu 3) && !decide (nu 2 = nu 3) && !decide (dN r = 9) then some (adD r (dN r) nu) else none)
  else if c = 112 then (if inR 8 (nu 0) && inR 8 (nu 1) && !decide (nN r = 6) then some (adP r (nN r) (nu 0) (nu 1) (nu 2)) else none)
  else if c = 103 then (if inR (nN r) (nu 0) && inR 8 (nu 1) then some (upd r (51 + 3 * cN (nu 0)) (nu 1)) else none)
  else if c = 114 then (if inR (nN r) (nu 0) && inR 8 (nu 1) then some (upd r (50 + 3 * cN (nu 0)) (nu 1)) else none)
  else if c = 119 then (if inR (dN r) (nu 0) then some (upd r (9 + 5 * cN (nu 0)) (r (9 + 5 * cN (nu 0)) ^^^ 1)) else none)
  else if c = 116 then (if inR (dN r) (nu 0) then some (tnR r (cN (nu 0))) else none)
  else (if isInB (nu 0) 1 60 && !decide (999 < r 2 + nu 0) then some (hrs r (cN (nu 0))) else none)
def DNP (res : Option (Nat → Int32)) (r m im wa lt rw rf nu : Nat → Int32) (hi pl sd : Int32) (L R : Nat) : Option Value → PW → Prop := fun a w => a = some (.int (bI res.isSome)) ∧ ∃ fr2, w = mW (res.getD r) m im wa fr2 hi lt rw rf (nI L) (nI R) pl nu sd
theorem DNP.no {res : Option (Nat → Int32)} {r m im wa fr lt rw rf nu : Nat → Int32} {hi pl sd : Int32} {L R : Nat} (h : res = none) : DNP res r m im wa lt rw rf nu hi pl sd L R (some (.int 0)) (mW r m im wa fr hi lt rw rf (nI L) (nI R) pl nu sd) := by subst h; exact ⟨rfl, fr, rfl⟩
theorem DNP.yes {res : Option (Nat → Int32)} {r r2 m im wa fr lt rw rf nu : Nat → Int32} {hi pl sd : Int32} {L R : Nat} (h : res = some r2) : DNP res r m im wa lt rw rf nu hi pl sd L R (some (.int 1)) (mW r2 m im wa fr hi lt rw rf (nI L) (nI R) pl nu sd) := by subst h; exact ⟨rfl, fr, rfl⟩
theorem lX5_addsDoor {r m im wa fr lt rw rf nu : Nat → Int32} {hi pl sd : Int32} {L R : Nat} (hS : SOk r) {D : Nat} (hD : D < 9) (h0 : r 0 = nI D) {P : Option Value → PW → Prop} (hP : Ok mX5_addsDoor none 86 [some (.ref 0), some (.int (nI 4))] [] (mW (adL r D nu 4) m im wa fr hi lt rw rf (nI L) (nI R) pl nu sd) 0 0 P) : ∀ (q k : Nat), 4 - k < q → k ≤ 4 → Ok mX5_addsDoor none 54 [some (.ref 0), some (.int (nI k))] [] (mW (adL r D nu k) m im wa fr hi lt rw rf (nI L) (nI R) pl nu sd) 0 0 (P) := by
  intro q
  induction q with
  | zero => intro k hq hk; omega
  | succ q ih =>
  intro k hq hk
  refine o_iload_n dX5_addsDoor_54 rfl rfl ?_
  refine o_iconst dX5_addsDoor_55 ic_4 ?_
  refine o_icmp_ge (tgt := 86) dX5_addsDoor_56 (by decide) (fun c_56 => ?_) (fun c_56 => ?_)
  · have hkN : k = 4 := Nat.le_antisymm hk (geI (b := 4) (by omega) (by omega) c_56)
    subst hkN
    exact hP
  · have hkN : k < 4 := ltI (b := 4) (by omega) (by omega) c_56
    refine o_aload_n dX5_addsDoor_59 rfl rfl ?_
    refine o_getf (j := 0) dX5_addsDoor_60 rfl hcX5 inX5 (Nat.le_of_ble_eq_true rfl) wd686 rfl rfl ?_
    refine o_aload_n dX5_addsDoor_63 rfl rfl ?_
    refine o_getf (j := 0) dX5_addsDoor_64 rfl hcX5 inX5 (Nat.le_of_ble_eq_true rfl) wd686 rfl rfl ?_
    refine o_iconst dX5_addsDoor_67 ic_0 ?_
    refine o_ialp (i := 0) dX5_addsDoor_68 rfl (rfl) (by decide) ?_
    refine o_eqs (by rw [adL_ne (Or.inl (by omega)) k (by omega), h0]) ?_
    refine o_iload_n dX5_addsDoor_69 rfl rfl ?_
    refine o_callSr (is := []) (ofDu (d := D) (u := k)) ⟨rfl, rfl⟩ dX5_addsDoor_70 wd777 csX5_ofD rfl ⟨(Nat.le_of_ble_eq_true rfl), (Nat.le_of_ble_eq_true rfl)⟩ rfl rfl rfl (Nat.le_of_ble_eq_true rfl) (Nat.le_of_ble_eq_true rfl) (Nat.le_of_ble_eq_true rfl) ?_
    refine o_aload_n dX5_addsDoor_73 rfl rfl ?_
    refine o_getf (j := 12) dX5_addsDoor_74 rfl hcX5 inX5 (Nat.le_of_ble_eq_true rfl) wd698 rfl rfl ?_
    refine o_iload_n dX5_addsDoor_77 rfl rfl ?_
    refine o_ialp (i := k) dX5_addsDoor_78 rfl (rfl) (by omega) ?_
    refine o_iasp (i := 5 + 5 * D + k) dX5_addsDoor_79 rfl (rfl) (by omega) rfl ?_
    refine o_inc_1 dX5_addsDoor_80 rfl ic_1 (Nat.le_of_ble_eq_true rfl) ?_
    refine o_goto (tgt := 54) dX5_addsDoor_83 (by decide) ?_
    exact o_eqa (by rw [nI_1]) rfl (ih (k + 1) (by omega) (by omega))
theorem tX5_addsDoor {r m im wa fr lt rw rf nu : Nat → Int32} {hi pl sd : Int32} {L R : Nat} (hS : SOk r) : PM mX5_addsDoor [.ref 0] (mW r m im wa fr hi lt rw rf (nI L) (nI R) pl nu sd) (DNP (dnS 100 nu r) r m im wa lt rw rf nu hi pl sd L R) := by
  refine PM.ofp 1 (by decide) (Nat.le_of_ble_eq_true rfl) ?_
  show Ok mX5_addsDoor none 0 [some (.ref 0), none] [] (mW r m im wa fr hi lt rw rf (nI L) (nI R) pl nu sd) 0 0 _
  have h9 := hS.d9
  refine o_aload_n dX5_addsDoor_0 rfl rfl ?_
  refine o_getf (j := 12) dX5_addsDoor_1 rfl hcX5 inX5 (Nat.le_of_ble_eq_true rfl) wd698 rfl rfl ?_
  refine o_iconst dX5_addsDoor_4 ic_2 ?_
  refine o_ialp (i := 2) dX5_addsDoor_5 rfl (rfl) (by decide) ?_
  refine o_callSr (is := []) (tX5_isRoom) ⟨rfl, rfl⟩ dX5_addsDoor_6 wd774 csX5_isRoom rfl ⟨(Nat.le_of_ble_eq_true rfl), (Nat.le_of_ble_eq_true rfl)⟩ rfl rfl rfl (Nat.le_of_ble_eq_true rfl) (Nat.le_of_ble_eq_true rfl) (Nat.le_of_ble_eq_true rfl) ?_
  refine o_if_eq (tgt := 50) dX5_addsDoor_9 (by decide) (fun c_9 => ?_) (fun c_9 => ?_)
  · have q_9 : inR 8 (nu 2) = false := by rw [← isInB_eq 7 (by omega)]; exact bI_0.mp c_9
    refine o_iconst dX5_addsDoor_50 ic_0 ?_
    refine o_iret dX5_addsDoor_51 rfl (by first | exact nz_b _ | decide) (Nat.le_of_ble_eq_true rfl) (Nat.le_of_ble_eq_true rfl) ?_
    exact DNP.no (by simp only [dnS, q_9, if_true, Bool.false_and]; rfl)
  · have q_9 : inR 8 (nu 2) = true := by rw [← isInB_eq 7 (by omega)]; exact bI_ne c_9
    refine o_aload_n dX5_addsDoor_12 rfl rfl ?_
    refine o_getf (j := 12) dX5_addsDoor_13 rfl hcX5 inX5 (Nat.le_of_ble_eq_true rfl) wd698 rfl rfl ?_
    refine o_iconst dX5_addsDoor_16 ic_3 ?_
    refine o_ialp (i := 3) dX5_addsDoor_17 rfl (rfl) (by decide) ?_
    refine o_callSr (is := []) (tX5_isRoom) ⟨rfl, rfl⟩ dX5_addsDoor_18 wd774 csX5_isRoom rfl ⟨(Nat.le_of_ble_eq_true rfl), (Nat.le_of_ble_eq_true rfl)⟩ rfl rfl rfl (Nat.le_of_ble_eq_true rfl) (Nat.le_of_ble_eq_true rfl) (Nat.le_of_ble_eq_true rfl) ?_
    refine o_if_eq (tgt := 50) dX5_addsDoor_21 (by decide) (fun c_21 => ?_) (fun c_21 => ?_)
    · have q_21 : inR 8 (nu 3) = false := by rw [← isInB_eq 7 (by omega)]; exact bI_0.mp c_21
      refine o_iconst dX5_addsDoor_50 ic_0 ?_
      refine o_iret dX5_addsDoor_51 rfl (by first | exact nz_b _ | decide) (Nat.le_of_ble_eq_true rfl) (Nat.le_of_ble_eq_true rfl) ?_
      exact DNP.no (by simp only [dnS, q_9, q_21, if_true, Bool.false_and, Bool.and_false]; rfl)
    · have q_21 : inR 8 (nu 3) = true := by rw [← isInB_eq 7 (by omega)]; exact bI_ne c_21
      refine o_aload_n dX5_addsDoor_24 rfl rfl ?_
      refine o_getf (j := 12) dX5_addsDoor_25 rfl hcX5 inX5 (Nat.le_of_ble_eq_true rfl) wd698 rfl rfl ?_
      refine o_iconst dX5_addsDoor_28 ic_2 ?_
      refine o_ialp (i := 2) dX5_addsDoor_29 rfl (rfl) (by decide) ?_
      refine o_aload_n dX5_addsDoor_30 rfl rfl ?_
      refine o_getf (j := 12) dX5_addsDoor_31 rfl hcX5 inX5 (Nat.le_of_ble_eq_true rfl) wd698 rfl rfl ?_
      refine o_iconst dX5_addsDoor_34 ic_3 ?_
      refine o_ialp (i := 3) dX5_addsDoor_35 rfl (rfl) (by decide) ?_
      refine o_icmp_eq (tgt := 50) dX5_addsDoor_36 (by decide) (fun c_36 => ?_) (fun c_36 => ?_)
      · skip
        refine o_iconst dX5_addsDoor_50 ic_0 ?_
        refine o_iret dX5_addsDoor_51 rfl (by first | exact nz_b _ | decide) (Nat.le_of_ble_eq_true rfl) (Nat.le_of_ble_eq_true rfl) ?_
        exact DNP.no (by simp only [dnS, q_9, q_21, c_36, decide_true, Bool.not_true, if_true, Bool.false_and, Bool.and_false]; rfl)
      · skip
        refine o_aload_n dX5_addsDoor_39 rfl rfl ?_
        refine o_getf (j := 0) dX5_addsDoor_40 rfl hcX5 inX5 (Nat.le_of_ble_eq_true rfl) wd686 rfl rfl ?_
        refine o_iconst dX5_addsDoor_43 ic_0 ?_
        refine o_ialp (i := 0) dX5_addsDoor_44 rfl (rfl) (by decide) ?_
        refine o_bipush dX5_addsDoor_45 bp_9 ?_
        refine o_icmp_ne (tgt := 52) dX5_addsDoor_47 (by decide) (fun c_47 => ?_) (fun c_47 => ?_)
        · have q3 : ¬ dN r = 9 := fun e => c_47 (by rw [hS.e0, e]; rfl)
          refine o_iconst dX5_addsDoor_52 ic_0 ?_
          refine o_istn_1 dX5_addsDoor_53 rfl rfl (Nat.le_of_ble_eq_true rfl) ?_
          refine o_eqa (by rw [nI_0]) rfl (lX5_addsDoor hS (D := dN r) (by omega) hS.e0 ?_ 5 0 (by omega) (by omega))
          refine o_aload_n dX5_addsDoor_86 rfl rfl ?_
          refine o_getf (j := 0) dX5_addsDoor_87 rfl hcX5 inX5 (Nat.le_of_ble_eq_true rfl) wd686 rfl rfl ?_
          refine o_aload_n dX5_addsDoor_90 rfl rfl ?_
          refine o_getf (j := 0) dX5_addsDoor_91 rfl hcX5 inX5 (Nat.le_of_ble_eq_true rfl) wd686 rfl rfl ?_
          refine o_iconst dX5_addsDoor_94 ic_0 ?_
          refine o_ialp (i := 0) dX5_addsDoor_95 rfl (rfl) (by decide) ?_
          refine o_eqs (by rw [adL_ne (Or.inl (by omega)) 4 (by omega), hS.e0]) ?_
          refine o_iconst dX5_addsDoor_96 ic_4 ?_
          refine o_callSr (is := []) (ofDu (d := dN r) (u := 4)) ⟨rfl, rfl⟩ dX5_addsDoor_97 wd777 csX5_ofD rfl ⟨(Nat.le_of_ble_eq_true rfl), (Nat.le_of_ble_eq_true rfl)⟩ rfl rfl rfl (Nat.le_of_ble_eq_true rfl) (Nat.le_of_ble_eq_true rfl) (Nat.le_of_ble_eq_true rfl) ?_
          refine o_iconst dX5_addsDoor_100 ic_0 ?_
          refine o_iasp (i := 9 + 5 * dN r) dX5_addsDoor_101 rfl (by rw [show 5 + 5 * dN r + 4 = 9 + 5 * dN r by omega]) (by omega) rfl ?_
          refine o_aload_n dX5_addsDoor_102 rfl rfl ?_
          refine o_getf (j := 0) dX5_addsDoor_103 rfl hcX5 inX5 (Nat.le_of_ble_eq_true rfl) wd686 rfl rfl ?_
          refine o_iconst dX5_addsDoor_106 ic_0 ?_
          refine o_dup2 dX5_addsDoor_107 rfl rfl ?_
          refine o_ialp (i := 0) dX5_addsDoor_108 rfl (rfl) (by decide) ?_
          refine o_iconst dX5_addsDoor_109 ic_1 ?_
          refine o_iadd dX5_addsDoor_110 ?_
          refine o_iasp (i := 0) dX5_addsDoor_111 rfl (rfl) (by decide) rfl ?_
          refine o_iconst dX5_addsDoor_112 ic_1 ?_
          refine o_iret dX5_addsDoor_113 rfl (by first | exact nz_b _ | decide) (Nat.le_of_ble_eq_true rfl) (Nat.le_of_ble_eq_true rfl) ?_
          exact DNP.yes (by
            have e7 : upd (adL r (dN r) nu 4) (9 + 5 * dN r) 0 0 + 1 = nI (dN r + 1) := by rw [upd_ne (by omega), adL_ne (Or.inl (by omega)) 4 (by omega), hS.e0, nI_1]
            simp only [dnS, q_9, q_21, c_36, q3, decide_false, Bool.not_false, if_true, Bool.and_self, adD, e7])
        · have q3 : dN r = 9 := (nI_eq (b := 9) (by omega) (by omega)).mp (by rw [← hS.e0]; exact c_47)
          refine o_iconst dX5_addsDoor_50 ic_0 ?_
          refine o_iret dX5_addsDoor_51 rfl (by first | exact nz_b _ | decide) (Nat.le_of_ble_eq_true rfl) (Nat.le_of_ble_eq_true rfl) ?_
          exact DNP.no (by simp only [dnS, q_9, q_21, q3, decide_true, Bool.not_true, if_true, Bool.and_false]; rfl)
theorem dnS_112 {nu r : Nat → Int32} : dnS 112 nu r = (if inR 8 (nu 0) && inR 8 (nu 1) && !decide (nN r = 6) then some (adP r (nN r) (nu 0) (nu 1) (nu 2)) else none) := rfl
theorem dnS_103 {nu r : Nat → Int32} : dnS 103 nu r = (if inR (nN r) (nu 0) && inR 8 (nu 1) then some (upd r (51 + 3 * cN (nu 0)) (nu 1)) else none) := rfl
theorem dnS_114 {nu r : Nat → Int32} : dnS 114 nu r = (if inR (nN r) (nu 0) && inR 8 (nu 1) then some (upd r (50 + 3 * cN (nu 0)) (nu 1)) else none) := rfl
theorem dnS_119 {nu r : Nat → Int32} : dnS 119 nu r = (if inR (dN r) (nu 0) then some (upd r (9 + 5 * cN (nu 0)) (r (9 + 5 * cN (nu 0)) ^^^ 1)) else none) := rfl
theorem dnS_116 {nu r : Nat → Int32} : dnS 116 nu r = (if inR (dN r) (nu 0) then some (tnR r (cN (nu 0))) else none) := rfl
theorem tX5_isDone {r m im wa fr lt rw rf nu : Nat → Int32} {hi pl sd : Int32} {L R : Nat} (hS : SOk r) {c : Int32} : PM mX5_isDone [.ref 0, .int c] (mW r m im wa fr hi lt rw rf (nI L) (nI R) pl nu sd) (DNP (dnS c nu r) r m im wa lt rw rf nu hi pl sd L R) := by
  refine PM.ofp 2 (by decide) (Nat.le_of_ble_eq_true rfl) ?_
  show Ok mX5_isDone none 0 [some (.ref 0), some (.int c), none, none] [] (mW r m im wa fr hi lt rw rf (nI L) (nI R) pl nu sd) 0 0 _
  refine o_aload_n dX5_isDone_0 rfl rfl ?_
  refine o_getf (j := 12) dX5_isDone_1 rfl hcX5 inX5 (Nat.le_of_ble_eq_true rfl) wd698 rfl rfl ?_
  refine o_iconst dX5_isDone_4 ic_0 ?_
  refine o_ialp (i := 0) dX5_isDone_5 rfl (rfl) (by decide) ?_
  refine o_istn_2 dX5_isDone_6 rfl rfl (Nat.le_of_ble_eq_true rfl) ?_
  refine o_aload_n dX5_isDone_7 rfl rfl ?_
  refine o_getf (j := 12) dX5_isDone_8 rfl hcX5 inX5 (Nat.le_of_ble_eq_true rfl) wd698 rfl rfl ?_
  refine o_iconst dX5_isDone_11 ic_1 ?_
  refine o_ialp (i := 1) dX5_isDone_12 rfl (rfl) (by decide) ?_
  refine o_istn_3 dX5_isDone_13 rfl rfl (Nat.le_of_ble_eq_true rfl) ?_
  refine o_iload_n dX5_isDone_14 rfl rfl ?_
  refine o_sw (lo := 100) (hi := 119) 20 (by decide) (by decide) (by decide) (fun hsw => ?_) (fun j hj hsw => ?_)
  · refine o_tabOut (tgt := 243) dX5_isDone_15 hsw (by decide) ?_
    have ed : dnS c nu r = (if isInB (nu 0) 1 60 && !decide (999 < r 2 + nu 0) then some (hrs r (cN (nu 0))) else none) := by first | (subst hsw; rfl) | (rw [dnS, if_neg (sw_ne hsw 100 (by decide)), if_neg (sw_ne hsw 112 (by decide)), if_neg (sw_ne hsw 103 (by decide)), if_neg (sw_ne hsw 114 (by decide)), if_neg (sw_ne hsw 119 (by decide)), if_neg (sw_ne hsw 116 (by decide))])
    refine o_iload_n dX5_isDone_243 rfl rfl ?_
    refine o_iconst dX5_isDone_244 ic_1 ?_
    refine o_bipush dX5_isDone_245 bp_60 ?_
    refine o_callSr (is := []) (tX5_isIn) ⟨rfl, rfl⟩ dX5_isDone_247 wd760 csX5_isIn rfl ⟨(Nat.le_of_ble_eq_true rfl), (Nat.le_of_ble_eq_true rfl)⟩ rfl rfl rfl (Nat.le_of_ble_eq_true rfl) (Nat.le_of_ble_eq_true rfl) (Nat.le_of_ble_eq_true rfl) ?_
    refine o_if_eq (tgt := 267) dX5_isDone_250 (by decide) (fun c_250 => ?_) (fun c_250 => ?_)
    · have q1 := bI_0.mp c_250
      refine o_iconst dX5_isDone_267 ic_0 ?_
      refine o_iret dX5_isDone_268 rfl (by first | exact nz_b _ | decide) (Nat.le_of_ble_eq_true rfl) (Nat.le_of_ble_eq_true rfl) ?_
      exact DNP.no (by rw [ed, q1]; rfl)
    · have q1 := bI_ne c_250
      refine o_aload_n dX5_isDone_253 rfl rfl ?_
      refine o_getf (j := 0) dX5_isDone_254 rfl hcX5 inX5 (Nat.le_of_ble_eq_true rfl) wd686 rfl rfl ?_
      refine o_iconst dX5_isDone_257 ic_2 ?_
      refine o_ialp (i := 2) dX5_isDone_258 rfl (rfl) (by decide) ?_
      refine o_iload_n dX5_isDone_259 rfl rfl ?_
      refine o_iadd dX5_isDone_260 ?_
      refine o_sipush dX5_isDone_261 sp_999 ?_
      refine o_icmp_le (tgt := 269) dX5_isDone_264 (by decide) (fun c_264 => ?_) (fun c_264 => ?_)
      · have q3 : ¬ 999 < r 2 + nu 0 := Int32.not_lt.mpr c_264
        have q2 := q1
        simp only [isInB, Bool.and_eq_true, Bool.not_eq_true', decide_eq_false_iff_not] at q2
        obtain ⟨q, hq1, hq, e⟩ := rng1 (b := 60) (by omega) q2.1 q2.2
        have ec : cN (nu 0) = q := by rw [e]; exact cN_nI (by omega)
        refine o_eql (ls2 := [some (.ref 0), some (.int c), some (.int (nI q)), some (.int (nu 1))]) (by rw [e]) ?_
        refine o_aload_n dX5_isDone_269 rfl rfl ?_
        refine o_aload_n dX5_isDone_270 rfl rfl ?_
        refine o_getf (j := 0) dX5_isDone_271 rfl hcX5 inX5 (Nat.le_of_ble_eq_true rfl) wd686 rfl rfl ?_
        refine o_iload_n dX5_isDone_274 rfl rfl ?_
        refine o_callVd (is := [0, 1, 2, 3, 4, 5, 6, 7, 8, 9]) (tX5_hoursOn_s hS.1 (by have := hS.2.2.1; omega)) ⟨rfl, rfl⟩ dX5_isDone_275 wd797 cvX5_hoursOn rfl ⟨(Nat.le_of_ble_eq_true rfl), (Nat.le_of_ble_eq_true rfl)⟩ hcX5 rfl rfl rfl rfl (Nat.le_of_ble_eq_true rfl) (Nat.le_of_ble_eq_true rfl) (Nat.le_of_ble_eq_true rfl) rfl ?_
        refine o_iconst dX5_isDone_278 ic_1 ?_
        refine o_iret dX5_isDone_279 rfl (by first | exact nz_b _ | decide) (Nat.le_of_ble_eq_true rfl) (Nat.le_of_ble_eq_true rfl) ?_
        exact DNP.yes (by rw [ed, q1, decide_eq_false q3, ec]; rfl)
      · have q3 : 999 < r 2 + nu 0 := Int32.not_le.mp c_264
        refine o_iconst dX5_isDone_267 ic_0 ?_
        refine o_iret dX5_isDone_268 rfl (by first | exact nz_b _ | decide) (Nat.le_of_ble_eq_true rfl) (Nat.le_of_ble_eq_true rfl) ?_
        exact DNP.no (by rw [ed, q1, decide_eq_true q3]; rfl)
  · match j, hj, hsw with
    | 0, _, hsw =>
      refine o_tabInE (tgt := 108) (off := 93) dX5_isDone_15 hsw (by decide) (by decide) (by decide) (by decide) ?_
      have hsw := sw_eq (l := 100) hsw (by decide)
      subst hsw
      refine o_aload_n dX5_isDone_108 rfl rfl ?_
      refine o_callV (is := [0, 1, 2, 3, 4, 5, 6, 7, 8, 9]) (tX5_addsDoor hS) ⟨rfl, rfl⟩ dX5_isDone_109 wd770 cvX5_addsDoor rfl ⟨(Nat.le_of_ble_eq_true rfl), (Nat.le_of_ble_eq_true rfl)⟩ hcX5 rfl rfl rfl rfl (Nat.le_of_ble_eq_true rfl) (Nat.le_of_ble_eq_true rfl) (Nat.le_of_ble_eq_true rfl) (fun ra wb hq hqn => ?_)
      obtain ⟨rfl, fr2, rfl⟩ := hq
      refine o_iret dX5_isDone_112 rfl (by first | exact nz_b _ | decide) (Nat.le_of_ble_eq_true rfl) (Nat.le_of_ble_eq_true rfl) ?_
      exact ⟨rfl, _, rfl⟩
    | 1, _, hsw =>
      refine o_tabInE (tgt := 243) (off := 228) dX5_isDone_15 hsw (by decide) (by decide) (by decide) (by decide) ?_
      have hsw := sw_eq (l := 101) hsw (by decide)
      have ed : dnS c nu r = (if isInB (nu 0) 1 60 && !decide (999 < r 2 + nu 0) then some (hrs r (cN (nu 0))) else none) := by first | (subst hsw; rfl) | (rw [dnS, if_neg (sw_ne hsw 100 (by decide)), if_neg (sw_ne hsw 112 (by decide)), if_neg (sw_ne hsw 103 (by decide)), if_neg (sw_ne hsw 114 (by decide)), if_neg (sw_ne hsw 119 (by decide)), if_neg (sw_ne hsw 116 (by decide))])
      refine o_iload_n dX5_isDone_243 rfl rfl ?_
      refine o_iconst dX5_isDone_244 ic_1 ?_
      refine o_bipush dX5_isDone_245 bp_60 ?_
      refine o_callSr (is := []) (tX5_isIn) ⟨rfl, rfl⟩ dX5_isDone_247 wd760 csX5_isIn rfl ⟨(Nat.le_of_ble_eq_true rfl), (Nat.le_of_ble_eq_true rfl)⟩ rfl rfl rfl (Nat.le_of_ble_eq_true rfl) (Nat.le_of_ble_eq_true rfl) (Nat.le_of_ble_eq_true rfl) ?_
      refine o_if_eq (tgt := 267) dX5_isDone_250 (by decide) (fun c_250 => ?_) (fun c_250 => ?_)
      · have q1 := bI_0.mp c_250
        refine o_iconst dX5_isDone_267 ic_0 ?_
        refine o_iret dX5_isDone_268 rfl (by first | exact nz_b _ | decide) (Nat.le_of_ble_eq_true rfl) (Nat.le_of_ble_eq_true rfl) ?_
        exact DNP.no (by rw [ed, q1]; rfl)
      · have q1 := bI_ne c_250
        refine o_aload_n dX5_isDone_253 rfl rfl ?_
        refine o_getf (j := 0) dX5_isDone_254 rfl hcX5 inX5 (Nat.le_of_ble_eq_true rfl) wd686 rfl rfl ?_
        refine o_iconst dX5_isDone_257 ic_2 ?_
        refine o_ialp (i := 2) dX5_isDone_258 rfl (rfl) (by decide) ?_
        refine o_iload_n dX5_isDone_259 rfl rfl ?_
        refine o_iadd dX5_isDone_260 ?_
        refine o_sipush dX5_isDone_261 sp_999 ?_
        refine o_icmp_le (tgt := 269) dX5_isDone_264 (by decide) (fun c_264 => ?_) (fun c_264 => ?_)
        · have q3 : ¬ 999 < r 2 + nu 0 := Int32.not_lt.mpr c_264
          have q2 := q1
          simp only [isInB, Bool.and_eq_true, Bool.not_eq_true', decide_eq_false_iff_not] at q2
          obtain ⟨q, hq1, hq, e⟩ := rng1 (b := 60) (by omega) q2.1 q2.2
          have ec : cN (nu 0) = q := by rw [e]; exact cN_nI (by omega)
          refine o_eql (ls2 := [some (.ref 0), some (.int c), some (.int (nI q)), some (.int (nu 1))]) (by rw [e]) ?_
          refine o_aload_n dX5_isDone_269 rfl rfl ?_
          refine o_aload_n dX5_isDone_270 rfl rfl ?_
          refine o_getf (j := 0) dX5_isDone_271 rfl hcX5 inX5 (Nat.le_of_ble_eq_true rfl) wd686 rfl rfl ?_
          refine o_iload_n dX5_isDone_274 rfl rfl ?_
          refine o_callVd (is := [0, 1, 2, 3, 4, 5, 6, 7, 8, 9]) (tX5_hoursOn_s hS.1 (by have := hS.2.2.1; omega)) ⟨rfl, rfl⟩ dX5_isDone_275 wd797 cvX5_hoursOn rfl ⟨(Nat.le_of_ble_eq_true rfl), (Nat.le_of_ble_eq_true rfl)⟩ hcX5 rfl rfl rfl rfl (Nat.le_of_ble_eq_true rfl) (Nat.le_of_ble_eq_true rfl) (Nat.le_of_ble_eq_true rfl) rfl ?_
          refine o_iconst dX5_isDone_278 ic_1 ?_
          refine o_iret dX5_isDone_279 rfl (by first | exact nz_b _ | decide) (Nat.le_of_ble_eq_true rfl) (Nat.le_of_ble_eq_true rfl) ?_
          exact DNP.yes (by rw [ed, q1, decide_eq_false q3, ec]; rfl)
        · have q3 : 999 < r 2 + nu 0 := Int32.not_le.mp c_264
          refine o_iconst dX5_isDone_267 ic_0 ?_
          refine o_iret dX5_isDone_268 rfl (by first | exact nz_b _ | decide) (Nat.le_of_ble_eq_true rfl) (Nat.le_of_ble_eq_true rfl) ?_
          exact DNP.no (by rw [ed, q1, decide_eq_true q3]; rfl)
    | 2, _, hsw =>
      refine o_tabInE (tgt := 243) (off := 228) dX5_isDone_15 hsw (by decide) (by decide) (by decide) (by decide) ?_
      have hsw := sw_eq (l := 102) hsw (by decide)
      have ed : dnS c nu r = (if isInB (nu 0) 1 60 && !decide (999 < r 2 + nu 0) then some (hrs r (cN (nu 0))) else none) := by first | (subst hsw; rfl) | (rw [dnS, if_neg (sw_ne hsw 100 (by decide)), if_neg (sw_ne hsw 112 (by decide)), if_neg (sw_ne hsw 103 (by decide)), if_neg (sw_ne hsw 114 (by decide)), if_neg (sw_ne hsw 119 (by decide)), if_neg (sw_ne hsw 116 (by decide))])
      refine o_iload_n dX5_isDone_243 rfl rfl ?_
      refine o_iconst dX5_isDone_244 ic_1 ?_
      refine o_bipush dX5_isDone_245 bp_60 ?_
      refine o_callSr (is := []) (tX5_isIn) ⟨rfl, rfl⟩ dX5_isDone_247 wd760 csX5_isIn rfl ⟨(Nat.le_of_ble_eq_true rfl), (Nat.le_of_ble_eq_true rfl)⟩ rfl rfl rfl (Nat.le_of_ble_eq_true rfl) (Nat.le_of_ble_eq_true rfl) (Nat.le_of_ble_eq_true rfl) ?_
      refine o_if_eq (tgt := 267) dX5_isDone_250 (by decide) (fun c_250 => ?_) (fun c_250 => ?_)
      · have q1 := bI_0.mp c_250
        refine o_iconst dX5_isDone_267 ic_0 ?_
        refine o_iret dX5_isDone_268 rfl (by first | exact nz_b _ | decide) (Nat.le_of_ble_eq_true rfl) (Nat.le_of_ble_eq_true rfl) ?_
        exact DNP.no (by rw [ed, q1]; rfl)
      · have q1 := bI_ne c_250
        refine o_aload_n dX5_isDone_253 rfl rfl ?_
        refine o_getf (j := 0) dX5_isDone_254 rfl hcX5 inX5 (Nat.le_of_ble_eq_true rfl) wd686 rfl rfl ?_
        refine o_iconst dX5_isDone_257 ic_2 ?_
        refine o_ialp (i := 2) dX5_isDone_258 rfl (rfl) (by decide) ?_
        refine o_iload_n dX5_isDone_259 rfl rfl ?_
        refine o_iadd dX5_isDone_260 ?_
        refine o_sipush dX5_isDone_261 sp_999 ?_
        refine o_icmp_le (tgt := 269) dX5_isDone_264 (by decide) (fun c_264 => ?_) (fun c_264 => ?_)
        · have q3 : ¬ 999 < r 2 + nu 0 := Int32.not_lt.mpr c_264
          have q2 := q1
          simp only [isInB, Bool.and_eq_true, Bool.not_eq_true', decide_eq_false_iff_not] at q2
          obtain ⟨q, hq1, hq, e⟩ := rng1 (b := 60) (by omega) q2.1 q2.2
          have ec : cN (nu 0) = q := by rw [e]; exact cN_nI (by omega)
          refine o_eql (ls2 := [some (.ref 0), some (.int c), some (.int (nI q)), some (.int (nu 1))]) (by rw [e]) ?_
          refine o_aload_n dX5_isDone_269 rfl rfl ?_
          refine o_aload_n dX5_isDone_270 rfl rfl ?_
          refine o_getf (j := 0) dX5_isDone_271 rfl hcX5 inX5 (Nat.le_of_ble_eq_true rfl) wd686 rfl rfl ?_
          refine o_iload_n dX5_isDone_274 rfl rfl ?_
          refine o_callVd (is := [0, 1, 2, 3, 4, 5, 6, 7, 8, 9]) (tX5_hoursOn_s hS.1 (by have := hS.2.2.1; omega)) ⟨rfl, rfl⟩ dX5_isDone_275 wd797 cvX5_hoursOn rfl ⟨(Nat.le_of_ble_eq_true rfl), (Nat.le_of_ble_eq_true rfl)⟩ hcX5 rfl rfl rfl rfl (Nat.le_of_ble_eq_true rfl) (Nat.le_of_ble_eq_true rfl) (Nat.le_of_ble_eq_true rfl) rfl ?_
          refine o_iconst dX5_isDone_278 ic_1 ?_
          refine o_iret dX5_isDone_279 rfl (by first | exact nz_b _ | decide) (Nat.le_of_ble_eq_true rfl) (Nat.le_of_ble_eq_true rfl) ?_
          exact DNP.yes (by rw [ed, q1, decide_eq_false q3, ec]; rfl)
        · have q3 : 999 < r 2 + nu 0 := Int32.not_le.mp c_264
          refine o_iconst dX5_isDone_267 ic_0 ?_
          refine o_iret dX5_isDone_268 rfl (by first | exact nz_b _ | decide) (Nat.le_of_ble_eq_true rfl) (Nat.le_of_ble_eq_true rfl) ?_
          exact DNP.no (by rw [ed, q1, decide_eq_true q3]; rfl)
    | 3, _, hsw =>
      refine o_tabInE (tgt := 157) (off := 142) dX5_isDone_15 hsw (by decide) (by decide) (by decide) (by decide) ?_
      have hsw := sw_eq (l := 103) hsw (by decide)
      subst hsw
      refine o_aload_n dX5_isDone_157 rfl rfl ?_
      refine o_iload_n dX5_isDone_158 rfl rfl ?_
      refine o_callVr (is := [0, 1, 2, 3, 4, 5, 6, 7, 8, 9]) (tX5_isPerson hS) ⟨rfl, rfl⟩ dX5_isDone_159 wd786 cvX5_isPerson rfl ⟨(Nat.le_of_ble_eq_true rfl), (Nat.le_of_ble_eq_true rfl)⟩ hcX5 rfl rfl rfl rfl (Nat.le_of_ble_eq_true rfl) (Nat.le_of_ble_eq_true rfl) (Nat.le_of_ble_eq_true rfl) ?_
      refine o_if_eq (tgt := 172) dX5_isDone_162 (by decide) (fun c_162 => ?_) (fun c_162 => ?_)
      · have hno := bI_0.mp c_162
        refine o_iconst dX5_isDone_172 ic_0 ?_
        refine o_iret dX5_isDone_173 rfl (by first | exact nz_b _ | decide) (Nat.le_of_ble_eq_true rfl) (Nat.le_of_ble_eq_true rfl) ?_
        exact DNP.no (by rw [dnS_103, hno]; rfl)
      · obtain ⟨d, hd, e⟩ := inR_yes (by have := hS.d9; have := hS.n6; omega) (bI_ne c_162)
        have h9 := hS.d9
        have h6 := hS.n6
        have ec : cN (nu 0) = d := by rw [e]; exact cN_nI (by omega)
        have hin : inR (nN r) (nu 0) = true := bI_ne c_162
        refine o_eql (ls2 := [some (.ref 0), some (.int 103), some (.int (nI d)), some (.int (nu 1))]) (by rw [e]) ?_
        refine o_iload_n dX5_isDone_165 rfl rfl ?_
        refine o_callSr (is := []) (tX5_isRoom) ⟨rfl, rfl⟩ dX5_isDone_166 wd774 csX5_isRoom rfl ⟨(Nat.le_of_ble_eq_true rfl), (Nat.le_of_ble_eq_true rfl)⟩ rfl rfl rfl (Nat.le_of_ble_eq_true rfl) (Nat.le_of_ble_eq_true rfl) (Nat.le_of_ble_eq_true rfl) ?_
        refine o_if_ne (tgt := 174) dX5_isDone_169 (by decide) (fun c_169 => ?_) (fun c_169 => ?_)
        · have q_169 : inR 8 (nu 1) = true := by rw [← isInB_eq 7 (by omega)]; exact bI_ne c_169
          refine o_aload_n dX5_isDone_174 rfl rfl ?_
          refine o_getf (j := 0) dX5_isDone_175 rfl hcX5 inX5 (Nat.le_of_ble_eq_true rfl) wd686 rfl rfl ?_
          refine o_iload_n dX5_isDone_178 rfl rfl ?_
          refine o_iload_n dX5_isDone_179 rfl rfl ?_
          refine o_bipush dX5_isDone_180 bp_103 ?_
          refine o_icmp_ne (tgt := 189) dX5_isDone_182 (by decide) (fun c_182 => ?_) (fun c_182 => ?_)
          · exact absurd rfl c_182
          · skip
            refine o_iconst dX5_isDone_185 ic_1 ?_
            refine o_goto (tgt := 190) dX5_isDone_186 (by decide) ?_
            refine o_callSr (is := []) (ofP1) ⟨rfl, rfl⟩ dX5_isDone_190 wd783 csX5_ofP rfl ⟨(Nat.le_of_ble_eq_true rfl), (Nat.le_of_ble_eq_true rfl)⟩ rfl rfl rfl (Nat.le_of_ble_eq_true rfl) (Nat.le_of_ble_eq_true rfl) (Nat.le_of_ble_eq_true rfl) ?_
            refine o_iload_n dX5_isDone_193 rfl rfl ?_
            refine o_iasp (i := 51 + 3 * d) dX5_isDone_194 rfl (rfl) (by omega) rfl ?_
            refine o_iconst dX5_isDone_195 ic_1 ?_
            refine o_iret dX5_isDone_196 rfl (by first | exact nz_b _ | decide) (Nat.le_of_ble_eq_true rfl) (Nat.le_of_ble_eq_true rfl) ?_
            exact DNP.yes (by rw [dnS_103, hin, q_169, ec]; rfl)
        · have q_169 : inR 8 (nu 1) = false := by rw [← isInB_eq 7 (by omega)]; exact bI_0.mp c_169
          refine o_iconst dX5_isDone_172 ic_0 ?_
          refine o_iret dX5_isDone_173 rfl (by first | exact nz_b _ | decide) (Nat.le_of_ble_eq_true rfl) (Nat.le_of_ble_eq_true rfl) ?_
          exact DNP.no (by rw [dnS_103, hin, q_169]; rfl)
    | 4, _, hsw =>
      refine o_tabInE (tgt := 243) (off := 228) dX5_isDone_15 hsw (by decide) (by decide) (by decide) (by decide) ?_
      have hsw := sw_eq (l := 104) hsw (by decide)
      have ed : dnS c nu r = (if isInB (nu 0) 1 60 && !decide (999 < r 2 + nu 0) then some (hrs r (cN (nu 0))) else none) := by first | (subst hsw; rfl) | (rw [dnS, if_neg (sw_ne hsw 100 (by decide)), if_neg (sw_ne hsw 112 (by decide)), if_neg (sw_ne hsw 103 (by decide)), if_neg (sw_ne hsw 114 (by decide)), if_neg (sw_ne hsw 119 (by decide)), if_neg (sw_ne hsw 116 (by decide))])
      refine o_iload_n dX5_isDone_243 rfl rfl ?_
      refine o_iconst dX5_isDone_244 ic_1 ?_
      refine o_bipush dX5_isDone_245 bp_60 ?_
      refine o_callSr (is := []) (tX5_isIn) ⟨rfl, rfl⟩ dX5_isDone_247 wd760 csX5_isIn rfl ⟨(Nat.le_of_ble_eq_true rfl), (Nat.le_of_ble_eq_true rfl)⟩ rfl rfl rfl (Nat.le_of_ble_eq_true rfl) (Nat.le_of_ble_eq_true rfl) (Nat.le_of_ble_eq_true rfl) ?_
      refine o_if_eq (tgt := 267) dX5_isDone_250 (by decide) (fun c_250 => ?_) (fun c_250 => ?_)
      · have q1 := bI_0.mp c_250
        refine o_iconst dX5_isDone_267 ic_0 ?_
        refine o_iret dX5_isDone_268 rfl (by first | exact nz_b _ | decide) (Nat.le_of_ble_eq_true rfl) (Nat.le_of_ble_eq_true rfl) ?_
        exact DNP.no (by rw [ed, q1]; rfl)
      · have q1 := bI_ne c_250
        refine o_aload_n dX5_isDone_253 rfl rfl ?_
        refine o_getf (j := 0) dX5_isDone_254 rfl hcX5 inX5 (Nat.le_of_ble_eq_true rfl) wd686 rfl rfl ?_
        refine o_iconst dX5_isDone_257 ic_2 ?_
        refine o_ialp (i := 2) dX5_isDone_258 rfl (rfl) (by decide) ?_
        refine o_iload_n dX5_isDone_259 rfl rfl ?_
        refine o_iadd dX5_isDone_260 ?_
        refine o_sipush dX5_isDone_261 sp_999 ?_
        refine o_icmp_le (tgt := 269) dX5_isDone_264 (by decide) (fun c_264 => ?_) (fun c_264 => ?_)
        · have q3 : ¬ 999 < r 2 + nu 0 := Int32.not_lt.mpr c_264
          have q2 := q1
          simp only [isInB, Bool.and_eq_true, Bool.not_eq_true', decide_eq_false_iff_not] at q2
          obtain ⟨q, hq1, hq, e⟩ := rng1 (b := 60) (by omega) q2.1 q2.2
          have ec : cN (nu 0) = q := by rw [e]; exact cN_nI (by omega)
          refine o_eql (ls2 := [some (.ref 0), some (.int c), some (.int (nI q)), some (.int (nu 1))]) (by rw [e]) ?_
          refine o_aload_n dX5_isDone_269 rfl rfl ?_
          refine o_aload_n dX5_isDone_270 rfl rfl ?_
          refine o_getf (j := 0) dX5_isDone_271 rfl hcX5 inX5 (Nat.le_of_ble_eq_true rfl) wd686 rfl rfl ?_
          refine o_iload_n dX5_isDone_274 rfl rfl ?_
          refine o_callVd (is := [0, 1, 2, 3, 4, 5, 6, 7, 8, 9]) (tX5_hoursOn_s hS.1 (by have := hS.2.2.1; omega)) ⟨rfl, rfl⟩ dX5_isDone_275 wd797 cvX5_hoursOn rfl ⟨(Nat.le_of_ble_eq_true rfl), (Nat.le_of_ble_eq_true rfl)⟩ hcX5 rfl rfl rfl rfl (Nat.le_of_ble_eq_true rfl) (Nat.le_of_ble_eq_true rfl) (Nat.le_of_ble_eq_true rfl) rfl ?_
          refine o_iconst dX5_isDone_278 ic_1 ?_
          refine o_iret dX5_isDone_279 rfl (by first | exact nz_b _ | decide) (Nat.le_of_ble_eq_true rfl) (Nat.le_of_ble_eq_true rfl) ?_
          exact DNP.yes (by rw [ed, q1, decide_eq_false q3, ec]; rfl)
        · have q3 : 999 < r 2 + nu 0 := Int32.not_le.mp c_264
          refine o_iconst dX5_isDone_267 ic_0 ?_
          refine o_iret dX5_isDone_268 rfl (by first | exact nz_b _ | decide) (Nat.le_of_ble_eq_true rfl) (Nat.le_of_ble_eq_true rfl) ?_
          exact DNP.no (by rw [ed, q1, decide_eq_true q3]; rfl)
    | 5, _, hsw =>
      refine o_tabInE (tgt := 243) (off := 228) dX5_isDone_15 hsw (by decide) (by decide) (by decide) (by decide) ?_
      have hsw := sw_eq (l := 105) hsw (by decide)
      have ed : dnS c nu r = (if isInB (nu 0) 1 60 && !decide (999 < r 2 + nu 0) then some (hrs r (cN (nu 0))) else none) := by first | (subst hsw; rfl) | (rw [dnS, if_neg (sw_ne hsw 100 (by decide)), if_neg (sw_ne hsw 112 (by decide)), if_neg (sw_ne hsw 103 (by decide)), if_neg (sw_ne hsw 114 (by decide)), if_neg (sw_ne hsw 119 (by decide)), if_neg (sw_ne hsw 116 (by decide))])
      refine o_iload_n dX5_isDone_243 rfl rfl ?_
      refine o_iconst dX5_isDone_244 ic_1 ?_
      refine o_bipush dX5_isDone_245 bp_60 ?_
      refine o_callSr (is := []) (tX5_isIn) ⟨rfl, rfl⟩ dX5_isDone_247 wd760 csX5_isIn rfl ⟨(Nat.le_of_ble_eq_true rfl), (Nat.le_of_ble_eq_true rfl)⟩ rfl rfl rfl (Nat.le_of_ble_eq_true rfl) (Nat.le_of_ble_eq_true rfl) (Nat.le_of_ble_eq_true rfl) ?_
      refine o_if_eq (tgt := 267) dX5_isDone_250 (by decide) (fun c_250 => ?_) (fun c_250 => ?_)
      · have q1 := bI_0.mp c_250
        refine o_iconst dX5_isDone_267 ic_0 ?_
        refine o_iret dX5_isDone_268 rfl (by first | exact nz_b _ | decide) (Nat.le_of_ble_eq_true rfl) (Nat.le_of_ble_eq_true rfl) ?_
        exact DNP.no (by rw [ed, q1]; rfl)
      · have q1 := bI_ne c_250
        refine o_aload_n dX5_isDone_253 rfl rfl ?_
        refine o_getf (j := 0) dX5_isDone_254 rfl hcX5 inX5 (Nat.le_of_ble_eq_true rfl) wd686 rfl rfl ?_
        refine o_iconst dX5_isDone_257 ic_2 ?_
        refine o_ialp (i := 2) dX5_isDone_258 rfl (rfl) (by decide) ?_
        refine o_iload_n dX5_isDone_259 rfl rfl ?_
        refine o_iadd dX5_isDone_260 ?_
        refine o_sipush dX5_isDone_261 sp_999 ?_
        refine o_icmp_le (tgt := 269) dX5_isDone_264 (by decide) (fun c_264 => ?_) (fun c_264 => ?_)
        · have q3 : ¬ 999 < r 2 + nu 0 := Int32.not_lt.mpr c_264
          have q2 := q1
          simp only [isInB, Bool.and_eq_true, Bool.not_eq_true', decide_eq_false_iff_not] at q2
          obtain ⟨q, hq1, hq, e⟩ := rng1 (b := 60) (by omega) q2.1 q2.2
          have ec : cN (nu 0) = q := by rw [e]; exact cN_nI (by omega)
          refine o_eql (ls2 := [some (.ref 0), some (.int c), some (.int (nI q)), some (.int (nu 1))]) (by rw [e]) ?_
          refine o_aload_n dX5_isDone_269 rfl rfl ?_
          refine o_aload_n dX5_isDone_270 rfl rfl ?_
          refine o_getf (j := 0) dX5_isDone_271 rfl hcX5 inX5 (Nat.le_of_ble_eq_true rfl) wd686 rfl rfl ?_
          refine o_iload_n dX5_isDone_274 rfl rfl ?_
          refine o_callVd (is := [0, 1, 2, 3, 4, 5, 6, 7, 8, 9]) (tX5_hoursOn_s hS.1 (by have := hS.2.2.1; omega)) ⟨rfl, rfl⟩ dX5_isDone_275 wd797 cvX5_hoursOn rfl ⟨(Nat.le_of_ble_eq_true rfl), (Nat.le_of_ble_eq_true rfl)⟩ hcX5 rfl rfl rfl rfl (Nat.le_of_ble_eq_true rfl) (Nat.le_of_ble_eq_true rfl) (Nat.le_of_ble_eq_true rfl) rfl ?_
          refine o_iconst dX5_isDone_278 ic_1 ?_
          refine o_iret dX5_isDone_279 rfl (by first | exact nz_b _ | decide) (Nat.le_of_ble_eq_true rfl) (Nat.le_of_ble_eq_true rfl) ?_
          exact DNP.yes (by rw [ed, q1, decide_eq_false q3, ec]; rfl)
        · have q3 : 999 < r 2 + nu 0 := Int32.not_le.mp c_264
          refine o_iconst dX5_isDone_267 ic_0 ?_
          refine o_iret dX5_isDone_268 rfl (by first | exact nz_b _ | decide) (Nat.le_of_ble_eq_true rfl) (Nat.le_of_ble_eq_true rfl) ?_
          exact DNP.no (by rw [ed, q1, decide_eq_true q3]; rfl)
    | 6, _, hsw =>
      refine o_tabInE (tgt := 243) (off := 228) dX5_isDone_15 hsw (by decide) (by decide) (by decide) (by decide) ?_
      have hsw := sw_eq (l := 106) hsw (by decide)
      have ed : dnS c nu r = (if isInB (nu 0) 1 60 && !decide (999 < r 2 + nu 0) then some (hrs r (cN (nu 0))) else none) := by first | (subst hsw; rfl) | (rw [dnS, if_neg (sw_ne hsw 100 (by decide)), if_neg (sw_ne hsw 112 (by decide)), if_neg (sw_ne hsw 103 (by decide)), if_neg (sw_ne hsw 114 (by decide)), if_neg (sw_ne hsw 119 (by decide)), if_neg (sw_ne hsw 116 (by decide))])
      refine o_iload_n dX5_isDone_243 rfl rfl ?_
      refine o_iconst dX5_isDone_244 ic_1 ?_
      refine o_bipush dX5_isDone_245 bp_60 ?_
      refine o_callSr (is := []) (tX5_isIn) ⟨rfl, rfl⟩ dX5_isDone_247 wd760 csX5_isIn rfl ⟨(Nat.le_of_ble_eq_true rfl), (Nat.le_of_ble_eq_true rfl)⟩ rfl rfl rfl (Nat.le_of_ble_eq_true rfl) (Nat.le_of_ble_eq_true rfl) (Nat.le_of_ble_eq_true rfl) ?_
      refine o_if_eq (tgt := 267) dX5_isDone_250 (by decide) (fun c_250 => ?_) (fun c_250 => ?_)
      · have q1 := bI_0.mp c_250
        refine o_iconst dX5_isDone_267 ic_0 ?_
        refine o_iret dX5_isDone_268 rfl (by first | exact nz_b _ | decide) (Nat.le_of_ble_eq_true rfl) (Nat.le_of_ble_eq_true rfl) ?_
        exact DNP.no (by rw [ed, q1]; rfl)
      · have q1 := bI_ne c_250
        refine o_aload_n dX5_isDone_253 rfl rfl ?_
        refine o_getf (j := 0) dX5_isDone_254 rfl hcX5 inX5 (Nat.le_of_ble_eq_true rfl) wd686 rfl rfl ?_
        refine o_iconst dX5_isDone_257 ic_2 ?_
        refine o_ialp (i := 2) dX5_isDone_258 rfl (rfl) (by decide) ?_
        refine o_iload_n dX5_isDone_259 rfl rfl ?_
        refine o_iadd dX5_isDone_260 ?_
        refine o_sipush dX5_isDone_261 sp_999 ?_
        refine o_icmp_le (tgt := 269) dX5_isDone_264 (by decide) (fun c_264 => ?_) (fun c_264 => ?_)
        · have q3 : ¬ 999 < r 2 + nu 0 := Int32.not_lt.mpr c_264
          have q2 := q1
          simp only [isInB, Bool.and_eq_true, Bool.not_eq_true', decide_eq_false_iff_not] at q2
          obtain ⟨q, hq1, hq, e⟩ := rng1 (b := 60) (by omega) q2.1 q2.2
          have ec : cN (nu 0) = q := by rw [e]; exact cN_nI (by omega)
          refine o_eql (ls2 := [some (.ref 0), some (.int c), some (.int (nI q)), some (.int (nu 1))]) (by rw [e]) ?_
          refine o_aload_n dX5_isDone_269 rfl rfl ?_
          refine o_aload_n dX5_isDone_270 rfl rfl ?_
          refine o_getf (j := 0) dX5_isDone_271 rfl hcX5 inX5 (Nat.le_of_ble_eq_true rfl) wd686 rfl rfl ?_
          refine o_iload_n dX5_isDone_274 rfl rfl ?_
          refine o_callVd (is := [0, 1, 2, 3, 4, 5, 6, 7, 8, 9]) (tX5_hoursOn_s hS.1 (by have := hS.2.2.1; omega)) ⟨rfl, rfl⟩ dX5_isDone_275 wd797 cvX5_hoursOn rfl ⟨(Nat.le_of_ble_eq_true rfl), (Nat.le_of_ble_eq_true rfl)⟩ hcX5 rfl rfl rfl rfl (Nat.le_of_ble_eq_true rfl) (Nat.le_of_ble_eq_true rfl) (Nat.le_of_ble_eq_true rfl) rfl ?_
          refine o_iconst dX5_isDone_278 ic_1 ?_
          refine o_iret dX5_isDone_279 rfl (by first | exact nz_b _ | decide) (Nat.le_of_ble_eq_true rfl) (Nat.le_of_ble_eq_true rfl) ?_
          exact DNP.yes (by rw [ed, q1, decide_eq_false q3, ec]; rfl)
        · have q3 : 999 < r 2 + nu 0 := Int32.not_le.mp c_264
          refine o_iconst dX5_isDone_267 ic_0 ?_
          refine o_iret dX5_isDone_268 rfl (by first | exact nz_b _ | decide) (Nat.le_of_ble_eq_true rfl) (Nat.le_of_ble_eq_true rfl) ?_
          exact DNP.no (by rw [ed, q1, decide_eq_true q3]; rfl)
    | 7, _, hsw =>
      refine o_tabInE (tgt := 243) (off := 228) dX5_isDone_15 hsw (by decide) (by decide) (by decide) (by decide) ?_
      have hsw := sw_eq (l := 107) hsw (by decide)
      have ed : dnS c nu r = (if isInB (nu 0) 1 60 && !decide (999 < r 2 + nu 0) then some (hrs r (cN (nu 0))) else none) := by first | (subst hsw; rfl) | (rw [dnS, if_neg (sw_ne hsw 100 (by decide)), if_neg (sw_ne hsw 112 (by decide)), if_neg (sw_ne hsw 103 (by decide)), if_neg (sw_ne hsw 114 (by decide)), if_neg (sw_ne hsw 119 (by decide)), if_neg (sw_ne hsw 116 (by decide))])
      refine o_iload_n dX5_isDone_243 rfl rfl ?_
      refine o_iconst dX5_isDone_244 ic_1 ?_
      refine o_bipush dX5_isDone_245 bp_60 ?_
      refine o_callSr (is := []) (tX5_isIn) ⟨rfl, rfl⟩ dX5_isDone_247 wd760 csX5_isIn rfl ⟨(Nat.le_of_ble_eq_true rfl), (Nat.le_of_ble_eq_true rfl)⟩ rfl rfl rfl (Nat.le_of_ble_eq_true rfl) (Nat.le_of_ble_eq_true rfl) (Nat.le_of_ble_eq_true rfl) ?_
      refine o_if_eq (tgt := 267) dX5_isDone_250 (by decide) (fun c_250 => ?_) (fun c_250 => ?_)
      · have q1 := bI_0.mp c_250
        refine o_iconst dX5_isDone_267 ic_0 ?_
        refine o_iret dX5_isDone_268 rfl (by first | exact nz_b _ | decide) (Nat.le_of_ble_eq_true rfl) (Nat.le_of_ble_eq_true rfl) ?_
        exact DNP.no (by rw [ed, q1]; rfl)
      · have q1 := bI_ne c_250
        refine o_aload_n dX5_isDone_253 rfl rfl ?_
        refine o_getf (j := 0) dX5_isDone_254 rfl hcX5 inX5 (Nat.le_of_ble_eq_true rfl) wd686 rfl rfl ?_
        refine o_iconst dX5_isDone_257 ic_2 ?_
        refine o_ialp (i := 2) dX5_isDone_258 rfl (rfl) (by decide) ?_
        refine o_iload_n dX5_isDone_259 rfl rfl ?_
        refine o_iadd dX5_isDone_260 ?_
        refine o_sipush dX5_isDone_261 sp_999 ?_
        refine o_icmp_le (tgt := 269) dX5_isDone_264 (by decide) (fun c_264 => ?_) (fun c_264 => ?_)
        · have q3 : ¬ 999 < r 2 + nu 0 := Int32.not_lt.mpr c_264
          have q2 := q1
          simp only [isInB, Bool.and_eq_true, Bool.not_eq_true', decide_eq_false_iff_not] at q2
          obtain ⟨q, hq1, hq, e⟩ := rng1 (b := 60) (by omega) q2.1 q2.2
          have ec : cN (nu 0) = q := by rw [e]; exact cN_nI (by omega)
          refine o_eql (ls2 := [some (.ref 0), some (.int c), some (.int (nI q)), some (.int (nu 1))]) (by rw [e]) ?_
          refine o_aload_n dX5_isDone_269 rfl rfl ?_
          refine o_aload_n dX5_isDone_270 rfl rfl ?_
          refine o_getf (j := 0) dX5_isDone_271 rfl hcX5 inX5 (Nat.le_of_ble_eq_true rfl) wd686 rfl rfl ?_
          refine o_iload_n dX5_isDone_274 rfl rfl ?_
          refine o_callVd (is := [0, 1, 2, 3, 4, 5, 6, 7, 8, 9]) (tX5_hoursOn_s hS.1 (by have := hS.2.2.1; omega)) ⟨rfl, rfl⟩ dX5_isDone_275 wd797 cvX5_hoursOn rfl ⟨(Nat.le_of_ble_eq_true rfl), (Nat.le_of_ble_eq_true rfl)⟩ hcX5 rfl rfl rfl rfl (Nat.le_of_ble_eq_true rfl) (Nat.le_of_ble_eq_true rfl) (Nat.le_of_ble_eq_true rfl) rfl ?_
          refine o_iconst dX5_isDone_278 ic_1 ?_
          refine o_iret dX5_isDone_279 rfl (by first | exact nz_b _ | decide) (Nat.le_of_ble_eq_true rfl) (Nat.le_of_ble_eq_true rfl) ?_
          exact DNP.yes (by rw [ed, q1, decide_eq_false q3, ec]; rfl)
        · have q3 : 999 < r 2 + nu 0 := Int32.not_le.mp c_264
          refine o_iconst dX5_isDone_267 ic_0 ?_
          refine o_iret dX5_isDone_268 rfl (by first | exact nz_b _ | decide) (Nat.le_of_ble_eq_true rfl) (Nat.le_of_ble_eq_true rfl) ?_
          exact DNP.no (by rw [ed, q1, decide_eq_true q3]; rfl)
    | 8, _, hsw =>
      refine o_tabInE (tgt := 243) (off := 228) dX5_isDone_15 hsw (by decide) (by decide) (by decide) (by decide) ?_
      have hsw := sw_eq (l := 108) hsw (by decide)
      have ed : dnS c nu r = (if isInB (nu 0) 1 60 && !decide (999 < r 2 + nu 0) then some (hrs r (cN (nu 0))) else none) := by first | (subst hsw; rfl) | (rw [dnS, if_neg (sw_ne hsw 100 (by decide)), if_neg (sw_ne hsw 112 (by decide)), if_neg (sw_ne hsw 103 (by decide)), if_neg (sw_ne hsw 114 (by decide)), if_neg (sw_ne hsw 119 (by decide)), if_neg (sw_ne hsw 116 (by decide))])
      refine o_iload_n dX5_isDone_243 rfl rfl ?_
      refine o_iconst dX5_isDone_244 ic_1 ?_
      refine o_bipush dX5_isDone_245 bp_60 ?_
      refine o_callSr (is := []) (tX5_isIn) ⟨rfl, rfl⟩ dX5_isDone_247 wd760 csX5_isIn rfl ⟨(Nat.le_of_ble_eq_true rfl), (Nat.le_of_ble_eq_true rfl)⟩ rfl rfl rfl (Nat.le_of_ble_eq_true rfl) (Nat.le_of_ble_eq_true rfl) (Nat.le_of_ble_eq_true rfl) ?_
      refine o_if_eq (tgt := 267) dX5_isDone_250 (by decide) (fun c_250 => ?_) (fun c_250 => ?_)
      · have q1 := bI_0.mp c_250
        refine o_iconst dX5_isDone_267 ic_0 ?_
        refine o_iret dX5_isDone_268 rfl (by first | exact nz_b _ | decide) (Nat.le_of_ble_eq_true rfl) (Nat.le_of_ble_eq_true rfl) ?_
        exact DNP.no (by rw [ed, q1]; rfl)
      · have q1 := bI_ne c_250
        refine o_aload_n dX5_isDone_253 rfl rfl ?_
        refine o_getf (j := 0) dX5_isDone_254 rfl hcX5 inX5 (Nat.le_of_ble_eq_true rfl) wd686 rfl rfl ?_
        refine o_iconst dX5_isDone_257 ic_2 ?_
        refine o_ialp (i := 2) dX5_isDone_258 rfl (rfl) (by decide) ?_
        refine o_iload_n dX5_isDone_259 rfl rfl ?_
        refine o_iadd dX5_isDone_260 ?_
        refine o_sipush dX5_isDone_261 sp_999 ?_
        refine o_icmp_le (tgt := 269) dX5_isDone_264 (by decide) (fun c_264 => ?_) (fun c_264 => ?_)
        · have q3 : ¬ 999 < r 2 + nu 0 := Int32.not_lt.mpr c_264
          have q2 := q1
          simp only [isInB, Bool.and_eq_true, Bool.not_eq_true', decide_eq_false_iff_not] at q2
          obtain ⟨q, hq1, hq, e⟩ := rng1 (b := 60) (by omega) q2.1 q2.2
          have ec : cN (nu 0) = q := by rw [e]; exact cN_nI (by omega)
          refine o_eql (ls2 := [some (.ref 0), some (.int c), some (.int (nI q)), some (.int (nu 1))]) (by rw [e]) ?_
          refine o_aload_n dX5_isDone_269 rfl rfl ?_
          refine o_aload_n dX5_isDone_270 rfl rfl ?_
          refine o_getf (j := 0) dX5_isDone_271 rfl hcX5 inX5 (Nat.le_of_ble_eq_true rfl) wd686 rfl rfl ?_
          refine o_iload_n dX5_isDone_274 rfl rfl ?_
          refine o_callVd (is := [0, 1, 2, 3, 4, 5, 6, 7, 8, 9]) (tX5_hoursOn_s hS.1 (by have := hS.2.2.1; omega)) ⟨rfl, rfl⟩ dX5_isDone_275 wd797 cvX5_hoursOn rfl ⟨(Nat.le_of_ble_eq_true rfl), (Nat.le_of_ble_eq_true rfl)⟩ hcX5 rfl rfl rfl rfl (Nat.le_of_ble_eq_true rfl) (Nat.le_of_ble_eq_true rfl) (Nat.le_of_ble_eq_true rfl) rfl ?_
          refine o_iconst dX5_isDone_278 ic_1 ?_
          refine o_iret dX5_isDone_279 rfl (by first | exact nz_b _ | decide) (Nat.le_of_ble_eq_true rfl) (Nat.le_of_ble_eq_true rfl) ?_
          exact DNP.yes (by rw [ed, q1, decide_eq_false q3, ec]; rfl)
        · have q3 : 999 < r 2 + nu 0 := Int32.not_le.mp c_264
          refine o_iconst dX5_isDone_267 ic_0 ?_
          refine o_iret dX5_isDone_268 rfl (by first | exact nz_b _ | decide) (Nat.le_of_ble_eq_true rfl) (Nat.le_of_ble_eq_true rfl) ?_
          exact DNP.no (by rw [ed, q1, decide_eq_true q3]; rfl)
    | 9, _, hsw =>
      refine o_tabInE (tgt := 243) (off := 228) dX5_isDone_15 hsw (by decide) (by decide) (by decide) (by decide) ?_
      have hsw := sw_eq (l := 109) hsw (by decide)
      have ed : dnS c nu r = (if isInB (nu 0) 1 60 && !decide (999 < r 2 + nu 0) then some (hrs r (cN (nu 0))) else none) := by first | (subst hsw; rfl) | (rw [dnS, if_neg (sw_ne hsw 100 (by decide)), if_neg (sw_ne hsw 112 (by decide)), if_neg (sw_ne hsw 103 (by decide)), if_neg (sw_ne hsw 114 (by decide)), if_neg (sw_ne hsw 119 (by decide)), if_neg (sw_ne hsw 116 (by decide))])
      refine o_iload_n dX5_isDone_243 rfl rfl ?_
      refine o_iconst dX5_isDone_244 ic_1 ?_
      refine o_bipush dX5_isDone_245 bp_60 ?_
      refine o_callSr (is := []) (tX5_isIn) ⟨rfl, rfl⟩ dX5_isDone_247 wd760 csX5_isIn rfl ⟨(Nat.le_of_ble_eq_true rfl), (Nat.le_of_ble_eq_true rfl)⟩ rfl rfl rfl (Nat.le_of_ble_eq_true rfl) (Nat.le_of_ble_eq_true rfl) (Nat.le_of_ble_eq_true rfl) ?_
      refine o_if_eq (tgt := 267) dX5_isDone_250 (by decide) (fun c_250 => ?_) (fun c_250 => ?_)
      · have q1 := bI_0.mp c_250
        refine o_iconst dX5_isDone_267 ic_0 ?_
        refine o_iret dX5_isDone_268 rfl (by first | exact nz_b _ | decide) (Nat.le_of_ble_eq_true rfl) (Nat.le_of_ble_eq_true rfl) ?_
        exact DNP.no (by rw [ed, q1]; rfl)
      · have q1 := bI_ne c_250
        refine o_aload_n dX5_isDone_253 rfl rfl ?_
        refine o_getf (j := 0) dX5_isDone_254 rfl hcX5 inX5 (Nat.le_of_ble_eq_true rfl) wd686 rfl rfl ?_
        refine o_iconst dX5_isDone_257 ic_2 ?_
        refine o_ialp (i := 2) dX5_isDone_258 rfl (rfl) (by decide) ?_
        refine o_iload_n dX5_isDone_259 rfl rfl ?_
        refine o_iadd dX5_isDone_260 ?_
        refine o_sipush dX5_isDone_261 sp_999 ?_
        refine o_icmp_le (tgt := 269) dX5_isDone_264 (by decide) (fun c_264 => ?_) (fun c_264 => ?_)
        · have q3 : ¬ 999 < r 2 + nu 0 := Int32.not_lt.mpr c_264
          have q2 := q1
          simp only [isInB, Bool.and_eq_true, Bool.not_eq_true', decide_eq_false_iff_not] at q2
          obtain ⟨q, hq1, hq, e⟩ := rng1 (b := 60) (by omega) q2.1 q2.2
          have ec : cN (nu 0) = q := by rw [e]; exact cN_nI (by omega)
          refine o_eql (ls2 := [some (.ref 0), some (.int c), some (.int (nI q)), some (.int (nu 1))]) (by rw [e]) ?_
          refine o_aload_n dX5_isDone_269 rfl rfl ?_
          refine o_aload_n dX5_isDone_270 rfl rfl ?_
          refine o_getf (j := 0) dX5_isDone_271 rfl hcX5 inX5 (Nat.le_of_ble_eq_true rfl) wd686 rfl rfl ?_
          refine o_iload_n dX5_isDone_274 rfl rfl ?_
          refine o_callVd (is := [0, 1, 2, 3, 4, 5, 6, 7, 8, 9]) (tX5_hoursOn_s hS.1 (by have := hS.2.2.1; omega)) ⟨rfl, rfl⟩ dX5_isDone_275 wd797 cvX5_hoursOn rfl ⟨(Nat.le_of_ble_eq_true rfl), (Nat.le_of_ble_eq_true rfl)⟩ hcX5 rfl rfl rfl rfl (Nat.le_of_ble_eq_true rfl) (Nat.le_of_ble_eq_true rfl) (Nat.le_of_ble_eq_true rfl) rfl ?_
          refine o_iconst dX5_isDone_278 ic_1 ?_
          refine o_iret dX5_isDone_279 rfl (by first | exact nz_b _ | decide) (Nat.le_of_ble_eq_true rfl) (Nat.le_of_ble_eq_true rfl) ?_
          exact DNP.yes (by rw [ed, q1, decide_eq_false q3, ec]; rfl)
        · have q3 : 999 < r 2 + nu 0 := Int32.not_le.mp c_264
          refine o_iconst dX5_isDone_267 ic_0 ?_
          refine o_iret dX5_isDone_268 rfl (by first | exact nz_b _ | decide) (Nat.le_of_ble_eq_true rfl) (Nat.le_of_ble_eq_true rfl) ?_
          exact DNP.no (by rw [ed, q1, decide_eq_true q3]; rfl)
    | 10, _, hsw =>
      refine o_tabInE (tgt := 243) (off := 228) dX5_isDone_15 hsw (by decide) (by decide) (by decide) (by decide) ?_
      have hsw := sw_eq (l := 110) hsw (by decide)
      have ed : dnS c nu r = (if isInB (nu 0) 1 60 && !decide (999 < r 2 + nu 0) then some (hrs r (cN (nu 0))) else none) := by first | (subst hsw; rfl) | (rw [dnS, if_neg (sw_ne hsw 100 (by decide)), if_neg (sw_ne hsw 112 (by decide)), if_neg (sw_ne hsw 103 (by decide)), if_neg (sw_ne hsw 114 (by decide)), if_neg (sw_ne hsw 119 (by decide)), if_neg (sw_ne hsw 116 (by decide))])
      refine o_iload_n dX5_isDone_243 rfl rfl ?_
      refine o_iconst dX5_isDone_244 ic_1 ?_
      refine o_bipush dX5_isDone_245 bp_60 ?_
      refine o_callSr (is := []) (tX5_isIn) ⟨rfl, rfl⟩ dX5_isDone_247 wd760 csX5_isIn rfl ⟨(Nat.le_of_ble_eq_true rfl), (Nat.le_of_ble_eq_true rfl)⟩ rfl rfl rfl (Nat.le_of_ble_eq_true rfl) (Nat.le_of_ble_eq_true rfl) (Nat.le_of_ble_eq_true rfl) ?_
      refine o_if_eq (tgt := 267) dX5_isDone_250 (by decide) (fun c_250 => ?_) (fun c_250 => ?_)
      · have q1 := bI_0.mp c_250
        refine o_iconst dX5_isDone_267 ic_0 ?_
        refine o_iret dX5_isDone_268 rfl (by first | exact nz_b _ | decide) (Nat.le_of_ble_eq_true rfl) (Nat.le_of_ble_eq_true rfl) ?_
        exact DNP.no (by rw [ed, q1]; rfl)
      · have q1 := bI_ne c_250
        refine o_aload_n dX5_isDone_253 rfl rfl ?_
        refine o_getf (j := 0) dX5_isDone_254 rfl hcX5 inX5 (Nat.le_of_ble_eq_true rfl) wd686 rfl rfl ?_
        refine o_iconst dX5_isDone_257 ic_2 ?_
        refine o_ialp (i := 2) dX5_isDone_258 rfl (rfl) (by decide) ?_
        refine o_iload_n dX5_isDone_259 rfl rfl ?_
        refine o_iadd dX5_isDone_260 ?_
        refine o_sipush dX5_isDone_261 sp_999 ?_
        refine o_icmp_le (tgt := 269) dX5_isDone_264 (by decide) (fun c_264 => ?_) (fun c_264 => ?_)
        · have q3 : ¬ 999 < r 2 + nu 0 := Int32.not_lt.mpr c_264
          have q2 := q1
          simp only [isInB, Bool.and_eq_true, Bool.not_eq_true', decide_eq_false_iff_not] at q2
          obtain ⟨q, hq1, hq, e⟩ := rng1 (b := 60) (by omega) q2.1 q2.2
          have ec : cN (nu 0) = q := by rw [e]; exact cN_nI (by omega)
          refine o_eql (ls2 := [some (.ref 0), some (.int c), some (.int (nI q)), some (.int (nu 1))]) (by rw [e]) ?_
          refine o_aload_n dX5_isDone_269 rfl rfl ?_
          refine o_aload_n dX5_isDone_270 rfl rfl ?_
          refine o_getf (j := 0) dX5_isDone_271 rfl hcX5 inX5 (Nat.le_of_ble_eq_true rfl) wd686 rfl rfl ?_
          refine o_iload_n dX5_isDone_274 rfl rfl ?_
          refine o_callVd (is := [0, 1, 2, 3, 4, 5, 6, 7, 8, 9]) (tX5_hoursOn_s hS.1 (by have := hS.2.2.1; omega)) ⟨rfl, rfl⟩ dX5_isDone_275 wd797 cvX5_hoursOn rfl ⟨(Nat.le_of_ble_eq_true rfl), (Nat.le_of_ble_eq_true rfl)⟩ hcX5 rfl rfl rfl rfl (Nat.le_of_ble_eq_true rfl) (Nat.le_of_ble_eq_true rfl) (Nat.le_of_ble_eq_true rfl) rfl ?_
          refine o_iconst dX5_isDone_278 ic_1 ?_
          refine o_iret dX5_isDone_279 rfl (by first | exact nz_b _ | decide) (Nat.le_of_ble_eq_true rfl) (Nat.le_of_ble_eq_true rfl) ?_
          exact DNP.yes (by rw [ed, q1, decide_eq_false q3, ec]; rfl)
        · have q3 : 999 < r 2 + nu 0 := Int32.not_le.mp c_264
          refine o_iconst dX5_isDone_267 ic_0 ?_
          refine o_iret dX5_isDone_268 rfl (by first | exact nz_b _ | decide) (Nat.le_of_ble_eq_true rfl) (Nat.le_of_ble_eq_true rfl) ?_
          exact DNP.no (by rw [ed, q1, decide_eq_true q3]; rfl)
    | 11, _, hsw =>
      refine o_tabInE (tgt := 243) (off := 228) dX5_isDone_15 hsw (by decide) (by decide) (by decide) (by decide) ?_
      have hsw := sw_eq (l := 111) hsw (by decide)
      have ed : dnS c nu r = (if isInB (nu 0) 1 60 && !decide (999 < r 2 + nu 0) then some (hrs r (cN (nu 0))) else none) := by first | (subst hsw; rfl) | (rw [dnS, if_neg (sw_ne hsw 100 (by decide)), if_neg (sw_ne hsw 112 (by decide)), if_neg (sw_ne hsw 103 (by decide)), if_neg (sw_ne hsw 114 (by decide)), if_neg (sw_ne hsw 119 (by decide)), if_neg (sw_ne hsw 116 (by decide))])
      refine o_iload_n dX5_isDone_243 rfl rfl ?_
      refine o_iconst dX5_isDone_244 ic_1 ?_
      refine o_bipush dX5_isDone_245 bp_60 ?_
      refine o_callSr (is := []) (tX5_isIn) ⟨rfl, rfl⟩ dX5_isDone_247 wd760 csX5_isIn rfl ⟨(Nat.le_of_ble_eq_true rfl), (Nat.le_of_ble_eq_true rfl)⟩ rfl rfl rfl (Nat.le_of_ble_eq_true rfl) (Nat.le_of_ble_eq_true rfl) (Nat.le_of_ble_eq_true rfl) ?_
      refine o_if_eq (tgt := 267) dX5_isDone_250 (by decide) (fun c_250 => ?_) (fun c_250 => ?_)
      · have q1 := bI_0.mp c_250
        refine o_iconst dX5_isDone_267 ic_0 ?_
        refine o_iret dX5_isDone_268 rfl (by first | exact nz_b _ | decide) (Nat.le_of_ble_eq_true rfl) (Nat.le_of_ble_eq_true rfl) ?_
        exact DNP.no (by rw [ed, q1]; rfl)
      · have q1 := bI_ne c_250
        refine o_aload_n dX5_isDone_253 rfl rfl ?_
        refine o_getf (j := 0) dX5_isDone_254 rfl hcX5 inX5 (Nat.le_of_ble_eq_true rfl) wd686 rfl rfl ?_
        refine o_iconst dX5_isDone_257 ic_2 ?_
        refine o_ialp (i := 2) dX5_isDone_258 rfl (rfl) (by decide) ?_
        refine o_iload_n dX5_isDone_259 rfl rfl ?_
        refine o_iadd dX5_isDone_260 ?_
        refine o_sipush dX5_isDone_261 sp_999 ?_
        refine o_icmp_le (tgt := 269) dX5_isDone_264 (by decide) (fun c_264 => ?_) (fun c_264 => ?_)
        · have q3 : ¬ 999 < r 2 + nu 0 := Int32.not_lt.mpr c_264
          have q2 := q1
          simp only [isInB, Bool.and_eq_true, Bool.not_eq_true', decide_eq_false_iff_not] at q2
          obtain ⟨q, hq1, hq, e⟩ := rng1 (b := 60) (by omega) q2.1 q2.2
          have ec : cN (nu 0) = q := by rw [e]; exact cN_nI (by omega)
          refine o_eql (ls2 := [some (.ref 0), some (.int c), some (.int (nI q)), some (.int (nu 1))]) (by rw [e]) ?_
          refine o_aload_n dX5_isDone_269 rfl rfl ?_
          refine o_aload_n dX5_isDone_270 rfl rfl ?_
          refine o_getf (j := 0) dX5_isDone_271 rfl hcX5 inX5 (Nat.le_of_ble_eq_true rfl) wd686 rfl rfl ?_
          refine o_iload_n dX5_isDone_274 rfl rfl ?_
          refine o_callVd (is := [0, 1, 2, 3, 4, 5, 6, 7, 8, 9]) (tX5_hoursOn_s hS.1 (by have := hS.2.2.1; omega)) ⟨rfl, rfl⟩ dX5_isDone_275 wd797 cvX5_hoursOn rfl ⟨(Nat.le_of_ble_eq_true rfl), (Nat.le_of_ble_eq_true rfl)⟩ hcX5 rfl rfl rfl rfl (Nat.le_of_ble_eq_true rfl) (Nat.le_of_ble_eq_true rfl) (Nat.le_of_ble_eq_true rfl) rfl ?_
          refine o_iconst dX5_isDone_278 ic_1 ?_
          refine o_iret dX5_isDone_279 rfl (by first | exact nz_b _ | decide) (Nat.le_of_ble_eq_true rfl) (Nat.le_of_ble_eq_true rfl) ?_
          exact DNP.yes (by rw [ed, q1, decide_eq_false q3, ec]; rfl)
        · have q3 : 999 < r 2 + nu 0 := Int32.not_le.mp c_264
          refine o_iconst dX5_isDone_267 ic_0 ?_
          refine o_iret dX5_isDone_268 rfl (by first | exact nz_b _ | decide) (Nat.le_of_ble_eq_true rfl) (Nat.le_of_ble_eq_true rfl) ?_
          exact DNP.no (by rw [ed, q1, decide_eq_true q3]; rfl)
    | 12, _, hsw =>
      refine o_tabInE (tgt := 113) (off := 98) dX5_isDone_15 hsw (by decide) (by decide) (by decide) (by decide) ?_
      have hsw := sw_eq (l := 112) hsw (by decide)
      subst hsw
      refine o_iload_n dX5_isDone_113 rfl rfl ?_
      refine o_callSr (is := []) (tX5_isRoom) ⟨rfl, rfl⟩ dX5_isDone_114 wd774 csX5_isRoom rfl ⟨(Nat.le_of_ble_eq_true rfl), (Nat.le_of_ble_eq_true rfl)⟩ rfl rfl rfl (Nat.le_of_ble_eq_true rfl) (Nat.le_of_ble_eq_true rfl) (Nat.le_of_ble_eq_true rfl) ?_
      refine o_if_eq (tgt := 138) dX5_isDone_117 (by decide) (fun c_117 => ?_) (fun c_117 => ?_)
      · have q_117 : inR 8 (nu 0) = false := by rw [← isInB_eq 7 (by omega)]; exact bI_0.mp c_117
        refine o_iconst dX5_isDone_138 ic_0 ?_
        refine o_iret dX5_isDone_139 rfl (by first | exact nz_b _ | decide) (Nat.le_of_ble_eq_true rfl) (Nat.le_of_ble_eq_true rfl) ?_
        exact DNP.no (by rw [dnS_112, q_117]; rfl)
      · have q_117 : inR 8 (nu 0) = true := by rw [← isInB_eq 7 (by omega)]; exact bI_ne c_117
        refine o_iload_n dX5_isDone_120 rfl rfl ?_
        refine o_callSr (is := []) (tX5_isRoom) ⟨rfl, rfl⟩ dX5_isDone_121 wd774 csX5_isRoom rfl ⟨(Nat.le_of_ble_eq_true rfl), (Nat.le_of_ble_eq_true rfl)⟩ rfl rfl rfl (Nat.le_of_ble_eq_true rfl) (Nat.le_of_ble_eq_true rfl) (Nat.le_of_ble_eq_true rfl) ?_
        refine o_if_eq (tgt := 138) dX5_isDone_124 (by decide) (fun c_124 => ?_) (fun c_124 => ?_)
        · have q_124 : inR 8 (nu 1) = false := by rw [← isInB_eq 7 (by omega)]; exact bI_0.mp c_124
          refine o_iconst dX5_isDone_138 ic_0 ?_
          refine o_iret dX5_isDone_139 rfl (by first | exact nz_b _ | decide) (Nat.le_of_ble_eq_true rfl) (Nat.le_of_ble_eq_true rfl) ?_
          exact DNP.no (by rw [dnS_112, q_117, q_124]; rfl)
        · have q_124 : inR 8 (nu 1) = true := by rw [← isInB_eq 7 (by omega)]; exact bI_ne c_124
          refine o_aload_n dX5_isDone_127 rfl rfl ?_
          refine o_getf (j := 0) dX5_isDone_128 rfl hcX5 inX5 (Nat.le_of_ble_eq_true rfl) wd686 rfl rfl ?_
          refine o_iconst dX5_isDone_131 ic_1 ?_
          refine o_ialp (i := 1) dX5_isDone_132 rfl (rfl) (by decide) ?_
          refine o_bipush dX5_isDone_133 bp_6 ?_
          refine o_icmp_ne (tgt := 140) dX5_isDone_135 (by decide) (fun c_135 => ?_) (fun c_135 => ?_)
          · have q3 : ¬ nN r = 6 := fun e => c_135 (by rw [hS.e1, e]; rfl)
            refine o_aload_n dX5_isDone_140 rfl rfl ?_
            refine o_getf (j := 0) dX5_isDone_141 rfl hcX5 inX5 (Nat.le_of_ble_eq_true rfl) wd686 rfl rfl ?_
            refine o_iload_n dX5_isDone_144 rfl rfl ?_
            refine o_iload_n dX5_isDone_145 rfl rfl ?_
            refine o_aload_n dX5_isDone_146 rfl rfl ?_
            refine o_getf (j := 12) dX5_isDone_147 rfl hcX5 inX5 (Nat.le_of_ble_eq_true rfl) wd698 rfl rfl ?_
            refine o_iconst dX5_isDone_150 ic_2 ?_
            refine o_ialp (i := 2) dX5_isDone_151 rfl (rfl) (by decide) ?_
            refine o_callSd (is := [1]) (tX5_adds (N := nN r) hS.n6 hS.e1) ⟨rfl, rfl⟩ dX5_isDone_152 wd780 csX5_adds rfl ⟨(Nat.le_of_ble_eq_true rfl), (Nat.le_of_ble_eq_true rfl)⟩ rfl rfl rfl (Nat.le_of_ble_eq_true rfl) (Nat.le_of_ble_eq_true rfl) (Nat.le_of_ble_eq_true rfl) rfl ?_
            refine o_iconst dX5_isDone_155 ic_1 ?_
            refine o_iret dX5_isDone_156 rfl (by first | exact nz_b _ | decide) (Nat.le_of_ble_eq_true rfl) (Nat.le_of_ble_eq_true rfl) ?_
            exact DNP.yes (by rw [dnS_112, q_117, q_124, decide_eq_false q3]; rfl)
          · have q3 : nN r = 6 := (nI_eq (b := 6) (by have := hS.n6; omega) (by omega)).mp (by rw [← hS.e1]; exact c_135)
            refine o_iconst dX5_isDone_138 ic_0 ?_
            refine o_iret dX5_isDone_139 rfl (by first | exact nz_b _ | decide) (Nat.le_of_ble_eq_true rfl) (Nat.le_of_ble_eq_true rfl) ?_
            exact DNP.no (by rw [dnS_112, q_117, q_124, decide_eq_true q3]; rfl)
    | 13, _, hsw =>
      refine o_tabInE (tgt := 243) (off := 228) dX5_isDone_15 hsw (by decide) (by decide) (by decide) (by decide) ?_
      have hsw := sw_eq (l := 113) hsw (by decide)
      have ed : dnS c nu r = (if isInB (nu 0) 1 60 && !decide (999 < r 2 + nu 0) then some (hrs r (cN (nu 0))) else none) := by first | (subst hsw; rfl) | (rw [dnS, if_neg (sw_ne hsw 100 (by decide)), if_neg (sw_ne hsw 112 (by decide)), if_neg (sw_ne hsw 103 (by decide)), if_neg (sw_ne hsw 114 (by decide)), if_neg (sw_ne hsw 119 (by decide)), if_neg (sw_ne hsw 116 (by decide))])
      refine o_iload_n dX5_isDone_243 rfl rfl ?_
      refine o_iconst dX5_isDone_244 ic_1 ?_
      refine o_bipush dX5_isDone_245 bp_60 ?_
      refine o_callSr (is := []) (tX5_isIn) ⟨rfl, rfl⟩ dX5_isDone_247 wd760 csX5_isIn rfl ⟨(Nat.le_of_ble_eq_true rfl), (Nat.le_of_ble_eq_true rfl)⟩ rfl rfl rfl (Nat.le_of_ble_eq_true rfl) (Nat.le_of_ble_eq_true rfl) (Nat.le_of_ble_eq_true rfl) ?_
      refine o_if_eq (tgt := 267) dX5_isDone_250 (by decide) (fun c_250 => ?_) (fun c_250 => ?_)
      · have q1 := bI_0.mp c_250
        refine o_iconst dX5_isDone_267 ic_0 ?_
        refine o_iret dX5_isDone_268 rfl (by first | exact nz_b _ | decide) (Nat.le_of_ble_eq_true rfl) (Nat.le_of_ble_eq_true rfl) ?_
        exact DNP.no (by rw [ed, q1]; rfl)
      · have q1 := bI_ne c_250
        refine o_aload_n dX5_isDone_253 rfl rfl ?_
        refine o_getf (j := 0) dX5_isDone_254 rfl hcX5 inX5 (Nat.le_of_ble_eq_true rfl) wd686 rfl rfl ?_
        refine o_iconst dX5_isDone_257 ic_2 ?_
        refine o_ialp (i := 2) dX5_isDone_258 rfl (rfl) (by decide) ?_
        refine o_iload_n dX5_isDone_259 rfl rfl ?_
        refine o_iadd dX5_isDone_260 ?_
        refine o_sipush dX5_isDone_261 sp_999 ?_
        refine o_icmp_le (tgt := 269) dX5_isDone_264 (by decide) (fun c_264 => ?_) (fun c_264 => ?_)
        · have q3 : ¬ 999 < r 2 + nu 0 := Int32.not_lt.mpr c_264
          have q2 := q1
          simp only [isInB, Bool.and_eq_true, Bool.not_eq_true', decide_eq_false_iff_not] at q2
          obtain ⟨q, hq1, hq, e⟩ := rng1 (b := 60) (by omega) q2.1 q2.2
          have ec : cN (nu 0) = q := by rw [e]; exact cN_nI (by omega)
          refine o_eql (ls2 := [some (.ref 0), some (.int c), some (.int (nI q)), some (.int (nu 1))]) (by rw [e]) ?_
          refine o_aload_n dX5_isDone_269 rfl rfl ?_
          refine o_aload_n dX5_isDone_270 rfl rfl ?_
          refine o_getf (j := 0) dX5_isDone_271 rfl hcX5 inX5 (Nat.le_of_ble_eq_true rfl) wd686 rfl rfl ?_
          refine o_iload_n dX5_isDone_274 rfl rfl ?_
          refine o_callVd (is := [0, 1, 2, 3, 4, 5, 6, 7, 8, 9]) (tX5_hoursOn_s hS.1 (by have := hS.2.2.1; omega)) ⟨rfl, rfl⟩ dX5_isDone_275 wd797 cvX5_hoursOn rfl ⟨(Nat.le_of_ble_eq_true rfl), (Nat.le_of_ble_eq_true rfl)⟩ hcX5 rfl rfl rfl rfl (Nat.le_of_ble_eq_true rfl) (Nat.le_of_ble_eq_true rfl) (Nat.le_of_ble_eq_true rfl) rfl ?_
          refine o_iconst dX5_isDone_278 ic_1 ?_
          refine o_iret dX5_isDone_279 rfl (by first | exact nz_b _ | decide) (Nat.le_of_ble_eq_true rfl) (Nat.le_of_ble_eq_true rfl) ?_
          exact DNP.yes (by rw [ed, q1, decide_eq_false q3, ec]; rfl)
        · have q3 : 999 < r 2 + nu 0 := Int32.not_le.mp c_264
          refine o_iconst dX5_isDone_267 ic_0 ?_
          refine o_iret dX5_isDone_268 rfl (by first | exact nz_b _ | decide) (Nat.le_of_ble_eq_true rfl) (Nat.le_of_ble_eq_true rfl) ?_
          exact DNP.no (by rw [ed, q1, decide_eq_true q3]; rfl)
    | 14, _, hsw =>
      refine o_tabInE (tgt := 157) (off := 142) dX5_isDone_15 hsw (by decide) (by decide) (by decide) (by decide) ?_
      have hsw := sw_eq (l := 114) hsw (by decide)
      subst hsw
      refine o_aload_n dX5_isDone_157 rfl rfl ?_
      refine o_iload_n dX5_isDone_158 rfl rfl ?_
      refine o_callVr (is := [0, 1, 2, 3, 4, 5, 6, 7, 8, 9]) (tX5_isPerson hS) ⟨rfl, rfl⟩ dX5_isDone_159 wd786 cvX5_isPerson rfl ⟨(Nat.le_of_ble_eq_true rfl), (Nat.le_of_ble_eq_true rfl)⟩ hcX5 rfl rfl rfl rfl (Nat.le_of_ble_eq_true rfl) (Nat.le_of_ble_eq_true rfl) (Nat.le_of_ble_eq_true rfl) ?_
      refine o_if_eq (tgt := 172) dX5_isDone_162 (by decide) (fun c_162 => ?_) (fun c_162 => ?_)
      · have hno := bI_0.mp c_162
        refine o_iconst dX5_isDone_172 ic_0 ?_
        refine o_iret dX5_isDone_173 rfl (by first | exact nz_b _ | decide) (Nat.le_of_ble_eq_true rfl) (Nat.le_of_ble_eq_true rfl) ?_
        exact DNP.no (by rw [dnS_114, hno]; rfl)
      · obtain ⟨d, hd, e⟩ := inR_yes (by have := hS.d9; have := hS.n6; omega) (bI_ne c_162)
        have h9 := hS.d9
        have h6 := hS.n6
        have ec : cN (nu 0) = d := by rw [e]; exact cN_nI (by omega)
        have hin : inR (nN r) (nu 0) = true := bI_ne c_162
        refine o_eql (ls2 := [some (.ref 0), some (.int 114), some (.int (nI d)), some (.int (nu 1))]) (by rw [e]) ?_
        refine o_iload_n dX5_isDone_165 rfl rfl ?_
        refine o_callSr (is := []) (tX5_isRoom) ⟨rfl, rfl⟩ dX5_isDone_166 wd774 csX5_isRoom rfl ⟨(Nat.le_of_ble_eq_true rfl), (Nat.le_of_ble_eq_true rfl)⟩ rfl rfl rfl (Nat.le_of_ble_eq_true rfl) (Nat.le_of_ble_eq_true rfl) (Nat.le_of_ble_eq_true rfl) ?_
        refine o_if_ne (tgt := 174) dX5_isDone_169 (by decide) (fun c_169 => ?_) (fun c_169 => ?_)
        · have q_169 : inR 8 (nu 1) = true := by rw [← isInB_eq 7 (by omega)]; exact bI_ne c_169
          refine o_aload_n dX5_isDone_174 rfl rfl ?_
          refine o_getf (j := 0) dX5_isDone_175 rfl hcX5 inX5 (Nat.le_of_ble_eq_true rfl) wd686 rfl rfl ?_
          refine o_iload_n dX5_isDone_178 rfl rfl ?_
          refine o_iload_n dX5_isDone_179 rfl rfl ?_
          refine o_bipush dX5_isDone_180 bp_103 ?_
          refine o_icmp_ne (tgt := 189) dX5_isDone_182 (by decide) (fun c_182 => ?_) (fun c_182 => ?_)
          · skip
            refine o_iconst dX5_isDone_189 ic_0 ?_
            refine o_callSr (is := []) (ofP0) ⟨rfl, rfl⟩ dX5_isDone_190 wd783 csX5_ofP rfl ⟨(Nat.le_of_ble_eq_true rfl), (Nat.le_of_ble_eq_true rfl)⟩ rfl rfl rfl (Nat.le_of_ble_eq_true rfl) (Nat.le_of_ble_eq_true rfl) (Nat.le_of_ble_eq_true rfl) ?_
            refine o_iload_n dX5_isDone_193 rfl rfl ?_
            refine o_iasp (i := 50 + 3 * d) dX5_isDone_194 rfl (rfl) (by omega) rfl ?_
            refine o_iconst dX5_isDone_195 ic_1 ?_
            refine o_iret dX5_isDone_196 rfl (by first | exact nz_b _ | decide) (Nat.le_of_ble_eq_true rfl) (Nat.le_of_ble_eq_true rfl) ?_
            exact DNP.yes (by rw [dnS_114, hin, q_169, ec]; rfl)
          · exact absurd c_182 (by decide)
        · have q_169 : inR 8 (nu 1) = false := by rw [← isInB_eq 7 (by omega)]; exact bI_0.mp c_169
          refine o_iconst dX5_isDone_172 ic_0 ?_
          refine o_iret dX5_isDone_173 rfl (by first | exact nz_b _ | decide) (Nat.le_of_ble_eq_true rfl) (Nat.le_of_ble_eq_true rfl) ?_
          exact DNP.no (by rw [dnS_114, hin, q_169]; rfl)
    | 15, _, hsw =>
      refine o_tabInE (tgt := 243) (off := 228) dX5_isDone_15 hsw (by decide) (by decide) (by decide) (by decide) ?_
      have hsw := sw_eq (l := 115) hsw (by decide)
      have ed : dnS c nu r = (if isInB (nu 0) 1 60 && !decide (999 < r 2 + nu 0) then some (hrs r (cN (nu 0))) else none) := by first | (subst hsw; rfl) | (rw [dnS, if_neg (sw_ne hsw 100 (by decide)), if_neg (sw_ne hsw 112 (by decide)), if_neg (sw_ne hsw 103 (by decide)), if_neg (sw_ne hsw 114 (by decide)), if_neg (sw_ne hsw 119 (by decide)), if_neg (sw_ne hsw 116 (by decide))])
      refine o_iload_n dX5_isDone_243 rfl rfl ?_
      refine o_iconst dX5_isDone_244 ic_1 ?_
      refine o_bipush dX5_isDone_245 bp_60 ?_
      refine o_callSr (is := []) (tX5_isIn) ⟨rfl, rfl⟩ dX5_isDone_247 wd760 csX5_isIn rfl ⟨(Nat.le_of_ble_eq_true rfl), (Nat.le_of_ble_eq_true rfl)⟩ rfl rfl rfl (Nat.le_of_ble_eq_true rfl) (Nat.le_of_ble_eq_true rfl) (Nat.le_of_ble_eq_true rfl) ?_
      refine o_if_eq (tgt := 267) dX5_isDone_250 (by decide) (fun c_250 => ?_) (fun c_250 => ?_)
      · have q1 := bI_0.mp c_250
        refine o_iconst dX5_isDone_267 ic_0 ?_
        refine o_iret dX5_isDone_268 rfl (by first | exact nz_b _ | decide) (Nat.le_of_ble_eq_true rfl) (Nat.le_of_ble_eq_true rfl) ?_
        exact DNP.no (by rw [ed, q1]; rfl)
      · have q1 := bI_ne c_250
        refine o_aload_n dX5_isDone_253 rfl rfl ?_
        refine o_getf (j := 0) dX5_isDone_254 rfl hcX5 inX5 (Nat.le_of_ble_eq_true rfl) wd686 rfl rfl ?_
        refine o_iconst dX5_isDone_257 ic_2 ?_
        refine o_ialp (i := 2) dX5_isDone_258 rfl (rfl) (by decide) ?_
        refine o_iload_n dX5_isDone_259 rfl rfl ?_
        refine o_iadd dX5_isDone_260 ?_
        refine o_sipush dX5_isDone_261 sp_999 ?_
        refine o_icmp_le (tgt := 269) dX5_isDone_264 (by decide) (fun c_264 => ?_) (fun c_264 => ?_)
        · have q3 : ¬ 999 < r 2 + nu 0 := Int32.not_lt.mpr c_264
          have q2 := q1
          simp only [isInB, Bool.and_eq_true, Bool.not_eq_true', decide_eq_false_iff_not] at q2
          obtain ⟨q, hq1, hq, e⟩ := rng1 (b := 60) (by omega) q2.1 q2.2
          have ec : cN (nu 0) = q := by rw [e]; exact cN_nI (by omega)
          refine o_eql (ls2 := [some (.ref 0), some (.int c), some (.int (nI q)), some (.int (nu 1))]) (by rw [e]) ?_
          refine o_aload_n dX5_isDone_269 rfl rfl ?_
          refine o_aload_n dX5_isDone_270 rfl rfl ?_
          refine o_getf (j := 0) dX5_isDone_271 rfl hcX5 inX5 (Nat.le_of_ble_eq_true rfl) wd686 rfl rfl ?_
          refine o_iload_n dX5_isDone_274 rfl rfl ?_
          refine o_callVd (is := [0, 1, 2, 3, 4, 5, 6, 7, 8, 9]) (tX5_hoursOn_s hS.1 (by have := hS.2.2.1; omega)) ⟨rfl, rfl⟩ dX5_isDone_275 wd797 cvX5_hoursOn rfl ⟨(Nat.le_of_ble_eq_true rfl), (Nat.le_of_ble_eq_true rfl)⟩ hcX5 rfl rfl rfl rfl (Nat.le_of_ble_eq_true rfl) (Nat.le_of_ble_eq_true rfl) (Nat.le_of_ble_eq_true rfl) rfl ?_
          refine o_iconst dX5_isDone_278 ic_1 ?_
          refine o_iret dX5_isDone_279 rfl (by first | exact nz_b _ | decide) (Nat.le_of_ble_eq_true rfl) (Nat.le_of_ble_eq_true rfl) ?_
          exact DNP.yes (by rw [ed, q1, decide_eq_false q3, ec]; rfl)
        · have q3 : 999 < r 2 + nu 0 := Int32.not_le.mp c_264
          refine o_iconst dX5_isDone_267 ic_0 ?_
          refine o_iret dX5_isDone_268 rfl (by first | exact nz_b _ | decide) (Nat.le_of_ble_eq_true rfl) (Nat.le_of_ble_eq_true rfl) ?_
          exact DNP.no (by rw [ed, q1, decide_eq_true q3]; rfl)
    | 16, _, hsw =>
      refine o_tabInE (tgt := 223) (off := 208) dX5_isDone_15 hsw (by decide) (by decide) (by decide) (by decide) ?_
      have hsw := sw_eq (l := 116) hsw (by decide)
      subst hsw
      refine o_aload_n dX5_isDone_223 rfl rfl ?_
      refine o_iload_n dX5_isDone_224 rfl rfl ?_
      refine o_callVr (is := [0, 1, 2, 3, 4, 5, 6, 7, 8, 9]) (tX5_isDoor hS) ⟨rfl, rfl⟩ dX5_isDone_225 wd790 cvX5_isDoor rfl ⟨(Nat.le_of_ble_eq_true rfl), (Nat.le_of_ble_eq_true rfl)⟩ hcX5 rfl rfl rfl rfl (Nat.le_of_ble_eq_true rfl) (Nat.le_of_ble_eq_true rfl) (Nat.le_of_ble_eq_true rfl) ?_
      refine o_if_ne (tgt := 233) dX5_isDone_228 (by decide) (fun c_228 => ?_) (fun c_228 => ?_)
      · obtain ⟨d, hd, e⟩ := inR_yes (by have := hS.d9; have := hS.n6; omega) (bI_ne c_228)
        have h9 := hS.d9
        have h6 := hS.n6
        have ec : cN (nu 0) = d := by rw [e]; exact cN_nI (by omega)
        have hin : inR (dN r) (nu 0) = true := bI_ne c_228
        refine o_eql (ls2 := [some (.ref 0), some (.int 116), some (.int (nI d)), some (.int (nu 1))]) (by rw [e]) ?_
        refine o_aload_n dX5_isDone_233 rfl rfl ?_
        refine o_getf (j := 0) dX5_isDone_234 rfl hcX5 inX5 (Nat.le_of_ble_eq_true rfl) wd686 rfl rfl ?_
        refine o_iload_n dX5_isDone_237 rfl rfl ?_
        refine o_callSd (is := [1]) (tX5_turnsIn (d := d) (by omega)) ⟨rfl, rfl⟩ dX5_isDone_238 wd794 csX5_turnsIn rfl ⟨(Nat.le_of_ble_eq_true rfl), (Nat.le_of_ble_eq_true rfl)⟩ rfl rfl rfl (Nat.le_of_ble_eq_true rfl) (Nat.le_of_ble_eq_true rfl) (Nat.le_of_ble_eq_true rfl) rfl ?_
        refine o_iconst dX5_isDone_241 ic_1 ?_
        refine o_iret dX5_isDone_242 rfl (by first | exact nz_b _ | decide) (Nat.le_of_ble_eq_true rfl) (Nat.le_of_ble_eq_true rfl) ?_
        exact DNP.yes (by rw [dnS_116, hin, ec]; rfl)
      · have hno := bI_0.mp c_228
        refine o_iconst dX5_isDone_231 ic_0 ?_
        refine o_iret dX5_isDone_232 rfl (by first | exact nz_b _ | decide) (Nat.le_of_ble_eq_true rfl) (Nat.le_of_ble_eq_true rfl) ?_
        exact DNP.no (by rw [dnS_116, hno]; rfl)
    | 17, _, hsw =>
      refine o_tabInE (tgt := 243) (off := 228) dX5_isDone_15 hsw (by decide) (by decide) (by decide) (by decide) ?_
      have hsw := sw_eq (l := 117) hsw (by decide)
      have ed : dnS c nu r = (if isInB (nu 0) 1 60 && !decide (999 < r 2 + nu 0) then some (hrs r (cN (nu 0))) else none) := by first | (subst hsw; rfl) | (rw [dnS, if_neg (sw_ne hsw 100 (by decide)), if_neg (sw_ne hsw 112 (by decide)), if_neg (sw_ne hsw 103 (by decide)), if_neg (sw_ne hsw 114 (by decide)), if_neg (sw_ne hsw 119 (by decide)), if_neg (sw_ne hsw 116 (by decide))])
      refine o_iload_n dX5_isDone_243 rfl rfl ?_
      refine o_iconst dX5_isDone_244 ic_1 ?_
      refine o_bipush dX5_isDone_245 bp_60 ?_
      refine o_callSr (is := []) (tX5_isIn) ⟨rfl, rfl⟩ dX5_isDone_247 wd760 csX5_isIn rfl ⟨(Nat.le_of_ble_eq_true rfl), (Nat.le_of_ble_eq_true rfl)⟩ rfl rfl rfl (Nat.le_of_ble_eq_true rfl) (Nat.le_of_ble_eq_true rfl) (Nat.le_of_ble_eq_true rfl) ?_
      refine o_if_eq (tgt := 267) dX5_isDone_250 (by decide) (fun c_250 => ?_) (fun c_250 => ?_)
      · have q1 := bI_0.mp c_250
        refine o_iconst dX5_isDone_267 ic_0 ?_
        refine o_iret dX5_isDone_268 rfl (by first | exact nz_b _ | decide) (Nat.le_of_ble_eq_true rfl) (Nat.le_of_ble_eq_true rfl) ?_
        exact DNP.no (by rw [ed, q1]; rfl)
      · have q1 := bI_ne c_250
        refine o_aload_n dX5_isDone_253 rfl rfl ?_
        refine o_getf (j := 0) dX5_isDone_254 rfl hcX5 inX5 (Nat.le_of_ble_eq_true rfl) wd686 rfl rfl ?_
        refine o_iconst dX5_isDone_257 ic_2 ?_
        refine o_ialp (i := 2) dX5_isDone_258 rfl (rfl) (by decide) ?_
        refine o_iload_n dX5_isDone_259 rfl rfl ?_
        refine o_iadd dX5_isDone_260 ?_
        refine o_sipush dX5_isDone_261 sp_999 ?_
        refine o_icmp_le (tgt := 269) dX5_isDone_264 (by decide) (fun c_264 => ?_) (fun c_264 => ?_)
        · have q3 : ¬ 999 < r 2 + nu 0 := Int32.not_lt.mpr c_264
          have q2 := q1
          simp only [isInB, Bool.and_eq_true, Bool.not_eq_true', decide_eq_false_iff_not] at q2
          obtain ⟨q, hq1, hq, e⟩ := rng1 (b := 60) (by omega) q2.1 q2.2
          have ec : cN (nu 0) = q := by rw [e]; exact cN_nI (by omega)
          refine o_eql (ls2 := [some (.ref 0), some (.int c), some (.int (nI q)), some (.int (nu 1))]) (by rw [e]) ?_
          refine o_aload_n dX5_isDone_269 rfl rfl ?_
          refine o_aload_n dX5_isDone_270 rfl rfl ?_
          refine o_getf (j := 0) dX5_isDone_271 rfl hcX5 inX5 (Nat.le_of_ble_eq_true rfl) wd686 rfl rfl ?_
          refine o_iload_n dX5_isDone_274 rfl rfl ?_
          refine o_callVd (is := [0, 1, 2, 3, 4, 5, 6, 7, 8, 9]) (tX5_hoursOn_s hS.1 (by have := hS.2.2.1; omega)) ⟨rfl, rfl⟩ dX5_isDone_275 wd797 cvX5_hoursOn rfl ⟨(Nat.le_of_ble_eq_true rfl), (Nat.le_of_ble_eq_true rfl)⟩ hcX5 rfl rfl rfl rfl (Nat.le_of_ble_eq_true rfl) (Nat.le_of_ble_eq_true rfl) (Nat.le_of_ble_eq_true rfl) rfl ?_
          refine o_iconst dX5_isDone_278 ic_1 ?_
          refine o_iret dX5_isDone_279 rfl (by first | exact nz_b _ | decide) (Nat.le_of_ble_eq_true rfl) (Nat.le_of_ble_eq_true rfl) ?_
          exact DNP.yes (by rw [ed, q1, decide_eq_false q3, ec]; rfl)
        · have q3 : 999 < r 2 + nu 0 := Int32.not_le.mp c_264
          refine o_iconst dX5_isDone_267 ic_0 ?_
          refine o_iret dX5_isDone_268 rfl (by first | exact nz_b _ | decide) (Nat.le_of_ble_eq_true rfl) (Nat.le_of_ble_eq_true rfl) ?_
          exact DNP.no (by rw [ed, q1, decide_eq_true q3]; rfl)
    | 18, _, hsw =>
      refine o_tabInE (tgt := 243) (off := 228) dX5_isDone_15 hsw (by decide) (by decide) (by decide) (by decide) ?_
      have hsw := sw_eq (l := 118) hsw (by decide)
      have ed : dnS c nu r = (if isInB (nu 0) 1 60 && !decide (999 < r 2 + nu 0) then some (hrs r (cN (nu 0))) else none) := by first | (subst hsw; rfl) | (rw [dnS, if_neg (sw_ne hsw 100 (by decide)), if_neg (sw_ne hsw 112 (by decide)), if_neg (sw_ne hsw 103 (by decide)), if_neg (sw_ne hsw 114 (by decide)), if_neg (sw_ne hsw 119 (by decide)), if_neg (sw_ne hsw 116 (by decide))])
      refine o_iload_n dX5_isDone_243 rfl rfl ?_
      refine o_iconst dX5_isDone_244 ic_1 ?_
      refine o_bipush dX5_isDone_245 bp_60 ?_
      refine o_callSr (is := []) (tX5_isIn) ⟨rfl, rfl⟩ dX5_isDone_247 wd760 csX5_isIn rfl ⟨(Nat.le_of_ble_eq_true rfl), (Nat.le_of_ble_eq_true rfl)⟩ rfl rfl rfl (Nat.le_of_ble_eq_true rfl) (Nat.le_of_ble_eq_true rfl) (Nat.le_of_ble_eq_true rfl) ?_
      refine o_if_eq (tgt := 267) dX5_isDone_250 (by decide) (fun c_250 => ?_) (fun c_250 => ?_)
      · have q1 := bI_0.mp c_250
        refine o_iconst dX5_isDone_267 ic_0 ?_
        refine o_iret dX5_isDone_268 rfl (by first | exact nz_b _ | decide) (Nat.le_of_ble_eq_true rfl) (Nat.le_of_ble_eq_true rfl) ?_
        exact DNP.no (by rw [ed, q1]; rfl)
      · have q1 := bI_ne c_250
        refine o_aload_n dX5_isDone_253 rfl rfl ?_
        refine o_getf (j := 0) dX5_isDone_254 rfl hcX5 inX5 (Nat.le_of_ble_eq_true rfl) wd686 rfl rfl ?_
        refine o_iconst dX5_isDone_257 ic_2 ?_
        refine o_ialp (i := 2) dX5_isDone_258 rfl (rfl) (by decide) ?_
        refine o_iload_n dX5_isDone_259 rfl rfl ?_
        refine o_iadd dX5_isDone_260 ?_
        refine o_sipush dX5_isDone_261 sp_999 ?_
        refine o_icmp_le (tgt := 269) dX5_isDone_264 (by decide) (fun c_264 => ?_) (fun c_264 => ?_)
        · have q3 : ¬ 999 < r 2 + nu 0 := Int32.not_lt.mpr c_264
          have q2 := q1
          simp only [isInB, Bool.and_eq_true, Bool.not_eq_true', decide_eq_false_iff_not] at q2
          obtain ⟨q, hq1, hq, e⟩ := rng1 (b := 60) (by omega) q2.1 q2.2
          have ec : cN (nu 0) = q := by rw [e]; exact cN_nI (by omega)
          refine o_eql (ls2 := [some (.ref 0), some (.int c), some (.int (nI q)), some (.int (nu 1))]) (by rw [e]) ?_
          refine o_aload_n dX5_isDone_269 rfl rfl ?_
          refine o_aload_n dX5_isDone_270 rfl rfl ?_
          refine o_getf (j := 0) dX5_isDone_271 rfl hcX5 inX5 (Nat.le_of_ble_eq_true rfl) wd686 rfl rfl ?_
          refine o_iload_n dX5_isDone_274 rfl rfl ?_
          refine o_callVd (is := [0, 1, 2, 3, 4, 5, 6, 7, 8, 9]) (tX5_hoursOn_s hS.1 (by have := hS.2.2.1; omega)) ⟨rfl, rfl⟩ dX5_isDone_275 wd797 cvX5_hoursOn rfl ⟨(Nat.le_of_ble_eq_true rfl), (Nat.le_of_ble_eq_true rfl)⟩ hcX5 rfl rfl rfl rfl (Nat.le_of_ble_eq_true rfl) (Nat.le_of_ble_eq_true rfl) (Nat.le_of_ble_eq_true rfl) rfl ?_
          refine o_iconst dX5_isDone_278 ic_1 ?_
          refine o_iret dX5_isDone_279 rfl (by first | exact nz_b _ | decide) (Nat.le_of_ble_eq_true rfl) (Nat.le_of_ble_eq_true rfl) ?_
          exact DNP.yes (by rw [ed, q1, decide_eq_false q3, ec]; rfl)
        · have q3 : 999 < r 2 + nu 0 := Int32.not_le.mp c_264
          refine o_iconst dX5_isDone_267 ic_0 ?_
          refine o_iret dX5_isDone_268 rfl (by first | exact nz_b _ | decide) (Nat.le_of_ble_eq_true rfl) (Nat.le_of_ble_eq_true rfl) ?_
          exact DNP.no (by rw [ed, q1, decide_eq_true q3]; rfl)
    | 19, _, hsw =>
      refine o_tabInE (tgt := 197) (off := 182) dX5_isDone_15 hsw (by decide) (by decide) (by decide) (by decide) ?_
      have hsw := sw_eq (l := 119) hsw (by decide)
      subst hsw
      refine o_aload_n dX5_isDone_197 rfl rfl ?_
      refine o_iload_n dX5_isDone_198 rfl rfl ?_
      refine o_callVr (is := [0, 1, 2, 3, 4, 5, 6, 7, 8, 9]) (tX5_isDoor hS) ⟨rfl, rfl⟩ dX5_isDone_199 wd790 cvX5_isDoor rfl ⟨(Nat.le_of_ble_eq_true rfl), (Nat.le_of_ble_eq_true rfl)⟩ hcX5 rfl rfl rfl rfl (Nat.le_of_ble_eq_true rfl) (Nat.le_of_ble_eq_true rfl) (Nat.le_of_ble_eq_true rfl) ?_
      refine o_if_ne (tgt := 207) dX5_isDone_202 (by decide) (fun c_202 => ?_) (fun c_202 => ?_)
      · obtain ⟨d, hd, e⟩ := inR_yes (by have := hS.d9; have := hS.n6; omega) (bI_ne c_202)
        have h9 := hS.d9
        have h6 := hS.n6
        have ec : cN (nu 0) = d := by rw [e]; exact cN_nI (by omega)
        have hin : inR (dN r) (nu 0) = true := bI_ne c_202
        refine o_eql (ls2 := [some (.ref 0), some (.int 119), some (.int (nI d)), some (.int (nu 1))]) (by rw [e]) ?_
        refine o_aload_n dX5_isDone_207 rfl rfl ?_
        refine o_getf (j := 0) dX5_isDone_208 rfl hcX5 inX5 (Nat.le_of_ble_eq_true rfl) wd686 rfl rfl ?_
        refine o_iload_n dX5_isDone_211 rfl rfl ?_
        refine o_iconst dX5_isDone_212 ic_4 ?_
        refine o_callSr (is := []) (ofD4) ⟨rfl, rfl⟩ dX5_isDone_213 wd777 csX5_ofD rfl ⟨(Nat.le_of_ble_eq_true rfl), (Nat.le_of_ble_eq_true rfl)⟩ rfl rfl rfl (Nat.le_of_ble_eq_true rfl) (Nat.le_of_ble_eq_true rfl) (Nat.le_of_ble_eq_true rfl) ?_
        refine o_dup2 dX5_isDone_216 rfl rfl ?_
        refine o_ialp (i := 9 + 5 * d) dX5_isDone_217 rfl (rfl) (by omega) ?_
        refine o_iconst dX5_isDone_218 ic_1 ?_
        refine o_ixor dX5_isDone_219 ?_
        refine o_iasp (i := 9 + 5 * d) dX5_isDone_220 rfl (rfl) (by omega) rfl ?_
        refine o_iconst dX5_isDone_221 ic_1 ?_
        refine o_iret dX5_isDone_222 rfl (by first | exact nz_b _ | decide) (Nat.le_of_ble_eq_true rfl) (Nat.le_of_ble_eq_true rfl) ?_
        exact DNP.yes (by rw [dnS_119, hin, ec]; rfl)
      · have hno := bI_0.mp c_202
        refine o_iconst dX5_isDone_205 ic_0 ?_
        refine o_iret dX5_isDone_206 rfl (by first | exact nz_b _ | decide) (Nat.le_of_ble_eq_true rfl) (Nat.le_of_ble_eq_true rfl) ?_
        exact DNP.no (by rw [dnS_119, hno]; rfl)
    | j + 20, hj, _ => exact absurd hj (by omega)
