abbrev St : Type := (Nat → Int32) × (Nat → Int32) × Int32 × (Nat → Int32) × Nat × (Nat → Int32) × Nat × (Nat → Int32)
/-- the model's world at a state: town, image, whether there is one, letters and how many, row and how many, refusals -/
def mSt (σ : St) (m wa fr : Nat → Int32) (pl : Int32) (nu : Nat → Int32) (sd : Int32) : PW := mW σ.1 m σ.2.1 wa fr σ.2.2.1 σ.2.2.2.1 σ.2.2.2.2.2.1 σ.2.2.2.2.2.2.2 (nI σ.2.2.2.2.1) (nI σ.2.2.2.2.2.2.1) pl nu sd
abbrev Res : Type := Option Value × St
def MP (res : Res) : Option Value → PW → Prop := fun a w => ∃ (m wa fr : Nat → Int32) (pl : Int32) (nu : Nat → Int32) (sd : Int32), a = res.1 ∧ w = mSt res.2 m wa fr pl nu sd
theorem MP.mk {res : Res} {a : Option Value} {σ : St} {m wa fr : Nat → Int32} {pl : Int32} {nu : Nat → Int32} {sd : Int32} (h : res = (a, σ)) : MP res a (mSt σ m wa fr pl nu sd) := ⟨m, wa, fr, pl, nu, sd, by rw [h], by rw [h]⟩
def dN (r : Nat → Int32) : Nat := cN (r 0)
def nN (r : Nat → Int32) : Nat := cN (r 1)
def farOf (r : Nat → Int32) : Nat → Nat := frT (fA r) (fB r) (dN r)
def hrs (r : Nat → Int32) (n : Nat) : Nat → Int32 := hoursM (farOf r) (dN r) (nN r) r n
def SOk (r : Nat → Int32) : Prop := MOk r (dN r) (nN r) (cN (r 2)) ∧ nN r ≤ 6 ∧ cN (r 2) ≤ 999 ∧ (∀ d, d < dN r → r (7 + 5 * d) ≠ r (8 + 5 * d) ∧ (r (9 + 5 * d) = 0 ∨ r (9 + 5 * d) = 1)) ∧ (∀ p, p < nN r → FgI (r (52 + 3 * p))) ∧ r 4 = 0
def inR (D : Nat) (x : Int32) : Bool := !decide (x < 0) && !decide (nI D ≤ x)
theorem cN_nI {d : Nat} (h : d < 2147483648) : cN (nI d) = d := nI_clamp h
theorem inR_yes {D : Nat} {x : Int32} (hD : D < 2147483648) (h : inR D x = true) : ∃ d, d < D ∧ x = nI d := by
  simp only [inR, Bool.and_eq_true, Bool.not_eq_true', decide_eq_false_iff_not] at h
  exact vp_in_of (vp_of hD h.1 h.2) hD
theorem inR_nI {D d : Nat} (hD : D < 2147483648) (h : d < D) : inR D (nI d) = true := by
  simp only [inR, nI_pos (Nat.lt_trans h hD), nI_ge h hD, decide_false, Bool.not_false, Bool.and_self]
theorem inR_eq {D : Nat} {x : Int32} (hD : D < 1000) : isInB x 0 (nI D - 1) = inR D x := by
  have e1 : (nI D - 1).toInt = (D : Int) - 1 := pk_sub_toInt (b := 1) (by omega) (by omega)
  have e2 : (nI D).toInt = (D : Int) := nI_toInt (by omega)
  have h1 : (nI D - 1 < x) ↔ nI D ≤ x := by rw [Int32.lt_iff_toInt_lt, Int32.le_iff_toInt_le, e1, e2]; omega
  simp only [isInB, inR, h1]
theorem isInB_eq {x : Int32} : ∀ k, k < 100 → isInB x 0 (nI k) = inR (k + 1) x := fun k hk => by
  have := inR_eq (D := k + 1) (x := x) (by omega)
  rwa [nI_pred] at this
def rfu (rf : Nat → Int32) (k : Nat) : Nat → Int32 := upd rf k (rf k + 1)
def noR (σ : St) (k : Nat) : Res := match σ with
  | (r, im, hi, lt, L, rw, R, rf) => (some (.int (-nI k)), (r, im, hi, lt, L, rw, R, rfu rf k))
def noL (σ : St) (k : Nat) : Res := match σ with
  | (r, im, hi, lt, L, rw, R, rf) => (some (.long (4000000000000000000 - (-nI k).toInt64)), (r, im, hi, lt, L, rw, R, rfu rf k))
def s_letter (c : Int32) (σ : St) : Res := match σ with
  | (r, im, hi, lt, L, rw, R, rf) => if c < 0 then noR σ 4 else if 255 < c ∨ L = 96 then noR σ 6 else (some (.int (nI (L + 1))), (r, im, hi, upd lt L c, L + 1, rw, R, rf))
def s_door (d w : Int32) (σ : St) : Res := if inR (dN σ.1) d then (if inR 5 w then (some (.int (σ.1 (5 + 5 * cN d + cN w))), σ) else noR σ 2) else noR σ 1
def s_person (p w : Int32) (σ : St) : Res := if inR (nN σ.1) p then (if inR 3 w then (some (.int (σ.1 (50 + 3 * cN p + cN w))), σ) else if w = 3 then (some (.int (doorM σ.1 (farOf σ.1) (dN σ.1) (nN σ.1) (cN p) (σ.1 2 + 1))), σ) else noR σ 2) else noR σ 1
def stR (σ : St) (r : Nat → Int32) : St := (r, σ.2)
def s_wedges (d : Int32) (σ : St) : Res := if inR (dN σ.1) d then (some (.int (σ.1 (9 + 5 * cN d) ^^^ 1)), stR σ (upd σ.1 (9 + 5 * cN d) (σ.1 (9 + 5 * cN d) ^^^ 1))) else noR σ 1
def tnR (r : Nat → Int32) (d : Nat) : Nat → Int32 := upd (upd r (7 + 5 * d) (r (8 + 5 * d))) (8 + 5 * d) (r (7 + 5 * d))
def s_turns (d : Int32) (σ : St) : Res := if inR (dN σ.1) d then (some (.int (σ.1 (7 + 5 * cN d))), stR σ (tnR σ.1 (cN d))) else noR σ 1
def s_sets (b : Nat) (p x : Int32) (σ : St) : Res := if inR (nN σ.1) p && inR 8 x then (some (.int (σ.1 (b + 3 * cN p))), stR σ (upd σ.1 (b + 3 * cN p) x)) else noR σ 1
def wrB (v : Int32) (M : Nat) (σ : St) (t : Res) : Res := if v < 0 then noR σ 4 else if nI M < v then noR σ 6 else t
def s_moods (p v : Int32) (σ : St) : Res := if inR (nN σ.1) p then wrB v 9 σ (some (.int (σ.1 (52 + 3 * cN p))), stR σ (upd σ.1 (52 + 3 * cN p) v)) else noR σ 1
def s_changes (d k f : Int32) (σ : St) : Res := if inR (dN σ.1) d then (if inR 6 k then wrB f 9 σ (some (.int (10 * σ.1 (5 + 5 * cN d) + σ.1 (6 + 5 * cN d))), stR σ (upd (upd σ.1 (5 + 5 * cN d) k) (6 + 5 * cN d) f)) else noR σ 2) else noR σ 1
def s_hours (n : Int32) (σ : St) : Res := if n < 1 then noR σ 4 else if 60 < n ∨ 999 < σ.1 2 + n then noR σ 6 else (some (.int (bitsM (homeM (hrs σ.1 (cN n)) (nN σ.1)) 9)), stR σ (hrs σ.1 (cN n)))
def s_personThen (p n w : Int32) (σ : St) : Res := if inR (nN σ.1) p then wrB n 60 σ (if inR 2 w then (some (.int (hrs σ.1 (cN n) (if w = 0 then 50 + 3 * cN p else 52 + 3 * cN p))), σ) else noR σ 2) else noR σ 1
def s_letThen (n : Int32) (σ : St) : Res := wrB n 60 σ (some (.int (hrs σ.1 (cN n) 3)), σ)
def cmF (r : Nat → Int32) (p : Nat) (x : Int32) : Int32 := dfS (fun n => decide (hrs r n (50 + 3 * p) = x)) 61 0
def ahF (r : Nat → Int32) : Int32 := dfS (fun n => decide (bitsM (homeM (hrs r n) (nN r)) 9 = nI (nN r))) 61 0
def s_comes (p x : Int32) (σ : St) : Res := if inR (nN σ.1) p && inR 8 x then (some (.int (cmF σ.1 (cN p) x)), σ) else noR σ 1
def s_home (p : Int32) (σ : St) : Res := if p = -1 then (some (.int (ahF σ.1)), σ) else if inR (nN σ.1) p then (some (.int (cmF σ.1 (cN p) (σ.1 (51 + 3 * cN p)))), σ) else noR σ 1
theorem SOk.T {r : Nat → Int32} (h : SOk r) : TOk r (dN r) (nN r) := h.1.1
theorem SOk.d9 {r : Nat → Int32} (h : SOk r) : dN r ≤ 9 := h.1.1.2.1
theorem SOk.n6 {r : Nat → Int32} (h : SOk r) : nN r ≤ 6 := h.2.1
theorem SOk.e0 {r : Nat → Int32} (h : SOk r) : r 0 = nI (dN r) := h.1.1.1
theorem SOk.e1 {r : Nat → Int32} (h : SOk r) : r 1 = nI (nN r) := h.1.1.2.2.1
theorem SOk.e2 {r : Nat → Int32} (h : SOk r) : r 2 = nI (cN (r 2)) := h.1.2.2
theorem hrs_n {r : Nat → Int32} (h : SOk r) (n : Nat) : hrs r n 1 = nI (nN r) := (h.1.hours (g := farOf r) n).1.2.2.1
theorem tX5_no {r m im wa fr lt rw rf nu : Nat → Int32} {hi pl sd : Int32} {L R : Nat} {x : Int32} {c : Nat} (hx : -x = nI c) (hc : c < 7) : PD mX5_no [.ref 0, .int x] (mW r m im wa fr hi lt rw rf (nI L) (nI R) pl nu sd) (some (.int x)) (mW r m im wa fr hi lt rw (rfu rf c) (nI L) (nI R) pl nu sd) := by
  refine PM.ofp 0 (by decide) (Nat.le_of_ble_eq_true rfl) ?_
  show Ok mX5_no none 0 [some (.ref 0), some (.int x)] [] (mW r m im wa fr hi lt rw rf (nI L) (nI R) pl nu sd) 0 0 _
  refine o_aload_n dX5_no_0 rfl rfl ?_
  refine o_getf (j := 8) dX5_no_1 rfl hcX5 inX5 (Nat.le_of_ble_eq_true rfl) wd694 rfl rfl ?_
  refine o_iload_n dX5_no_4 rfl rfl ?_
  refine o_ineg dX5_no_5 ?_
  refine o_dup2 dX5_no_6 rfl rfl ?_
  refine o_ialp (i := c) dX5_no_7 rfl (hx) (hc) ?_
  refine o_iconst dX5_no_8 ic_1 ?_
  refine o_iadd dX5_no_9 ?_
  refine o_iasp (i := c) dX5_no_10 rfl (hx) (hc) rfl ?_
  refine o_iload_n dX5_no_11 rfl rfl ?_
  refine o_iret dX5_no_12 rfl (vp_nar_int _) (Nat.le_of_ble_eq_true rfl) (Nat.le_of_ble_eq_true rfl) ?_
  exact ⟨rfl, rfl⟩
theorem tX5_noWide {r m im wa fr lt rw rf nu : Nat → Int32} {hi pl sd : Int32} {L R : Nat} {x : Int32} {c : Nat} (hx : -x = nI c) (hc : c < 7) : PD mX5_noWide [.ref 0, .int x] (mW r m im wa fr hi lt rw rf (nI L) (nI R) pl nu sd) (some (.long (4000000000000000000 - x.toInt64))) (mW r m im wa fr hi lt rw (rfu rf c) (nI L) (nI R) pl nu sd) := by
  refine PM.ofp 0 (by decide) (Nat.le_of_ble_eq_true rfl) ?_
  show Ok mX5_noWide none 0 [some (.ref 0), some (.int x)] [] (mW r m im wa fr hi lt rw rf (nI L) (nI R) pl nu sd) 0 0 _
  refine o_ldc2 dX5_noWide_0 wd1009 ?_
  refine o_aload_n dX5_noWide_3 rfl rfl ?_
  refine o_iload_n dX5_noWide_4 rfl rfl ?_
  refine o_callVd (is := [0, 1, 2, 3, 4, 5, 6, 7, 8, 9]) (tX5_no hx hc) ⟨rfl, rfl⟩ dX5_noWide_5 wd733 cvX5_no rfl ⟨(Nat.le_of_ble_eq_true rfl), (Nat.le_of_ble_eq_true rfl)⟩ hcX5 rfl rfl rfl rfl (Nat.le_of_ble_eq_true rfl) (Nat.le_of_ble_eq_true rfl) (Nat.le_of_ble_eq_true rfl) rfl ?_
  refine o_i2l dX5_noWide_8 ?_
  refine o_lsub dX5_noWide_9 ?_
  refine o_lret dX5_noWide_10 rfl (Nat.le_of_ble_eq_true rfl) (Nat.le_of_ble_eq_true rfl) ?_
  exact ⟨rfl, rfl⟩
theorem tX5_isDoor {r m im wa fr lt rw rf nu : Nat → Int32} {hi pl sd : Int32} {L R : Nat} (hS : SOk r) {x : Int32} : PD mX5_isDoor [.ref 0, .int x] (mW r m im wa fr hi lt rw rf (nI L) (nI R) pl nu sd) (some (.int (bI (inR (dN r) x)))) (mW r m im wa fr hi lt rw rf (nI L) (nI R) pl nu sd) := by
  refine PM.ofp 0 (by decide) (Nat.le_of_ble_eq_true rfl) ?_
  show Ok mX5_isDoor none 0 [some (.ref 0), some (.int x)] [] (mW r m im wa fr hi lt rw rf (nI L) (nI R) pl nu sd) 0 0 _
  have h9 := hS.d9
  refine o_iload_n dX5_isDoor_0 rfl rfl ?_
  refine o_iconst dX5_isDoor_1 ic_0 ?_
  refine o_aload_n dX5_isDoor_2 rfl rfl ?_
  refine o_getf (j := 0) dX5_isDoor_3 rfl hcX5 inX5 (Nat.le_of_ble_eq_true rfl) wd686 rfl rfl ?_
  refine o_iconst dX5_isDoor_6 ic_0 ?_
  refine o_ialp (i := 0) dX5_isDoor_7 rfl (rfl) (by decide) ?_
  refine o_iconst dX5_isDoor_8 ic_1 ?_
  refine o_isub dX5_isDoor_9 ?_
  refine o_callSr (is := []) (tX5_isIn) ⟨rfl, rfl⟩ dX5_isDoor_10 wd760 csX5_isIn rfl ⟨(Nat.le_of_ble_eq_true rfl), (Nat.le_of_ble_eq_true rfl)⟩ rfl rfl rfl (Nat.le_of_ble_eq_true rfl) (Nat.le_of_ble_eq_true rfl) (Nat.le_of_ble_eq_true rfl) ?_
  refine o_iret dX5_isDoor_13 rfl (by first | exact nz_b _ | decide) (Nat.le_of_ble_eq_true rfl) (Nat.le_of_ble_eq_true rfl) ?_
  exact ⟨by rw [hS.e0, inR_eq (by omega)], rfl⟩
theorem tX5_isPerson {r m im wa fr lt rw rf nu : Nat → Int32} {hi pl sd : Int32} {L R : Nat} (hS : SOk r) {x : Int32} : PD mX5_isPerson [.ref 0, .int x] (mW r m im wa fr hi lt rw rf (nI L) (nI R) pl nu sd) (some (.int (bI (inR (nN r) x)))) (mW r m im wa fr hi lt rw rf (nI L) (nI R) pl nu sd) := by
  refine PM.ofp 0 (by decide) (Nat.le_of_ble_eq_true rfl) ?_
  show Ok mX5_isPerson none 0 [some (.ref 0), some (.int x)] [] (mW r m im wa fr hi lt rw rf (nI L) (nI R) pl nu sd) 0 0 _
  have h9 := hS.n6
  refine o_iload_n dX5_isPerson_0 rfl rfl ?_
  refine o_iconst dX5_isPerson_1 ic_0 ?_
  refine o_aload_n dX5_isPerson_2 rfl rfl ?_
  refine o_getf (j := 0) dX5_isPerson_3 rfl hcX5 inX5 (Nat.le_of_ble_eq_true rfl) wd686 rfl rfl ?_
  refine o_iconst dX5_isPerson_6 ic_1 ?_
  refine o_ialp (i := 1) dX5_isPerson_7 rfl (rfl) (by decide) ?_
  refine o_iconst dX5_isPerson_8 ic_1 ?_
  refine o_isub dX5_isPerson_9 ?_
  refine o_callSr (is := []) (tX5_isIn) ⟨rfl, rfl⟩ dX5_isPerson_10 wd760 csX5_isIn rfl ⟨(Nat.le_of_ble_eq_true rfl), (Nat.le_of_ble_eq_true rfl)⟩ rfl rfl rfl (Nat.le_of_ble_eq_true rfl) (Nat.le_of_ble_eq_true rfl) (Nat.le_of_ble_eq_true rfl) ?_
  refine o_iret dX5_isPerson_13 rfl (by first | exact nz_b _ | decide) (Nat.le_of_ble_eq_true rfl) (Nat.le_of_ble_eq_true rfl) ?_
  exact ⟨by rw [hS.e1, inR_eq (by omega)], rfl⟩
theorem tX5_areWrong {r m im wa fr lt rw rf nu : Nat → Int32} {hi pl sd : Int32} {L R : Nat} (hS : SOk r) {x y : Int32} : PD mX5_areWrong [.ref 0, .int x, .int y] (mW r m im wa fr hi lt rw rf (nI L) (nI R) pl nu sd) (some (.int (bI (!(inR (nN r) x && inR 8 y))))) (mW r m im wa fr hi lt rw rf (nI L) (nI R) pl nu sd) := by
  refine PM.ofp 0 (by decide) (Nat.le_of_ble_eq_true rfl) ?_
  show Ok mX5_areWrong none 0 [some (.ref 0), some (.int x), some (.int y)] [] (mW r m im wa fr hi lt rw rf (nI L) (nI R) pl nu sd) 0 0 _
  refine o_aload_n dX5_areWrong_0 rfl rfl ?_
  refine o_iload_n dX5_areWrong_1 rfl rfl ?_
  refine o_callVr (is := [0, 1, 2, 3, 4, 5, 6, 7, 8, 9]) (tX5_isPerson hS) ⟨rfl, rfl⟩ dX5_areWrong_2 wd786 cvX5_isPerson rfl ⟨(Nat.le_of_ble_eq_true rfl), (Nat.le_of_ble_eq_true rfl)⟩ hcX5 rfl rfl rfl rfl (Nat.le_of_ble_eq_true rfl) (Nat.le_of_ble_eq_true rfl) (Nat.le_of_ble_eq_true rfl) ?_
  refine o_if_eq (tgt := 15) dX5_areWrong_5 (by decide) (fun c_5 => ?_) (fun c_5 => ?_)
  · skip
    refine o_iconst dX5_areWrong_15 ic_1 ?_
    refine o_goto (tgt := 20) dX5_areWrong_16 (by decide) ?_
    refine o_iret dX5_areWrong_20 rfl (by first | exact nz_b _ | decide) (Nat.le_of_ble_eq_true rfl) (Nat.le_of_ble_eq_true rfl) ?_
    exact ⟨by rw [bI_0.mp c_5]; rfl, rfl⟩
  · skip
    refine o_iload_n dX5_areWrong_8 rfl rfl ?_
    refine o_callSr (is := []) (tX5_isRoom) ⟨rfl, rfl⟩ dX5_areWrong_9 wd774 csX5_isRoom rfl ⟨(Nat.le_of_ble_eq_true rfl), (Nat.le_of_ble_eq_true rfl)⟩ rfl rfl rfl (Nat.le_of_ble_eq_true rfl) (Nat.le_of_ble_eq_true rfl) (Nat.le_of_ble_eq_true rfl) ?_
    refine o_if_ne (tgt := 19) dX5_areWrong_12 (by decide) (fun c_12 => ?_) (fun c_12 => ?_)
    · have q2 : inR 8 y = true := by rw [← isInB_eq 7 (by omega)]; exact bI_ne c_12
      refine o_iconst dX5_areWrong_19 ic_0 ?_
      refine o_iret dX5_areWrong_20 rfl (by first | exact nz_b _ | decide) (Nat.le_of_ble_eq_true rfl) (Nat.le_of_ble_eq_true rfl) ?_
      exact ⟨by rw [bI_ne c_5, q2]; rfl, rfl⟩
    · have q2 : inR 8 y = false := by rw [← isInB_eq 7 (by omega)]; exact bI_0.mp c_12
      refine o_iconst dX5_areWrong_15 ic_1 ?_
      refine o_goto (tgt := 20) dX5_areWrong_16 (by decide) ?_
      refine o_iret dX5_areWrong_20 rfl (by first | exact nz_b _ | decide) (Nat.le_of_ble_eq_true rfl) (Nat.le_of_ble_eq_true rfl) ?_
      exact ⟨by rw [bI_ne c_5, q2]; rfl, rfl⟩
theorem PM.mono {M : MI} {as : List Value} {w : PW} {P P2 : Option Value → PW → Prop} (h : PM M as w P) (hp : ∀ r w, P r w → P2 r w) : PM M as w P2 := fun l D cI ad sz => MetFree.mono (h l D cI ad sz) (fun _ _ q => q) (fun _ _ _ _ _ q => q) (fun a st o t _ q => by
  obtain ⟨⟨⟨r, w', ad', h1, h2, h3⟩, h4⟩, h5⟩ := q
  exact ⟨⟨⟨r, w', ad', h1, hp r w' h2, h3⟩, h4⟩, h5⟩)
theorem PD.toP {M : MI} {as : List Value} {w w2 : PW} {r : Option Value} {P : Option Value → PW → Prop} (h : PD M as w r w2) (hp : P r w2) : PM M as w P := PM.mono h (fun _ _ q => by obtain ⟨rfl, rfl⟩ := q; exact hp)
theorem bI_nt {b : Bool} (h : ¬ bI (!b) = 0) : b = false := by cases b with
  | false => rfl
  | true => exact absurd rfl h
theorem bI_n0 {b : Bool} (h : bI (!b) = 0) : b = true := by cases b with
  | true => rfl
  | false => exact absurd h (by decide)
def wrF (v a b : Int32) : Int32 := if v < a then -4 else if b < v then -6 else 0
theorem tX5_wrongBy {v a b : Int32} : PD mX5_wrongBy [.int v, .int a, .int b] ([]) (some (.int (wrF v a b))) ([]) := by
  refine PM.ofp 0 (by decide) (Nat.le_of_ble_eq_true rfl) ?_
  show Ok mX5_wrongBy none 0 [some (.int v), some (.int a), some (.int b)] [] ([]) 0 0 _
  refine o_iload_n dX5_wrongBy_0 rfl rfl ?_
  refine o_iload_n dX5_wrongBy_1 rfl rfl ?_
  refine o_icmp_ge (tgt := 10) dX5_wrongBy_2 (by decide) (fun c_2 => ?_) (fun c_2 => ?_)
  · have q1 : ¬ v < a := Int32.not_lt.mpr c_2
    refine o_iload_n dX5_wrongBy_10 rfl rfl ?_
    refine o_iload_n dX5_wrongBy_11 rfl rfl ?_
    refine o_icmp_le (tgt := 20) dX5_wrongBy_12 (by decide) (fun c_12 => ?_) (fun c_12 => ?_)
    · have q2 : ¬ b < v := Int32.not_lt.mpr c_12
      refine o_iconst dX5_wrongBy_20 ic_0 ?_
      refine o_iret dX5_wrongBy_21 rfl (vp_nar_int _) (Nat.le_of_ble_eq_true rfl) (Nat.le_of_ble_eq_true rfl) ?_
      exact ⟨by simp [wrF, *], rfl⟩
    · have q2 : b < v := Int32.not_le.mp c_12
      refine o_bipush dX5_wrongBy_15 bp_m6 ?_
      refine o_goto (tgt := 21) dX5_wrongBy_17 (by decide) ?_
      refine o_iret dX5_wrongBy_21 rfl (vp_nar_int _) (Nat.le_of_ble_eq_true rfl) (Nat.le_of_ble_eq_true rfl) ?_
      exact ⟨by simp [wrF, *], rfl⟩
  · have q1 : v < a := Int32.not_le.mp c_2
    refine o_bipush dX5_wrongBy_5 bp_m4 ?_
    refine o_goto (tgt := 21) dX5_wrongBy_7 (by decide) ?_
    refine o_iret dX5_wrongBy_21 rfl (vp_nar_int _) (Nat.le_of_ble_eq_true rfl) (Nat.le_of_ble_eq_true rfl) ?_
    exact ⟨by simp [wrF, *], rfl⟩
theorem tX5_letter {r m im wa fr lt rw rf nu : Nat → Int32} {hi pl sd : Int32} {L R : Nat} (hS : SOk r) {c : Int32} (hL : L ≤ 96) : PM mX5_letter [.ref 0, .int c] (mW r m im wa fr hi lt rw rf (nI L) (nI R) pl nu sd) (MP (s_letter c (r, im, hi, lt, L, rw, R, rf))) := by
  refine PM.ofp 0 (by decide) (Nat.le_of_ble_eq_true rfl) ?_
  show Ok mX5_letter none 0 [some (.ref 0), some (.int c)] [] (mW r m im wa fr hi lt rw rf (nI L) (nI R) pl nu sd) 0 0 _
  refine o_iload_n dX5_letter_0 rfl rfl ?_
  refine o_if_ge (tgt := 11) dX5_letter_1 (by decide) (fun c_1 => ?_) (fun c_1 => ?_)
  · have q1 : ¬ c < 0 := Int32.not_lt.mpr c_1
    refine o_iload_n dX5_letter_11 rfl rfl ?_
    refine o_sipush dX5_letter_12 sp_255 ?_
    refine o_icmp_gt (tgt := 27) dX5_letter_15 (by decide) (fun c_15 => ?_) (fun c_15 => ?_)
    · skip
      refine o_aload_n dX5_letter_27 rfl rfl ?_
      refine o_bipush dX5_letter_28 bp_m6 ?_
      refine o_callVd (is := [0, 1, 2, 3, 4, 5, 6, 7, 8, 9]) (tX5_no (c := 6) rfl (by decide)) ⟨rfl, rfl⟩ dX5_letter_30 wd733 cvX5_no rfl ⟨(Nat.le_of_ble_eq_true rfl), (Nat.le_of_ble_eq_true rfl)⟩ hcX5 rfl rfl rfl rfl (Nat.le_of_ble_eq_true rfl) (Nat.le_of_ble_eq_true rfl) (Nat.le_of_ble_eq_true rfl) rfl ?_
      refine o_iret dX5_letter_33 rfl (vp_nar_int _) (Nat.le_of_ble_eq_true rfl) (Nat.le_of_ble_eq_true rfl) ?_
      exact MP.mk (σ := (r, im, hi, lt, L, rw, R, rfu rf 6)) (by simp only [s_letter, if_neg q1, c_15, true_or, if_true]; rfl)
    · skip
      refine o_aload_n dX5_letter_18 rfl rfl ?_
      refine o_getf (j := 9) dX5_letter_19 rfl hcX5 inX5 (Nat.le_of_ble_eq_true rfl) wd695 rfl rfl ?_
      refine o_bipush dX5_letter_22 bp_96 ?_
      refine o_icmp_ne (tgt := 34) dX5_letter_24 (by decide) (fun c_24 => ?_) (fun c_24 => ?_)
      · have q3 : ¬ L = 96 := fun e => c_24 (by rw [e]; rfl)
        refine o_aload_n dX5_letter_34 rfl rfl ?_
        refine o_getf (j := 6) dX5_letter_35 rfl hcX5 inX5 (Nat.le_of_ble_eq_true rfl) wd692 rfl rfl ?_
        refine o_aload_n dX5_letter_38 rfl rfl ?_
        refine o_getf (j := 9) dX5_letter_39 rfl hcX5 inX5 (Nat.le_of_ble_eq_true rfl) wd695 rfl rfl ?_
        refine o_iload_n dX5_letter_42 rfl rfl ?_
        refine o_iasp (i := L) dX5_letter_43 rfl (rfl) (by omega) rfl ?_
        skip
        refine o_aload_n dX5_letter_44 rfl rfl ?_
        refine o_dup dX5_letter_45 rfl ?_
        refine o_getf (j := 9) dX5_letter_46 rfl hcX5 inX5 (Nat.le_of_ble_eq_true rfl) wd695 rfl rfl ?_
        refine o_iconst dX5_letter_49 ic_1 ?_
        refine o_iadd dX5_letter_50 ?_
        refine o_putf (j := 9) tyX5 dX5_letter_51 rfl hcX5 inX5 tyX5_ok nmX5 (Nat.le_of_ble_eq_true rfl) wd695 rfl rfl (fun _ => vp_nar_int _) (fun _ => rfl) (Nat.le_of_ble_eq_true rfl) rfl ?_
        refine o_eqw (w2 := mW r m im wa fr hi (upd lt L c) rw rf (nI (L + 1)) (nI R) pl nu sd) (by rw [← nI_1]; rfl) ?_
        refine o_aload_n dX5_letter_54 rfl rfl ?_
        refine o_getf (j := 9) dX5_letter_55 rfl hcX5 inX5 (Nat.le_of_ble_eq_true rfl) wd695 rfl rfl ?_
        refine o_iret dX5_letter_58 rfl (vp_nar_int _) (Nat.le_of_ble_eq_true rfl) (Nat.le_of_ble_eq_true rfl) ?_
        exact MP.mk (σ := (r, im, hi, upd lt L c, L + 1, rw, R, rf)) (by simp only [s_letter, if_neg q1, c_15, q3, or_self, if_false])
      · have q3 : L = 96 := (nI_eq (b := 96) (by omega) (by omega)).mp c_24
        refine o_aload_n dX5_letter_27 rfl rfl ?_
        refine o_bipush dX5_letter_28 bp_m6 ?_
        refine o_callVd (is := [0, 1, 2, 3, 4, 5, 6, 7, 8, 9]) (tX5_no (c := 6) rfl (by decide)) ⟨rfl, rfl⟩ dX5_letter_30 wd733 cvX5_no rfl ⟨(Nat.le_of_ble_eq_true rfl), (Nat.le_of_ble_eq_true rfl)⟩ hcX5 rfl rfl rfl rfl (Nat.le_of_ble_eq_true rfl) (Nat.le_of_ble_eq_true rfl) (Nat.le_of_ble_eq_true rfl) rfl ?_
        refine o_iret dX5_letter_33 rfl (vp_nar_int _) (Nat.le_of_ble_eq_true rfl) (Nat.le_of_ble_eq_true rfl) ?_
        exact MP.mk (σ := (r, im, hi, lt, L, rw, R, rfu rf 6)) (by simp only [s_letter, if_neg q1, q3, or_true, if_true]; rfl)
  · have q1 : c < 0 := Int32.not_le.mp c_1
    refine o_aload_n dX5_letter_4 rfl rfl ?_
    refine o_bipush dX5_letter_5 bp_m4 ?_
    refine o_callVd (is := [0, 1, 2, 3, 4, 5, 6, 7, 8, 9]) (tX5_no (c := 4) rfl (by decide)) ⟨rfl, rfl⟩ dX5_letter_7 wd733 cvX5_no rfl ⟨(Nat.le_of_ble_eq_true rfl), (Nat.le_of_ble_eq_true rfl)⟩ hcX5 rfl rfl rfl rfl (Nat.le_of_ble_eq_true rfl) (Nat.le_of_ble_eq_true rfl) (Nat.le_of_ble_eq_true rfl) rfl ?_
    refine o_iret dX5_letter_10 rfl (vp_nar_int _) (Nat.le_of_ble_eq_true rfl) (Nat.le_of_ble_eq_true rfl) ?_
    exact MP.mk (σ := (r, im, hi, lt, L, rw, R, rfu rf 4)) (by simp only [s_letter, if_pos q1]; rfl)
theorem ofDu {d u : Nat} : PD mX5_ofD [.int (nI d), .int (nI u)] [] (some (.int (nI (5 + 5 * d + u)))) [] := tX5_ofD.mono (by rw [show (5 : Int32) = nI 5 from rfl, pk_mul, nI_add, nI_add])
theorem ofPu {d u : Nat} : PD mX5_ofP [.int (nI d), .int (nI u)] [] (some (.int (nI (50 + 3 * d + u)))) [] := tX5_ofP.mono (by rw [show (50 : Int32) = nI 50 from rfl, show (3 : Int32) = nI 3 from rfl, pk_mul, nI_add, nI_add])
theorem tX5_door {r m im wa fr lt rw rf nu : Nat → Int32} {hi pl sd : Int32} {L R : Nat} (hS : SOk r) {x w : Int32} : PM mX5_door [.ref 0, .int x, .int w] (mW r m im wa fr hi lt rw rf (nI L) (nI R) pl nu sd) (MP (s_door x w (r, im, hi, lt, L, rw, R, rf))) := by
  refine PM.ofp 0 (by decide) (Nat.le_of_ble_eq_true rfl) ?_
  show Ok mX5_door none 0 [some (.ref 0), some (.int x), some (.int w)] [] (mW r m im wa fr hi lt rw rf (nI L) (nI R) pl nu sd) 0 0 _
  refine o_aload_n dX5_door_0 rfl rfl ?_
  refine o_iload_n dX5_door_1 rfl rfl ?_
  refine o_callVr (is := [0, 1, 2, 3, 4, 5, 6, 7, 8, 9]) (tX5_isDoor hS) ⟨rfl, rfl⟩ dX5_door_2 wd790 cvX5_isDoor rfl ⟨(Nat.le_of_ble_eq_true rfl), (Nat.le_of_ble_eq_true rfl)⟩ hcX5 rfl rfl rfl rfl (Nat.le_of_ble_eq_true rfl) (Nat.le_of_ble_eq_true rfl) (Nat.le_of_ble_eq_true rfl) ?_
  refine o_if_ne (tgt := 14) dX5_door_5 (by decide) (fun c_5 => ?_) (fun c_5 => ?_)
  · obtain ⟨d, hd, rfl⟩ := inR_yes (by have := hS.d9; omega) (bI_ne c_5)
    have h9 := hS.d9
    have hin := inR_nI (D := dN r) (by omega) hd
    have ec := cN_nI (d := d) (by omega)
    refine o_iload_n dX5_door_14 rfl rfl ?_
    refine o_iconst dX5_door_15 ic_0 ?_
    refine o_iconst dX5_door_16 ic_4 ?_
    refine o_callSr (is := []) (tX5_isIn) ⟨rfl, rfl⟩ dX5_door_17 wd760 csX5_isIn rfl ⟨(Nat.le_of_ble_eq_true rfl), (Nat.le_of_ble_eq_true rfl)⟩ rfl rfl rfl (Nat.le_of_ble_eq_true rfl) (Nat.le_of_ble_eq_true rfl) (Nat.le_of_ble_eq_true rfl) ?_
    refine o_if_eq (tgt := 36) dX5_door_20 (by decide) (fun c_20 => ?_) (fun c_20 => ?_)
    · have hnu : inR 5 w = false := by rw [← isInB_eq 4 (by omega)]; exact bI_0.mp c_20
      refine o_aload_n dX5_door_36 rfl rfl ?_
      refine o_bipush dX5_door_37 bp_m2 ?_
      refine o_callVd (is := [0, 1, 2, 3, 4, 5, 6, 7, 8, 9]) (tX5_no (c := 2) rfl (by decide)) ⟨rfl, rfl⟩ dX5_door_39 wd733 cvX5_no rfl ⟨(Nat.le_of_ble_eq_true rfl), (Nat.le_of_ble_eq_true rfl)⟩ hcX5 rfl rfl rfl rfl (Nat.le_of_ble_eq_true rfl) (Nat.le_of_ble_eq_true rfl) (Nat.le_of_ble_eq_true rfl) rfl ?_
      refine o_iret dX5_door_42 rfl (vp_nar_int _) (Nat.le_of_ble_eq_true rfl) (Nat.le_of_ble_eq_true rfl) ?_
      exact MP.mk (σ := (r, im, hi, lt, L, rw, R, rfu rf 2)) (by simp only [s_door, hin, hnu, if_true]; rfl)
    · obtain ⟨u, hu, rfl⟩ := inR_yes (by omega) (by rw [← isInB_eq 4 (by omega)]; exact bI_ne c_20 : inR 5 _ = true)
      have hinu := inR_nI (D := 5) (by omega) hu
      have eu := cN_nI (d := u) (by omega)
      refine o_aload_n dX5_door_23 rfl rfl ?_
      refine o_getf (j := 0) dX5_door_24 rfl hcX5 inX5 (Nat.le_of_ble_eq_true rfl) wd686 rfl rfl ?_
      refine o_iload_n dX5_door_27 rfl rfl ?_
      refine o_iload_n dX5_door_28 rfl rfl ?_
      refine o_callSr (is := []) (ofDu) ⟨rfl, rfl⟩ dX5_door_29 wd777 csX5_ofD rfl ⟨(Nat.le_of_ble_eq_true rfl), (Nat.le_of_ble_eq_true rfl)⟩ rfl rfl rfl (Nat.le_of_ble_eq_true rfl) (Nat.le_of_ble_eq_true rfl) (Nat.le_of_ble_eq_true rfl) ?_
      refine o_ialp (i := 5 + 5 * d + u) dX5_door_32 rfl (rfl) (by omega) ?_
      refine o_goto (tgt := 42) dX5_door_33 (by decide) ?_
      refine o_iret dX5_door_42 rfl (vp_nar_int _) (Nat.le_of_ble_eq_true rfl) (Nat.le_of_ble_eq_true rfl) ?_
      exact MP.mk (σ := (r, im, hi, lt, L, rw, R, rf)) (by simp only [s_door, hin, hinu, if_true, ec, eu])
  · have hno := bI_0.mp c_5
    refine o_aload_n dX5_door_8 rfl rfl ?_
    refine o_iconst dX5_door_9 ic_m1 ?_
    refine o_callVd (is := [0, 1, 2, 3, 4, 5, 6, 7, 8, 9]) (tX5_no (c := 1) rfl (by decide)) ⟨rfl, rfl⟩ dX5_door_10 wd733 cvX5_no rfl ⟨(Nat.le_of_ble_eq_true rfl), (Nat.le_of_ble_eq_true rfl)⟩ hcX5 rfl rfl rfl rfl (Nat.le_of_ble_eq_true rfl) (Nat.le_of_ble_eq_true rfl) (Nat.le_of_ble_eq_true rfl) rfl ?_
    refine o_iret dX5_door_13 rfl (vp_nar_int _) (Nat.le_of_ble_eq_true rfl) (Nat.le_of_ble_eq_true rfl) ?_
    exact MP.mk (σ := (r, im, hi, lt, L, rw, R, rfu rf 1)) (by simp only [s_door, hno]; rfl)
theorem tX5_person {r m im wa fr lt rw rf nu : Nat → Int32} {hi pl sd : Int32} {L R : Nat} (hS : SOk r) {x w : Int32} : PM mX5_person [.ref 0, .int x, .int w] (mW r m im wa fr hi lt rw rf (nI L) (nI R) pl nu sd) (MP (s_person x w (r, im, hi, lt, L, rw, R, rf))) := by
  refine PM.ofp 0 (by decide) (Nat.le_of_ble_eq_true rfl) ?_
  show Ok mX5_person none 0 [some (.ref 0), some (.int x), some (.int w)] [] (mW r m im wa fr hi lt rw rf (nI L) (nI R) pl nu sd) 0 0 _
  refine o_aload_n dX5_person_0 rfl rfl ?_
  refine o_iload_n dX5_person_1 rfl rfl ?_
  refine o_callVr (is := [0, 1, 2, 3, 4, 5, 6, 7, 8, 9]) (tX5_isPerson hS) ⟨rfl, rfl⟩ dX5_person_2 wd786 cvX5_isPerson rfl ⟨(Nat.le_of_ble_eq_true rfl), (Nat.le_of_ble_eq_true rfl)⟩ hcX5 rfl rfl rfl rfl (Nat.le_of_ble_eq_true rfl) (Nat.le_of_ble_eq_true rfl) (Nat.le_of_ble_eq_true rfl) ?_
  refine o_if_ne (tgt := 14) dX5_person_5 (by decide) (fun c_5 => ?_) (fun c_5 => ?_)
  · obtain ⟨d, hd, rfl⟩ := inR_yes (by have := hS.n6; omega) (bI_ne c_5)
    have h9 := hS.n6
    have hin := inR_nI (D := nN r) (by omega) hd
    have ec := cN_nI (d := d) (by omega)
    refine o_iload_n dX5_person_14 rfl rfl ?_
    refine o_iconst dX5_person_15 ic_0 ?_
    refine o_iconst dX5_person_16 ic_2 ?_
    refine o_callSr (is := []) (tX5_isIn) ⟨rfl, rfl⟩ dX5_person_17 wd760 csX5_isIn rfl ⟨(Nat.le_of_ble_eq_true rfl), (Nat.le_of_ble_eq_true rfl)⟩ rfl rfl rfl (Nat.le_of_ble_eq_true rfl) (Nat.le_of_ble_eq_true rfl) (Nat.le_of_ble_eq_true rfl) ?_
    refine o_if_eq (tgt := 34) dX5_person_20 (by decide) (fun c_20 => ?_) (fun c_20 => ?_)
    · have hnu : inR 3 w = false := by rw [← isInB_eq 2 (by omega)]; exact bI_0.mp c_20
      refine o_iload_n dX5_person_34 rfl rfl ?_
      refine o_iconst dX5_person_35 ic_3 ?_
      refine o_icmp_eq (tgt := 46) dX5_person_36 (by decide) (fun c_36 => ?_) (fun c_36 => ?_)
      · skip
        refine o_aload_n dX5_person_46 rfl rfl ?_
        refine o_aload_n dX5_person_47 rfl rfl ?_
        refine o_getf (j := 0) dX5_person_48 rfl hcX5 inX5 (Nat.le_of_ble_eq_true rfl) wd686 rfl rfl ?_
        refine o_callVd (is := [0, 1, 2, 3, 4, 5, 6, 7, 8, 9]) (tX5_measures_s hS.T) ⟨rfl, rfl⟩ dX5_person_51 wd801 cvX5_measures rfl ⟨(Nat.le_of_ble_eq_true rfl), (Nat.le_of_ble_eq_true rfl)⟩ hcX5 rfl rfl rfl rfl (Nat.le_of_ble_eq_true rfl) (Nat.le_of_ble_eq_true rfl) (Nat.le_of_ble_eq_true rfl) rfl ?_
        refine o_aload_n dX5_person_54 rfl rfl ?_
        refine o_aload_n dX5_person_55 rfl rfl ?_
        refine o_getf (j := 0) dX5_person_56 rfl hcX5 inX5 (Nat.le_of_ble_eq_true rfl) wd686 rfl rfl ?_
        refine o_iload_n dX5_person_59 rfl rfl ?_
        refine o_aload_n dX5_person_60 rfl rfl ?_
        refine o_getf (j := 0) dX5_person_61 rfl hcX5 inX5 (Nat.le_of_ble_eq_true rfl) wd686 rfl rfl ?_
        refine o_iconst dX5_person_64 ic_2 ?_
        refine o_ialp (i := 2) dX5_person_65 rfl (rfl) (by decide) ?_
        refine o_iconst dX5_person_66 ic_1 ?_
        refine o_iadd dX5_person_67 ?_
        refine o_eqs (by rw [hS.e2, nI_1]) ?_
        refine o_callVr (is := [0, 1, 2, 3, 4, 5, 6, 7, 8, 9]) (tX5_doorOf_s frT_le hS.1 hd (by have := hS.2.2.1; omega)) ⟨rfl, rfl⟩ dX5_person_68 wd815 cvX5_doorOf rfl ⟨(Nat.le_of_ble_eq_true rfl), (Nat.le_of_ble_eq_true rfl)⟩ hcX5 rfl rfl rfl rfl (Nat.le_of_ble_eq_true rfl) (Nat.le_of_ble_eq_true rfl) (Nat.le_of_ble_eq_true rfl) ?_
        refine o_iret dX5_person_71 rfl (vp_nar_int _) (Nat.le_of_ble_eq_true rfl) (Nat.le_of_ble_eq_true rfl) ?_
        exact MP.mk (σ := (r, im, hi, lt, L, rw, R, rf)) (by rw [← nI_1, ← hS.e2]; simp only [s_person, hin, hnu, c_36, if_true, ec]; rfl)
      · skip
        refine o_aload_n dX5_person_39 rfl rfl ?_
        refine o_bipush dX5_person_40 bp_m2 ?_
        refine o_callVd (is := [0, 1, 2, 3, 4, 5, 6, 7, 8, 9]) (tX5_no (c := 2) rfl (by decide)) ⟨rfl, rfl⟩ dX5_person_42 wd733 cvX5_no rfl ⟨(Nat.le_of_ble_eq_true rfl), (Nat.le_of_ble_eq_true rfl)⟩ hcX5 rfl rfl rfl rfl (Nat.le_of_ble_eq_true rfl) (Nat.le_of_ble_eq_true rfl) (Nat.le_of_ble_eq_true rfl) rfl ?_
        refine o_iret dX5_person_45 rfl (vp_nar_int _) (Nat.le_of_ble_eq_true rfl) (Nat.le_of_ble_eq_true rfl) ?_
        exact MP.mk (σ := (r, im, hi, lt, L, rw, R, rfu rf 2)) (by simp only [s_person, hin, hnu, c_36, if_true, if_false]; rfl)
    · obtain ⟨u, hu, rfl⟩ := inR_yes (by omega) (by rw [← isInB_eq 2 (by omega)]; exact bI_ne c_20 : inR 3 _ = true)
      have hinu := inR_nI (D := 3) (by omega) hu
      have eu := cN_nI (d := u) (by omega)
      refine o_aload_n dX5_person_23 rfl rfl ?_
      refine o_getf (j := 0) dX5_person_24 rfl hcX5 inX5 (Nat.le_of_ble_eq_true rfl) wd686 rfl rfl ?_
      refine o_iload_n dX5_person_27 rfl rfl ?_
      refine o_iload_n dX5_person_28 rfl rfl ?_
      refine o_callSr (is := []) (ofPu) ⟨rfl, rfl⟩ dX5_person_29 wd783 csX5_ofP rfl ⟨(Nat.le_of_ble_eq_true rfl), (Nat.le_of_ble_eq_true rfl)⟩ rfl rfl rfl (Nat.le_of_ble_eq_true rfl) (Nat.le_of_ble_eq_true rfl) (Nat.le_of_ble_eq_true rfl) ?_
      refine o_ialp (i := 50 + 3 * d + u) dX5_person_32 rfl (rfl) (by omega) ?_
      refine o_iret dX5_person_33 rfl (vp_nar_int _) (Nat.le_of_ble_eq_true rfl) (Nat.le_of_ble_eq_true rfl) ?_
      exact MP.mk (σ := (r, im, hi, lt, L, rw, R, rf)) (by simp only [s_person, hin, hinu, if_true, ec, eu])
  · have hno := bI_0.mp c_5
    refine o_aload_n dX5_person_8 rfl rfl ?_
    refine o_iconst dX5_person_9 ic_m1 ?_
    refine o_callVd (is := [0, 1, 2, 3, 4, 5, 6, 7, 8, 9]) (tX5_no (c := 1) rfl (by decide)) ⟨rfl, rfl⟩ dX5_person_10 wd733 cvX5_no rfl ⟨(Nat.le_of_ble_eq_true rfl), (Nat.le_of_ble_eq_true rfl)⟩ hcX5 rfl rfl rfl rfl (Nat.le_of_ble_eq_true rfl) (Nat.le_of_ble_eq_true rfl) (Nat.le_of_ble_eq_true rfl) rfl ?_
    refine o_iret dX5_person_13 rfl (vp_nar_int _) (Nat.le_of_ble_eq_true rfl) (Nat.le_of_ble_eq_true rfl) ?_
    exact MP.mk (σ := (r, im, hi, lt, L, rw, R, rfu rf 1)) (by simp only [s_person, hno]; rfl)
theorem tX5_wedges {r m im wa fr lt rw rf nu : Nat → Int32} {hi pl sd : Int32} {L R : Nat} (hS : SOk r) {x : Int32} : PM mX5_wedges [.ref 0, .int x] (mW r m im wa fr hi lt rw rf (nI L) (nI R) pl nu sd) (MP (s_wedges x (r, im, hi, lt, L, rw, R, rf))) := by
  refine PM.ofp 0 (by decide) (Nat.le_of_ble_eq_true rfl) ?_
  show Ok mX5_wedges none 0 [some (.ref 0), some (.int x)] [] (mW r m im wa fr hi lt rw rf (nI L) (nI R) pl nu sd) 0 0 _
  refine o_aload_n dX5_wedges_0 rfl rfl ?_
  refine o_iload_n dX5_wedges_1 rfl rfl ?_
  refine o_callVr (is := [0, 1, 2, 3, 4, 5, 6, 7, 8, 9]) (tX5_isDoor hS) ⟨rfl, rfl⟩ dX5_wedges_2 wd790 cvX5_isDoor rfl ⟨(Nat.le_of_ble_eq_true rfl), (Nat.le_of_ble_eq_true rfl)⟩ hcX5 rfl rfl rfl rfl (Nat.le_of_ble_eq_true rfl) (Nat.le_of_ble_eq_true rfl) (Nat.le_of_ble_eq_true rfl) ?_
  refine o_if_ne (tgt := 14) dX5_wedges_5 (by decide) (fun c_5 => ?_) (fun c_5 => ?_)
  · obtain ⟨d, hd, rfl⟩ := inR_yes (by have := hS.d9; omega) (bI_ne c_5)
    have h9 := hS.d9
    have hin := inR_nI (D := dN r) (by omega) hd
    have ec := cN_nI (d := d) (by omega)
    refine o_aload_n dX5_wedges_14 rfl rfl ?_
    refine o_getf (j := 0) dX5_wedges_15 rfl hcX5 inX5 (Nat.le_of_ble_eq_true rfl) wd686 rfl rfl ?_
    refine o_iload_n dX5_wedges_18 rfl rfl ?_
    refine o_iconst dX5_wedges_19 ic_4 ?_
    refine o_callSr (is := []) (ofD4) ⟨rfl, rfl⟩ dX5_wedges_20 wd777 csX5_ofD rfl ⟨(Nat.le_of_ble_eq_true rfl), (Nat.le_of_ble_eq_true rfl)⟩ rfl rfl rfl (Nat.le_of_ble_eq_true rfl) (Nat.le_of_ble_eq_true rfl) (Nat.le_of_ble_eq_true rfl) ?_
    refine o_dup2 dX5_wedges_23 rfl rfl ?_
    refine o_ialp (i := 9 + 5 * d) dX5_wedges_24 rfl (rfl) (by omega) ?_
    refine o_iconst dX5_wedges_25 ic_1 ?_
    refine o_ixor dX5_wedges_26 ?_
    refine o_iasp (i := 9 + 5 * d) dX5_wedges_27 rfl (rfl) (by omega) rfl ?_
    refine o_aload_n dX5_wedges_28 rfl rfl ?_
    refine o_getf (j := 0) dX5_wedges_29 rfl hcX5 inX5 (Nat.le_of_ble_eq_true rfl) wd686 rfl rfl ?_
    refine o_iload_n dX5_wedges_32 rfl rfl ?_
    refine o_iconst dX5_wedges_33 ic_4 ?_
    refine o_callSr (is := []) (ofD4) ⟨rfl, rfl⟩ dX5_wedges_34 wd777 csX5_ofD rfl ⟨(Nat.le_of_ble_eq_true rfl), (Nat.le_of_ble_eq_true rfl)⟩ rfl rfl rfl (Nat.le_of_ble_eq_true rfl) (Nat.le_of_ble_eq_true rfl) (Nat.le_of_ble_eq_true rfl) ?_
    refine o_ialp (i := 9 + 5 * d) dX5_wedges_37 rfl (rfl) (by omega) ?_
    refine o_iret dX5_wedges_38 rfl (vp_nar_int _) (Nat.le_of_ble_eq_true rfl) (Nat.le_of_ble_eq_true rfl) ?_
    exact MP.mk (σ := (upd r (9 + 5 * d) (r (9 + 5 * d) ^^^ 1), im, hi, lt, L, rw, R, rf)) (by rw [upd_eq]; simp only [s_wedges, hin, if_true, ec, stR])
  · have hno := bI_0.mp c_5
    refine o_aload_n dX5_wedges_8 rfl rfl ?_
    refine o_iconst dX5_wedges_9 ic_m1 ?_
    refine o_callVd (is := [0, 1, 2, 3, 4, 5, 6, 7, 8, 9]) (tX5_no (c := 1) rfl (by decide)) ⟨rfl, rfl⟩ dX5_wedges_10 wd733 cvX5_no rfl ⟨(Nat.le_of_ble_eq_true rfl), (Nat.le_of_ble_eq_true rfl)⟩ hcX5 rfl rfl rfl rfl (Nat.le_of_ble_eq_true rfl) (Nat.le_of_ble_eq_true rfl) (Nat.le_of_ble_eq_true rfl) rfl ?_
    refine o_iret dX5_wedges_13 rfl (vp_nar_int _) (Nat.le_of_ble_eq_true rfl) (Nat.le_of_ble_eq_true rfl) ?_
    exact MP.mk (σ := (r, im, hi, lt, L, rw, R, rfu rf 1)) (by simp only [s_wedges, hno]; rfl)
theorem tX5_turnsIn {r : Nat → Int32} {d : Nat} (hd : d < 9) : PD mX5_turnsIn [.ref 0, .int (nI d)] ([.inl (71, r)]) (none) ([.inl (71, tnR r d)]) := by
  refine PM.ofp 1 (by decide) (Nat.le_of_ble_eq_true rfl) ?_
  show Ok mX5_turnsIn none 0 [some (.ref 0), some (.int (nI d)), none] [] ([.inl (71, r)]) 0 0 _
  refine o_aload_n dX5_turnsIn_0 rfl rfl ?_
  refine o_iload_n dX5_turnsIn_1 rfl rfl ?_
  refine o_iconst dX5_turnsIn_2 ic_2 ?_
  refine o_callSr (is := []) (ofD2) ⟨rfl, rfl⟩ dX5_turnsIn_3 wd777 csX5_ofD rfl ⟨(Nat.le_of_ble_eq_true rfl), (Nat.le_of_ble_eq_true rfl)⟩ rfl rfl rfl (Nat.le_of_ble_eq_true rfl) (Nat.le_of_ble_eq_true rfl) (Nat.le_of_ble_eq_true rfl) ?_
  refine o_ialp (i := 7 + 5 * d) dX5_turnsIn_6 rfl (rfl) (by omega) ?_
  refine o_istn_2 dX5_turnsIn_7 rfl rfl (Nat.le_of_ble_eq_true rfl) ?_
  refine o_aload_n dX5_turnsIn_8 rfl rfl ?_
  refine o_iload_n dX5_turnsIn_9 rfl rfl ?_
  refine o_iconst dX5_turnsIn_10 ic_2 ?_
  refine o_callSr (is := []) (ofD2) ⟨rfl, rfl⟩ dX5_turnsIn_11 wd777 csX5_ofD rfl ⟨(Nat.le_of_ble_eq_true rfl), (Nat.le_of_ble_eq_true rfl)⟩ rfl rfl rfl (Nat.le_of_ble_eq_true rfl) (Nat.le_of_ble_eq_true rfl) (Nat.le_of_ble_eq_true rfl) ?_
  refine o_aload_n dX5_turnsIn_14 rfl rfl ?_
  refine o_iload_n dX5_turnsIn_15 rfl rfl ?_
  refine o_iconst dX5_turnsIn_16 ic_3 ?_
  refine o_callSr (is := []) (ofD3) ⟨rfl, rfl⟩ dX5_turnsIn_17 wd777 csX5_ofD rfl ⟨(Nat.le_of_ble_eq_true rfl), (Nat.le_of_ble_eq_true rfl)⟩ rfl rfl rfl (Nat.le_of_ble_eq_true rfl) (Nat.le_of_ble_eq_true rfl) (Nat.le_of_ble_eq_true rfl) ?_
  refine o_ialp (i := 8 + 5 * d) dX5_turnsIn_20 rfl (rfl) (by omega) ?_
  refine o_iasp (i := 7 + 5 * d) dX5_turnsIn_21 rfl (rfl) (by omega) rfl ?_
  refine o_aload_n dX5_turnsIn_22 rfl rfl ?_
  refine o_iload_n dX5_turnsIn_23 rfl rfl ?_
  refine o_iconst dX5_turnsIn_24 ic_3 ?_
  refine o_callSr (is := []) (ofD3) ⟨rfl, rfl⟩ dX5_turnsIn_25 wd777 csX5_ofD rfl ⟨(Nat.le_of_ble_eq_true rfl), (Nat.le_of_ble_eq_true rfl)⟩ rfl rfl rfl (Nat.le_of_ble_eq_true rfl) (Nat.le_of_ble_eq_true rfl) (Nat.le_of_ble_eq_true rfl) ?_
  refine o_iload_n dX5_turnsIn_28 rfl rfl ?_
  refine o_iasp (i := 8 + 5 * d) dX5_turnsIn_29 rfl (rfl) (by omega) rfl ?_
  refine o_vret dX5_turnsIn_30 rfl (Nat.le_of_ble_eq_true rfl) (Nat.le_of_ble_eq_true rfl) ?_
  exact ⟨rfl, rfl⟩
theorem tX5_turns {r m im wa fr lt rw rf nu : Nat → Int32} {hi pl sd : Int32} {L R : Nat} (hS : SOk r) {x : Int32} : PM mX5_turns [.ref 0, .int x] (mW r m im wa fr hi lt rw rf (nI L) (nI R) pl nu sd) (MP (s_turns x (r, im, hi, lt, L, rw, R, rf))) := by
  refine PM.ofp 0 (by decide) (Nat.le_of_ble_eq_true rfl) ?_
  show Ok mX5_turns none 0 [some (.ref 0), some (.int x)] [] (mW r m im wa fr hi lt rw rf (nI L) (nI R) pl nu sd) 0 0 _
  refine o_aload_n dX5_turns_0 rfl rfl ?_
  refine o_iload_n dX5_turns_1 rfl rfl ?_
  refine o_callVr (is := [0, 1, 2, 3, 4, 5, 6, 7, 8, 9]) (tX5_isDoor hS) ⟨rfl, rfl⟩ dX5_turns_2 wd790 cvX5_isDoor rfl ⟨(Nat.le_of_ble_eq_true rfl), (Nat.le_of_ble_eq_true rfl)⟩ hcX5 rfl rfl rfl rfl (Nat.le_of_ble_eq_true rfl) (Nat.le_of_ble_eq_true rfl) (Nat.le_of_ble_eq_true rfl) ?_
  refine o_if_ne (tgt := 14) dX5_turns_5 (by decide) (fun c_5 => ?_) (fun c_5 => ?_)
  · obtain ⟨d, hd, rfl⟩ := inR_yes (by have := hS.d9; omega) (bI_ne c_5)
    have h9 := hS.d9
    have hin := inR_nI (D := dN r) (by omega) hd
    have ec := cN_nI (d := d) (by omega)
    refine o_aload_n dX5_turns_14 rfl rfl ?_
    refine o_getf (j := 0) dX5_turns_15 rfl hcX5 inX5 (Nat.le_of_ble_eq_true rfl) wd686 rfl rfl ?_
    refine o_iload_n dX5_turns_18 rfl rfl ?_
    refine o_callSd (is := [1]) (tX5_turnsIn (by omega)) ⟨rfl, rfl⟩ dX5_turns_19 wd794 csX5_turnsIn rfl ⟨(Nat.le_of_ble_eq_true rfl), (Nat.le_of_ble_eq_true rfl)⟩ rfl rfl rfl (Nat.le_of_ble_eq_true rfl) (Nat.le_of_ble_eq_true rfl) (Nat.le_of_ble_eq_true rfl) rfl ?_
    refine o_aload_n dX5_turns_22 rfl rfl ?_
    refine o_getf (j := 0) dX5_turns_23 rfl hcX5 inX5 (Nat.le_of_ble_eq_true rfl) wd686 rfl rfl ?_
    refine o_iload_n dX5_turns_26 rfl rfl ?_
    refine o_iconst dX5_turns_27 ic_3 ?_
    refine o_callSr (is := []) (ofD3) ⟨rfl, rfl⟩ dX5_turns_28 wd777 csX5_ofD rfl ⟨(Nat.le_of_ble_eq_true rfl), (Nat.le_of_ble_eq_true rfl)⟩ rfl rfl rfl (Nat.le_of_ble_eq_true rfl) (Nat.le_of_ble_eq_true rfl) (Nat.le_of_ble_eq_true rfl) ?_
    refine o_ialp (i := 8 + 5 * d) dX5_turns_31 rfl (rfl) (by omega) ?_
    refine o_iret dX5_turns_32 rfl (vp_nar_int _) (Nat.le_of_ble_eq_true rfl) (Nat.le_of_ble_eq_true rfl) ?_
    exact MP.mk (σ := (tnR r d, im, hi, lt, L, rw, R, rf)) (by simp only [s_turns, hin, if_true, ec, stR]; rw [tnR, upd_eq])
  · have hno := bI_0.mp c_5
    refine o_aload_n dX5_turns_8 rfl rfl ?_
    refine o_iconst dX5_turns_9 ic_m1 ?_
    refine o_callVd (is := [0, 1, 2, 3, 4, 5, 6, 7, 8, 9]) (tX5_no (c := 1) rfl (by decide)) ⟨rfl, rfl⟩ dX5_turns_10 wd733 cvX5_no rfl ⟨(Nat.le_of_ble_eq_true rfl), (Nat.le_of_ble_eq_true rfl)⟩ hcX5 rfl rfl rfl rfl (Nat.le_of_ble_eq_true rfl) (Nat.le_of_ble_eq_true rfl) (Nat.le_of_ble_eq_true rfl) rfl ?_
    refine o_iret dX5_turns_13 rfl (vp_nar_int _) (Nat.le_of_ble_eq_true rfl) (Nat.le_of_ble_eq_true rfl) ?_
    exact MP.mk (σ := (r, im, hi, lt, L, rw, R, rfu rf 1)) (by simp only [s_turns, hno]; rfl)
theorem tX5_sets_no0 {r m im wa fr lt rw rf nu : Nat → Int32} {hi pl sd : Int32} {L R : Nat} (hS : SOk r) {x y : Int32} (hno : (inR (nN r) x && inR 8 y) = false) : PD mX5_sets [.ref 0, .int x, .int 0, .int y] (mW r m im wa fr hi lt rw rf (nI L) (nI R) pl nu sd) (some (.int (-1))) (mW r m im wa fr hi lt rw (rfu rf 1) (nI L) (nI R) pl nu sd) := by
  refine PM.ofp 1 (by decide) (Nat.le_of_ble_eq_true rfl) ?_
  show Ok mX5_sets none 0 [some (.ref 0), some (.int x), some (.int 0), some (.int y), none] [] (mW r m im wa fr hi lt rw rf (nI L) (nI R) pl nu sd) 0 0 _
  refine o_aload_n dX5_sets_0 rfl rfl ?_
  refine o_iload_n dX5_sets_1 rfl rfl ?_
  refine o_iload_n dX5_sets_2 rfl rfl ?_
  refine o_callVr (is := [0, 1, 2, 3, 4, 5, 6, 7, 8, 9]) (tX5_areWrong hS) ⟨rfl, rfl⟩ dX5_sets_3 wd860 cvX5_areWrong rfl ⟨(Nat.le_of_ble_eq_true rfl), (Nat.le_of_ble_eq_true rfl)⟩ hcX5 rfl rfl rfl rfl (Nat.le_of_ble_eq_true rfl) (Nat.le_of_ble_eq_true rfl) (Nat.le_of_ble_eq_true rfl) ?_
  refine o_if_eq (tgt := 15) dX5_sets_6 (by decide) (fun c_6 => ?_) (fun c_6 => ?_)
  · exact absurd (bI_n0 c_6) (by rw [hno]; decide)
  · skip
    refine o_aload_n dX5_sets_9 rfl rfl ?_
    refine o_iconst dX5_sets_10 ic_m1 ?_
    refine o_callVd (is := [0, 1, 2, 3, 4, 5, 6, 7, 8, 9]) (tX5_no (c := 1) rfl (by decide)) ⟨rfl, rfl⟩ dX5_sets_11 wd733 cvX5_no rfl ⟨(Nat.le_of_ble_eq_true rfl), (Nat.le_of_ble_eq_true rfl)⟩ hcX5 rfl rfl rfl rfl (Nat.le_of_ble_eq_true rfl) (Nat.le_of_ble_eq_true rfl) (Nat.le_of_ble_eq_true rfl) rfl ?_
    refine o_iret dX5_sets_14 rfl (vp_nar_int _) (Nat.le_of_ble_eq_true rfl) (Nat.le_of_ble_eq_true rfl) ?_
    exact ⟨rfl, rfl⟩
theorem tX5_sets_yes0 {r m im wa fr lt rw rf nu : Nat → Int32} {hi pl sd : Int32} {L R : Nat} (hS : SOk r) {y : Int32} {d : Nat} (hd : d < nN r) (hy : inR 8 y = true) : PD mX5_sets [.ref 0, .int (nI d), .int 0, .int y] (mW r m im wa fr hi lt rw rf (nI L) (nI R) pl nu sd) (some (.int (r (50 + 3 * d)))) (mW (upd r (50 + 3 * d) y) m im wa fr hi lt rw rf (nI L) (nI R) pl nu sd) := by
  refine PM.ofp 1 (by decide) (Nat.le_of_ble_eq_true rfl) ?_
  show Ok mX5_sets none 0 [some (.ref 0), some (.int (nI d)), some (.int 0), some (.int y), none] [] (mW r m im wa fr hi lt rw rf (nI L) (nI R) pl nu sd) 0 0 _
  have h9 := hS.n6
  refine o_aload_n dX5_sets_0 rfl rfl ?_
  refine o_iload_n dX5_sets_1 rfl rfl ?_
  refine o_iload_n dX5_sets_2 rfl rfl ?_
  refine o_callVr (is := [0, 1, 2, 3, 4, 5, 6, 7, 8, 9]) (tX5_areWrong hS) ⟨rfl, rfl⟩ dX5_sets_3 wd860 cvX5_areWrong rfl ⟨(Nat.le_of_ble_eq_true rfl), (Nat.le_of_ble_eq_true rfl)⟩ hcX5 rfl rfl rfl rfl (Nat.le_of_ble_eq_true rfl) (Nat.le_of_ble_eq_true rfl) (Nat.le_of_ble_eq_true rfl) ?_
  refine o_if_eq (tgt := 15) dX5_sets_6 (by decide) (fun c_6 => ?_) (fun c_6 => ?_)
  · skip
    refine o_aload_n dX5_sets_15 rfl rfl ?_
    refine o_getf (j := 0) dX5_sets_16 rfl hcX5 inX5 (Nat.le_of_ble_eq_true rfl) wd686 rfl rfl ?_
    refine o_iload_n dX5_sets_19 rfl rfl ?_
    refine o_iload_n dX5_sets_20 rfl rfl ?_
    refine o_callSr (is := []) (ofP0) ⟨rfl, rfl⟩ dX5_sets_21 wd783 csX5_ofP rfl ⟨(Nat.le_of_ble_eq_true rfl), (Nat.le_of_ble_eq_true rfl)⟩ rfl rfl rfl (Nat.le_of_ble_eq_true rfl) (Nat.le_of_ble_eq_true rfl) (Nat.le_of_ble_eq_true rfl) ?_
    refine o_ialp (i := 50 + 3 * d) dX5_sets_24 rfl (rfl) (by omega) ?_
    refine o_istg_4 dX5_sets_25 rfl (Nat.le_of_ble_eq_true rfl) ?_
    refine o_aload_n dX5_sets_27 rfl rfl ?_
    refine o_getf (j := 0) dX5_sets_28 rfl hcX5 inX5 (Nat.le_of_ble_eq_true rfl) wd686 rfl rfl ?_
    refine o_iload_n dX5_sets_31 rfl rfl ?_
    refine o_iload_n dX5_sets_32 rfl rfl ?_
    refine o_callSr (is := []) (ofP0) ⟨rfl, rfl⟩ dX5_sets_33 wd783 csX5_ofP rfl ⟨(Nat.le_of_ble_eq_true rfl), (Nat.le_of_ble_eq_true rfl)⟩ rfl rfl rfl (Nat.le_of_ble_eq_true rfl) (Nat.le_of_ble_eq_true rfl) (Nat.le_of_ble_eq_true rfl) ?_
    refine o_iload_n dX5_sets_36 rfl rfl ?_
    refine o_iasp (i := 50 + 3 * d) dX5_sets_37 rfl (rfl) (by omega) rfl ?_
    refine o_iload dX5_sets_38 rfl ?_
    refine o_iret dX5_sets_40 rfl (vp_nar_int _) (Nat.le_of_ble_eq_true rfl) (Nat.le_of_ble_eq_true rfl) ?_
    exact ⟨rfl, rfl⟩
  · exact absurd (bI_nt c_6) (by rw [inR_nI (by omega) hd, hy]; decide)
theorem tX5_stands_no {r m im wa fr lt rw rf nu : Nat → Int32} {hi pl sd : Int32} {L R : Nat} (hS : SOk r) {x y : Int32} (hno : (inR (nN r) x && inR 8 y) = false) : PD mX5_stands [.ref 0, .int x, .int y] (mW r m im wa fr hi lt rw rf (nI L) (nI R) pl nu sd) (some (.int (-1))) (mW r m im wa fr hi lt rw (rfu rf 1) (nI L) (nI R) pl nu sd) := by
  refine PM.ofp 0 (by decide) (Nat.le_of_ble_eq_true rfl) ?_
  show Ok mX5_stands none 0 [some (.ref 0), some (.int x), some (.int y)] [] (mW r m im wa fr hi lt rw rf (nI L) (nI R) pl nu sd) 0 0 _
  refine o_aload_n dX5_stands_0 rfl rfl ?_
  refine o_iload_n dX5_stands_1 rfl rfl ?_
  refine o_iconst dX5_stands_2 ic_0 ?_
  refine o_iload_n dX5_stands_3 rfl rfl ?_
  refine o_callVd (is := [0, 1, 2, 3, 4, 5, 6, 7, 8, 9]) (tX5_sets_no0 hS hno) ⟨rfl, rfl⟩ dX5_stands_4 wd856 cvX5_sets rfl ⟨(Nat.le_of_ble_eq_true rfl), (Nat.le_of_ble_eq_true rfl)⟩ hcX5 rfl rfl rfl rfl (Nat.le_of_ble_eq_true rfl) (Nat.le_of_ble_eq_true rfl) (Nat.le_of_ble_eq_true rfl) rfl ?_
  refine o_iret dX5_stands_7 rfl (vp_nar_int _) (Nat.le_of_ble_eq_true rfl) (Nat.le_of_ble_eq_true rfl) ?_
  exact ⟨rfl, rfl⟩
theorem tX5_stands_yes {r m im wa fr lt rw rf nu : Nat → Int32} {hi pl sd : Int32} {L R : Nat} (hS : SOk r) {y : Int32} {d : Nat} (hd : d < nN r) (hy : inR 8 y = true) : PD mX5_stands [.ref 0, .int (nI d), .int y] (mW r m im wa fr hi lt rw rf (nI L) (nI R) pl nu sd) (some (.int (r (50 + 3 * d)))) (mW (upd r (50 + 3 * d) y) m im wa fr hi lt rw rf (nI L) (nI R) pl nu sd) := by
  refine PM.ofp 0 (by decide) (Nat.le_of_ble_eq_true rfl) ?_
  show Ok mX5_stands none 0 [some (.ref 0), some (.int (nI d)), some (.int y)] [] (mW r m im wa fr hi lt rw rf (nI L) (nI R) pl nu sd) 0 0 _
  refine o_aload_n dX5_stands_0 rfl rfl ?_
  refine o_iload_n dX5_stands_1 rfl rfl ?_
  refine o_iconst dX5_stands_2 ic_0 ?_
  refine o_iload_n dX5_stands_3 rfl rfl ?_
  refine o_callVd (is := [0, 1, 2, 3, 4, 5, 6, 7, 8, 9]) (tX5_sets_yes0 hS hd hy) ⟨rfl, rfl⟩ dX5_stands_4 wd856 cvX5_sets rfl ⟨(Nat.le_of_ble_eq_true rfl), (Nat.le_of_ble_eq_true rfl)⟩ hcX5 rfl rfl rfl rfl (Nat.le_of_ble_eq_true rfl) (Nat.le_of_ble_eq_true rfl) (Nat.le_of_ble_eq_true rfl) rfl ?_
  refine o_iret dX5_stands_7 rfl (vp_nar_int _) (Nat.le_of_ble_eq_true rfl) (Nat.le_of_ble_eq_true rfl) ?_
  exact ⟨rfl, rfl⟩
theorem tX5_stands {r m im wa fr lt rw rf nu : Nat → Int32} {hi pl sd : Int32} {L R : Nat} (hS : SOk r) {x y : Int32} : PM mX5_stands [.ref 0, .int x, .int y] (mW r m im wa fr hi lt rw rf (nI L) (nI R) pl nu sd) (MP (s_sets 50 x y (r, im, hi, lt, L, rw, R, rf))) := by
  cases hc : (inR (nN r) x && inR 8 y) with
  | false => exact (tX5_stands_no hS hc).toP (MP.mk (σ := (r, im, hi, lt, L, rw, R, rfu rf 1)) (by simp only [s_sets, hc]; rfl))
  | true =>
    have h2 := hc
    simp only [Bool.and_eq_true] at h2
    obtain ⟨d, hd, rfl⟩ := inR_yes (by have := hS.n6; omega) h2.1
    have h9 := hS.n6
    exact (tX5_stands_yes hS hd h2.2).toP (MP.mk (σ := (upd r (50 + 3 * d) y, im, hi, lt, L, rw, R, rf)) (by simp only [s_sets, hc, if_true, cN_nI (show d < 2147483648 by omega), stR]))
theorem tX5_sets_no1 {r m im wa fr lt rw rf nu : Nat → Int32} {hi pl sd : Int32} {L R : Nat} (hS : SOk r) {x y : Int32} (hno : (inR (nN r) x && inR 8 y) = false) : PD mX5_sets [.ref 0, .int x, .int 1, .int y] (mW r m im wa fr hi lt rw rf (nI L) (nI R) pl nu sd) (some (.int (-1))) (mW r m im wa fr hi lt rw (rfu rf 1) (nI L) (nI R) pl nu sd) := by
  refine PM.ofp 1 (by decide) (Nat.le_of_ble_eq_true rfl) ?_
  show Ok mX5_sets none 0 [some (.ref 0), some (.int x), some (.int 1), some (.int y), none] [] (mW r m im wa fr hi lt rw rf (nI L) (nI R) pl nu sd) 0 0 _
  refine o_aload_n dX5_sets_0 rfl rfl ?_
  refine o_iload_n dX5_sets_1 rfl rfl ?_
  refine o_iload_n dX5_sets_2 rfl rfl ?_
  refine o_callVr (is := [0, 1, 2, 3, 4, 5, 6, 7, 8, 9]) (tX5_areWrong hS) ⟨rfl, rfl⟩ dX5_sets_3 wd860 cvX5_areWrong rfl ⟨(Nat.le_of_ble_eq_true rfl), (Nat.le_of_ble_eq_true rfl)⟩ hcX5 rfl rfl rfl rfl (Nat.le_of_ble_eq_true rfl) (Nat.le_of_ble_eq_true rfl) (Nat.le_of_ble_eq_true rfl) ?_
  refine o_if_eq (tgt := 15) dX5_sets_6 (by decide) (fun c_6 => ?_) (fun c_6 => ?_)
  · exact absurd (bI_n0 c_6) (by rw [hno]; decide)
  · skip
    refine o_aload_n dX5_sets_9 rfl rfl ?_
    refine o_iconst dX5_sets_10 ic_m1 ?_
    refine o_callVd (is := [0, 1, 2, 3, 4, 5, 6, 7, 8, 9]) (tX5_no (c := 1) rfl (by decide)) ⟨rfl, rfl⟩ dX5_sets_11 wd733 cvX5_no rfl ⟨(Nat.le_of_ble_eq_true rfl), (Nat.le_of_ble_eq_true rfl)⟩ hcX5 rfl rfl rfl rfl (Nat.le_of_ble_eq_true rfl) (Nat.le_of_ble_eq_true rfl) (Nat.le_of_ble_eq_true rfl) rfl ?_
    refine o_iret dX5_sets_14 rfl (vp_nar_int _) (Nat.le_of_ble_eq_true rfl) (Nat.le_of_ble_eq_true rfl) ?_
    exact ⟨rfl, rfl⟩
theorem tX5_sets_yes1 {r m im wa fr lt rw rf nu : Nat → Int32} {hi pl sd : Int32} {L R : Nat} (hS : SOk r) {y : Int32} {d : Nat} (hd : d < nN r) (hy : inR 8 y = true) : PD mX5_sets [.ref 0, .int (nI d), .int 1, .int y] (mW r m im wa fr hi lt rw rf (nI L) (nI R) pl nu sd) (some (.int (r (51 + 3 * d)))) (mW (upd r (51 + 3 * d) y) m im wa fr hi lt rw rf (nI L) (nI R) pl nu sd) := by
  refine PM.ofp 1 (by decide) (Nat.le_of_ble_eq_true rfl) ?_
  show Ok mX5_sets none 0 [some (.ref 0), some (.int (nI d)), some (.int 1), some (.int y), none] [] (mW r m im wa fr hi lt rw rf (nI L) (nI R) pl nu sd) 0 0 _
  have h9 := hS.n6
  refine o_aload_n dX5_sets_0 rfl rfl ?_
  refine o_iload_n dX5_sets_1 rfl rfl ?_
  refine o_iload_n dX5_sets_2 rfl rfl ?_
  refine o_callVr (is := [0, 1, 2, 3, 4, 5, 6, 7, 8, 9]) (tX5_areWrong hS) ⟨rfl, rfl⟩ dX5_sets_3 wd860 cvX5_areWrong rfl ⟨(Nat.le_of_ble_eq_true rfl), (Nat.le_of_ble_eq_true rfl)⟩ hcX5 rfl rfl rfl rfl (Nat.le_of_ble_eq_true rfl) (Nat.le_of_ble_eq_true rfl) (Nat.le_of_ble_eq_true rfl) ?_
  refine o_if_eq (tgt := 15) dX5_sets_6 (by decide) (fun c_6 => ?_) (fun c_6 => ?_)
  · skip
    refine o_aload_n dX5_sets_15 rfl rfl ?_
    refine o_getf (j := 0) dX5_sets_16 rfl hcX5 inX5 (Nat.le_of_ble_eq_true rfl) wd686 rfl rfl ?_
    refine o_iload_n dX5_sets_19 rfl rfl ?_
    refine o_iload_n dX5_sets_20 rfl rfl ?_
    refine o_callSr (is := []) (ofP1) ⟨rfl, rfl⟩ dX5_sets_21 wd783 csX5_ofP rfl ⟨(Nat.le_of_ble_eq_true rfl), (Nat.le_of_ble_eq_true rfl)⟩ rfl rfl rfl (Nat.le_of_ble_eq_true rfl) (Nat.le_of_ble_eq_true rfl) (Nat.le_of_ble_eq_true rfl) ?_
    refine o_ialp (i := 51 + 3 * d) dX5_sets_24 rfl (rfl) (by omega) ?_
    refine o_istg_4 dX5_sets_25 rfl (Nat.le_of_ble_eq_true rfl) ?_
    refine o_aload_n dX5_sets_27 rfl rfl ?_
    refine o_getf (j := 0) dX5_sets_28 rfl hcX5 inX5 (Nat.le_of_ble_eq_true rfl) wd686 rfl rfl ?_
    refine o_iload_n dX5_sets_31 rfl rfl ?_
    refine o_iload_n dX5_sets_32 rfl rfl ?_
    refine o_callSr (is := []) (ofP1) ⟨rfl, rfl⟩ dX5_sets_33 wd783 csX5_ofP rfl ⟨(Nat.le_of_ble_eq_true rfl), (Nat.le_of_ble_eq_true rfl)⟩ rfl rfl rfl (Nat.le_of_ble_eq_true rfl) (Nat.le_of_ble_eq_true rfl) (Nat.le_of_ble_eq_true rfl) ?_
    refine o_iload_n dX5_sets_36 rfl rfl ?_
    refine o_iasp (i := 51 + 3 * d) dX5_sets_37 rfl (rfl) (by omega) rfl ?_
    refine o_iload dX5_sets_38 rfl ?_
    refine o_iret dX5_sets_40 rfl (vp_nar_int _) (Nat.le_of_ble_eq_true rfl) (Nat.le_of_ble_eq_true rfl) ?_
    exact ⟨rfl, rfl⟩
  · exact absurd (bI_nt c_6) (by rw [inR_nI (by omega) hd, hy]; decide)
theorem tX5_wants_no {r m im wa fr lt rw rf nu : Nat → Int32} {hi pl sd : Int32} {L R : Nat} (hS : SOk r) {x y : Int32} (hno : (inR (nN r) x && inR 8 y) = false) : PD mX5_wants [.ref 0, .int x, .int y] (mW r m im wa fr hi lt rw rf (nI L) (nI R) pl nu sd) (some (.int (-1))) (mW r m im wa fr hi lt rw (rfu rf 1) (nI L) (nI R) pl nu sd) := by
  refine PM.ofp 0 (by decide) (Nat.le_of_ble_eq_true rfl) ?_
  show Ok mX5_wants none 0 [some (.ref 0), some (.int x), some (.int y)] [] (mW r m im wa fr hi lt rw rf (nI L) (nI R) pl nu sd) 0 0 _
  refine o_aload_n dX5_wants_0 rfl rfl ?_
  refine o_iload_n dX5_wants_1 rfl rfl ?_
  refine o_iconst dX5_wants_2 ic_1 ?_
  refine o_iload_n dX5_wants_3 rfl rfl ?_
  refine o_callVd (is := [0, 1, 2, 3, 4, 5, 6, 7, 8, 9]) (tX5_sets_no1 hS hno) ⟨rfl, rfl⟩ dX5_wants_4 wd856 cvX5_sets rfl ⟨(Nat.le_of_ble_eq_true rfl), (Nat.le_of_ble_eq_true rfl)⟩ hcX5 rfl rfl rfl rfl (Nat.le_of_ble_eq_true rfl) (Nat.le_of_ble_eq_true rfl) (Nat.le_of_ble_eq_true rfl) rfl ?_
  refine o_iret dX5_wants_7 rfl (vp_nar_int _) (Nat.le_of_ble_eq_true rfl) (Nat.le_of_ble_eq_true rfl) ?_
  exact ⟨rfl, rfl⟩
theorem tX5_wants_yes {r m im wa fr lt rw rf nu : Nat → Int32} {hi pl sd : Int32} {L R : Nat} (hS : SOk r) {y : Int32} {d : Nat} (hd : d < nN r) (hy : inR 8 y = true) : PD mX5_wants [.ref 0, .int (nI d), .int y] (mW r m im wa fr hi lt rw rf (nI L) (nI R) pl nu sd) (some (.int (r (51 + 3 * d)))) (mW (upd r (51 + 3 * d) y) m im wa fr hi lt rw rf (nI L) (nI R) pl nu sd) := by
  refine PM.ofp 0 (by decide) (Nat.le_of_ble_eq_true rfl) ?_
  show Ok mX5_wants none 0 [some (.ref 0), some (.int (nI d)), some (.int y)] [] (mW r m im wa fr hi lt rw rf (nI L) (nI R) pl nu sd) 0 0 _
  refine o_aload_n dX5_wants_0 rfl rfl ?_
  refine o_iload_n dX5_wants_1 rfl rfl ?_
  refine o_iconst dX5_wants_2 ic_1 ?_
  refine o_iload_n dX5_wants_3 rfl rfl ?_
  refine o_callVd (is := [0, 1, 2, 3, 4, 5, 6, 7, 8, 9]) (tX5_sets_yes1 hS hd hy) ⟨rfl, rfl⟩ dX5_wants_4 wd856 cvX5_sets rfl ⟨(Nat.le_of_ble_eq_true rfl), (Nat.le_of_ble_eq_true rfl)⟩ hcX5 rfl rfl rfl rfl (Nat.le_of_ble_eq_true rfl) (Nat.le_of_ble_eq_true rfl) (Nat.le_of_ble_eq_true rfl) rfl ?_
  refine o_iret dX5_wants_7 rfl (vp_nar_int _) (Nat.le_of_ble_eq_true rfl) (Nat.le_of_ble_eq_true rfl) ?_
  exact ⟨rfl, rfl⟩
theorem tX5_wants {r m im wa fr lt rw rf nu : Nat → Int32} {hi pl sd : Int32} {L R : Nat} (hS : SOk r) {x y : Int32} : PM mX5_wants [.ref 0, .int x, .int y] (mW r m im wa fr hi lt rw rf (nI L) (nI R) pl nu sd) (MP (s_sets 51 x y (r, im, hi, lt, L, rw, R, rf))) := by
  cases hc : (inR (nN r) x && inR 8 y) with
  | false => exact (tX5_wants_no hS hc).toP (MP.mk (σ := (r, im, hi, lt, L, rw, R, rfu rf 1)) (by simp only [s_sets, hc]; rfl))
  | true =>
    have h2 := hc
    simp only [Bool.and_eq_true] at h2
    obtain ⟨d, hd, rfl⟩ := inR_yes (by have := hS.n6; omega) h2.1
    have h9 := hS.n6
    exact (tX5_wants_yes hS hd h2.2).toP (MP.mk (σ := (upd r (51 + 3 * d) y, im, hi, lt, L, rw, R, rf)) (by simp only [s_sets, hc, if_true, cN_nI (show d < 2147483648 by omega), stR]))
