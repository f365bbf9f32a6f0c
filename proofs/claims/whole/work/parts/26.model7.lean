def MS (r : Nat → Int32) : Prop := MOk r (dN r) (nN r) (cN (r 2))
theorem MOk.self {r : Nat → Int32} {D N h : Nat} (hM : MOk r D N h) (hh : h < 2147483648) : MS r ∧ dN r = D ∧ nN r = N ∧ cN (r 2) = h := by
  have e1 : dN r = D := by unfold dN; rw [hM.1.1]; exact cN_nI (by have := hM.1.2.1; omega)
  have e2 : nN r = N := by unfold nN; rw [hM.1.2.2.1]; exact cN_nI (by have := hM.1.2.2.2.1; omega)
  have e3 : cN (r 2) = h := by rw [hM.2.2]; exact cN_nI hh
  refine ⟨?_, e1, e2, e3⟩
  unfold MS
  rw [e1, e2, e3]
  exact hM
theorem MOk.room {r : Nat → Int32} {D N h p : Nat} {v : Int32} (hM : MOk r D N h) (hp : p < N) (hv : RmI v) : MOk (upd r (50 + 3 * p) v) D N h := by
  have hN := hM.1.2.2.2.1
  have hD := hM.1.2.1
  refine ⟨hM.1.same (upd_ne (by omega)) (upd_ne (by omega)) (fun q hq => ⟨?_, upd_ne (by omega)⟩) (fun d hd => ⟨upd_ne (by omega), upd_ne (by omega)⟩), fun d hd => by rw [upd_ne (by omega), upd_ne (by omega)]; exact hM.2.1 d hd, by rw [upd_ne (by omega)]; exact hM.2.2⟩
  by_cases e : q = p
  · subst e; rw [upd_eq]; exact hv
  · rw [upd_ne (by omega)]; exact (hM.1.2.2.2.2.1 q hq).1
theorem MOk.goal {r : Nat → Int32} {D N h p : Nat} {v : Int32} (hM : MOk r D N h) (hp : p < N) (hv : RmI v) : MOk (upd r (51 + 3 * p) v) D N h := by
  have hN := hM.1.2.2.2.1
  have hD := hM.1.2.1
  refine ⟨⟨by rw [upd_ne (by omega)]; exact hM.1.1, hD, by rw [upd_ne (by omega)]; exact hM.1.2.2.1, hN, fun q hq => ⟨by rw [upd_ne (by omega)]; exact (hM.1.2.2.2.2.1 q hq).1, ?_⟩, fun d hd => by rw [upd_ne (by omega), upd_ne (by omega)]; exact hM.1.2.2.2.2.2 d hd⟩, fun d hd => by rw [upd_ne (by omega), upd_ne (by omega)]; exact hM.2.1 d hd, by rw [upd_ne (by omega)]; exact hM.2.2⟩
  by_cases e : q = p
  · subst e; rw [upd_eq]; exact hv
  · rw [upd_ne (by omega)]; exact (hM.1.2.2.2.2.1 q hq).2
theorem MOk.mood {r : Nat → Int32} {D N h p : Nat} {v : Int32} (hM : MOk r D N h) : MOk (upd r (52 + 3 * p) v) D N h := by
  have hN := hM.1.2.2.2.1
  have hD := hM.1.2.1
  exact ⟨hM.1.same (upd_ne (by omega)) (upd_ne (by omega)) (fun q hq => ⟨by rw [upd_ne (by omega)]; exact (hM.1.2.2.2.2.1 q hq).1, upd_ne (by omega)⟩) (fun d hd => ⟨upd_ne (by omega), upd_ne (by omega)⟩), fun d hd => by rw [upd_ne (by omega), upd_ne (by omega)]; exact hM.2.1 d hd, by rw [upd_ne (by omega)]; exact hM.2.2⟩
theorem MOk.wedge {r : Nat → Int32} {D N h d : Nat} {v : Int32} (hM : MOk r D N h) (hd : d < 9) : MOk (upd r (9 + 5 * d) v) D N h := by
  have hN := hM.1.2.2.2.1
  have hD := hM.1.2.1
  exact ⟨hM.1.same (upd_ne (by omega)) (upd_ne (by omega)) (fun q hq => ⟨by rw [upd_ne (by omega)]; exact (hM.1.2.2.2.2.1 q hq).1, upd_ne (by omega)⟩) (fun d hd => ⟨upd_ne (by omega), upd_ne (by omega)⟩), fun d hd => by rw [upd_ne (by omega), upd_ne (by omega)]; exact hM.2.1 d hd, by rw [upd_ne (by omega)]; exact hM.2.2⟩
theorem MOk.gone {r : Nat → Int32} {D N h : Nat} {v : Int32} (hM : MOk r D N h) : MOk (upd r 4 v) D N h := by
  have hN := hM.1.2.2.2.1
  have hD := hM.1.2.1
  exact ⟨hM.1.same (upd_ne (by omega)) (upd_ne (by omega)) (fun q hq => ⟨by rw [upd_ne (by omega)]; exact (hM.1.2.2.2.2.1 q hq).1, upd_ne (by omega)⟩) (fun d hd => ⟨upd_ne (by omega), upd_ne (by omega)⟩), fun d hd => by rw [upd_ne (by omega), upd_ne (by omega)]; exact hM.2.1 d hd, by rw [upd_ne (by omega)]; exact hM.2.2⟩
theorem MOk.kind {r : Nat → Int32} {D N h d : Nat} {v : Int32} (hM : MOk r D N h) (hd : d < 9) (hv : KdI v) : MOk (upd r (5 + 5 * d) v) D N h := by
  have hN := hM.1.2.2.2.1
  have hD := hM.1.2.1
  refine ⟨hM.1.same (upd_ne (by omega)) (upd_ne (by omega)) (fun q hq => ⟨by rw [upd_ne (by omega)]; exact (hM.1.2.2.2.2.1 q hq).1, upd_ne (by omega)⟩) (fun d hd => ⟨upd_ne (by omega), upd_ne (by omega)⟩), fun e he => ⟨?_, by rw [upd_ne (by omega)]; exact (hM.2.1 e he).2⟩, by rw [upd_ne (by omega)]; exact hM.2.2⟩
  by_cases q : e = d
  · subst q; rw [upd_eq]; exact hv
  · rw [upd_ne (by omega)]; exact (hM.2.1 e he).1
theorem MOk.turn {r : Nat → Int32} {D N h d : Nat} (hM : MOk r D N h) (hd : d < D) : MOk (tnR r d) D N h := by
  have hN := hM.1.2.2.2.1
  have hD := hM.1.2.1
  have ht : ∀ i, i ≠ 7 + 5 * d → i ≠ 8 + 5 * d → tnR r d i = r i := fun i h1 h2 => by unfold tnR; rw [upd_ne h2, upd_ne h1]
  refine ⟨⟨by rw [ht 0 (by omega) (by omega)]; exact hM.1.1, hD, by rw [ht 1 (by omega) (by omega)]; exact hM.1.2.2.1, hN, fun p hp => by rw [ht _ (by omega) (by omega), ht _ (by omega) (by omega)]; exact hM.1.2.2.2.2.1 p hp, fun e he => ?_⟩, fun e he => by rw [ht _ (by omega) (by omega), ht _ (by omega) (by omega)]; exact hM.2.1 e he, by rw [ht 2 (by omega) (by omega)]; exact hM.2.2⟩
  by_cases q : e = d
  · subst q
    unfold tnR
    rw [upd_ne (by omega), upd_eq, upd_eq]
    exact ⟨(hM.1.2.2.2.2.2 e he).2, (hM.1.2.2.2.2.2 e he).1⟩
  · rw [ht _ (by omega) (by omega), ht _ (by omega) (by omega)]
    exact hM.1.2.2.2.2.2 e he
theorem MOk.add {r : Nat → Int32} {D N h : Nat} {a b c : Int32} (hM : MOk r D N h) (hN : N ≤ 6) (ha : RmI a) (hb : RmI b) : MOk (adP r N a b c) D (N + 1) h := by
  have hD := hM.1.2.1
  have ht : ∀ i, i ≠ 1 → i < 50 + 3 * N → adP r N a b c i = r i := fun i h1 h2 => by unfold adP; rw [upd_ne h1, upd_ne (by omega), upd_ne (by omega), upd_ne (by omega)]
  refine ⟨⟨by rw [ht 0 (by omega) (by omega)]; exact hM.1.1, hD, by unfold adP; rw [upd_eq], by omega, fun p hp => ?_, fun e he => by rw [ht _ (by omega) (by omega), ht _ (by omega) (by omega)]; exact hM.1.2.2.2.2.2 e he⟩, fun e he => by rw [ht _ (by omega) (by omega), ht _ (by omega) (by omega)]; exact hM.2.1 e he, by rw [ht 2 (by omega) (by omega)]; exact hM.2.2⟩
  by_cases q : p = N
  · subst q
    unfold adP
    rw [upd_ne (by omega), upd_ne (by omega), upd_ne (by omega), upd_eq, upd_ne (by omega), upd_ne (by omega), upd_eq]
    exact ⟨ha, hb⟩
  · rw [ht _ (by omega) (by omega), ht _ (by omega) (by omega)]
    exact hM.1.2.2.2.2.1 p (by omega)
def buS (f0 b0 : Int32) (v : Nat → Int32) : Nat → Int32 × Int32
  | 0 => (f0, b0)
  | k + 1 => if (buS f0 b0 v k).2 < v k then (nI k, v k) else buS f0 b0 v k
def blS (v : Nat → Int32) : Nat → Int32 × Int32
  | 0 => (-9, 1000000000)
  | k + 1 => if v k < (blS v k).2 then (nI k, v k) else blS v k
def hmV (r : Nat → Int32) (n : Nat) : Int32 := bitsM (homeM (hrs r n) (nN r)) 9
def hpV (r : Nat → Int32) (n a : Nat) : Int32 := bitsM (homeM (hrs (adP r (nN r) (nI a) (nI a) 9) n) (nN r + 1) &&& ((1 <<< (nI (nN r) &&& 31)) ^^^ (-1))) 9
def s_helper (n w : Int32) (σ : St) : Res := wrB n 30 σ (if inR 2 w then (some (.int (if w = 0 then (buS 0 (-1) (hpV σ.1 (cN n)) 8).1 else (buS 0 (-1) (hpV σ.1 (cN n)) 8).2)), σ) else noR σ 2)
def stG (r : Nat → Int32) (set : Int32) : Nat → (Nat → Int32)
  | 0 => r
  | k + 1 => if hasB set (nI k) = true then upd (stG r set k) (51 + 3 * k) (stG r set k (50 + 3 * k)) else stG r set k
def fwS (r : Nat → Int32) (n p : Nat) : Nat → Int32
  | 0 => -9
  | k + 1 => if hasB (nI k) (nI p) = true ∨ (¬ fwS r n p k < 0 ∧ ¬ bitsM (nI k) 9 < bitsM (fwS r n p k) 9) then fwS r n p k else if hasB (homeM (hrs (stG r (nI k) (nN r)) n) (nN r)) (nI p) = true then nI k else fwS r n p k
def s_fewest (p n : Int32) (σ : St) : Res := if inR (nN σ.1) p then wrB n 30 σ (some (.int (fwS σ.1 (cN n) (cN p) (2 ^ nN σ.1))), σ) else noR σ 1
def chD (r : Nat → Int32) (wg : Bool) (d : Nat) : Nat → Int32 := if wg then upd r (9 + 5 * d) 1 else tnR r d
def bdF (r : Nat → Int32) (n : Nat) (wg : Bool) : Int32 := (buS (-9) (hmV r n) (fun d => hmV (chD r wg d) n) (dN r)).1
def s_bestDoor (wg : Bool) (n : Int32) (σ : St) : Res := wrB n 30 σ (some (.int (bdF σ.1 (cN n) wg)), σ)
def hdV (r : Nat → Int32) (n p : Nat) : Int32 := hmV (upd r 4 (1 <<< (nI p &&& 31))) n
def s_holds (n w : Int32) (σ : St) : Res := wrB n 30 σ (if inR 2 w then (some (.int (if (blS (hdV σ.1 (cN n)) (nN σ.1)).1 < 0 ∨ w = 0 then (blS (hdV σ.1 (cN n)) (nN σ.1)).1 else (blS (hdV σ.1 (cN n)) (nN σ.1)).2)), σ) else noR σ 2)
theorem mok_stG {r : Nat → Int32} {D N h : Nat} {set : Int32} (hM : MOk r D N h) : ∀ k, k ≤ N → MOk (stG r set k) D N h
  | 0, _ => hM
  | k + 1, hk => by
    have ih := mok_stG (set := set) hM k (by omega)
    unfold stG
    split
    · exact ih.goal (by omega) (ih.1.2.2.2.2.1 k (by omega)).1
    · exact ih
theorem MOk.stG {r : Nat → Int32} {D N h : Nat} {set : Int32} (hM : MOk r D N h) : ∀ k, k ≤ N → MOk (stG r set k) D N h := mok_stG hM
theorem SOk.M {r : Nat → Int32} (h : SOk r) : MS r := h.1
theorem SOk.h9 {r : Nat → Int32} (h : SOk r) : cN (r 2) ≤ 999 := h.2.2.1
/-- the hours of another row: what the model's call needs -/
theorem MS.n {r : Nat → Int32} (h : MS r) (n : Nat) : hrs r n 1 = nI (nN r) := (MOk.hours (g := farOf r) h n).1.2.2.1
theorem tX5_adds {r : Nat → Int32} {N : Nat} {a b c : Int32} (hN : N ≤ 6) (h1 : r 1 = nI N) : PD mX5_adds [.ref 0, .int a, .int b, .int c] ([.inl (71, r)]) (none) ([.inl (71, adP r N a b c)]) := by
  refine PM.ofp 1 (by decide) (Nat.le_of_ble_eq_true rfl) ?_
  show Ok mX5_adds none 0 [some (.ref 0), some (.int a), some (.int b), some (.int c), none] [] ([.inl (71, r)]) 0 0 _
  refine o_aload_n dX5_adds_0 rfl rfl ?_
  refine o_iconst dX5_adds_1 ic_1 ?_
  refine o_ialp (i := 1) dX5_adds_2 rfl (rfl) (by decide) ?_
  refine o_eqs (by rw [h1]) ?_
  refine o_istg_4 dX5_adds_3 rfl (Nat.le_of_ble_eq_true rfl) ?_
  refine o_aload_n dX5_adds_5 rfl rfl ?_
  refine o_iload dX5_adds_6 rfl ?_
  refine o_iconst dX5_adds_8 ic_0 ?_
  refine o_callSr (is := []) (ofP0) ⟨rfl, rfl⟩ dX5_adds_9 wd783 csX5_ofP rfl ⟨(Nat.le_of_ble_eq_true rfl), (Nat.le_of_ble_eq_true rfl)⟩ rfl rfl rfl (Nat.le_of_ble_eq_true rfl) (Nat.le_of_ble_eq_true rfl) (Nat.le_of_ble_eq_true rfl) ?_
  refine o_iload_n dX5_adds_12 rfl rfl ?_
  refine o_iasp (i := 50 + 3 * N) dX5_adds_13 rfl (rfl) (by omega) rfl ?_
  refine o_aload_n dX5_adds_14 rfl rfl ?_
  refine o_iload dX5_adds_15 rfl ?_
  refine o_iconst dX5_adds_17 ic_1 ?_
  refine o_callSr (is := []) (ofP1) ⟨rfl, rfl⟩ dX5_adds_18 wd783 csX5_ofP rfl ⟨(Nat.le_of_ble_eq_true rfl), (Nat.le_of_ble_eq_true rfl)⟩ rfl rfl rfl (Nat.le_of_ble_eq_true rfl) (Nat.le_of_ble_eq_true rfl) (Nat.le_of_ble_eq_true rfl) ?_
  refine o_iload_n dX5_adds_21 rfl rfl ?_
  refine o_iasp (i := 51 + 3 * N) dX5_adds_22 rfl (rfl) (by omega) rfl ?_
  refine o_aload_n dX5_adds_23 rfl rfl ?_
  refine o_iload dX5_adds_24 rfl ?_
  refine o_iconst dX5_adds_26 ic_2 ?_
  refine o_callSr (is := []) (ofP2) ⟨rfl, rfl⟩ dX5_adds_27 wd783 csX5_ofP rfl ⟨(Nat.le_of_ble_eq_true rfl), (Nat.le_of_ble_eq_true rfl)⟩ rfl rfl rfl (Nat.le_of_ble_eq_true rfl) (Nat.le_of_ble_eq_true rfl) (Nat.le_of_ble_eq_true rfl) ?_
  refine o_iload_n dX5_adds_30 rfl rfl ?_
  refine o_iasp (i := 52 + 3 * N) dX5_adds_31 rfl (rfl) (by omega) rfl ?_
  refine o_aload_n dX5_adds_32 rfl rfl ?_
  refine o_iconst dX5_adds_33 ic_1 ?_
  refine o_dup2 dX5_adds_34 rfl rfl ?_
  refine o_ialp (i := 1) dX5_adds_35 rfl (rfl) (by decide) ?_
  refine o_iconst dX5_adds_36 ic_1 ?_
  refine o_iadd dX5_adds_37 ?_
  refine o_iasp (i := 1) dX5_adds_38 rfl (rfl) (by decide) rfl ?_
  refine o_vret dX5_adds_39 rfl (Nat.le_of_ble_eq_true rfl) (Nat.le_of_ble_eq_true rfl) ?_
  exact ⟨rfl, by unfold adP; rw [← nI_1, ← h1, ← upd_ne (f := r) (v := a) (show (1 : Nat) ≠ 50 + 3 * N by omega), ← upd_ne (f := upd r (50 + 3 * N) a) (v := b) (show (1 : Nat) ≠ 51 + 3 * N by omega), ← upd_ne (f := upd (upd r (50 + 3 * N) a) (51 + 3 * N) b) (v := c) (show (1 : Nat) ≠ 52 + 3 * N by omega)]; rfl⟩
theorem ho_m {r m im wa fr lt rw rf nu : Nat → Int32} {hi pl sd : Int32} {L R : Nat} {n : Nat} (hm : MS m) (hh : cN (m 2) + n < 2147483648) : PD mX5_hoursOn [.ref 0, .ref 2, .int (nI n)] (mW r m im wa fr hi lt rw rf (nI L) (nI R) pl nu sd) none (mW r (hrs m n) im wa (nF (farOf m)) hi lt rw rf (nI L) (nI R) pl nu sd) := tX5_hoursOn_m hm hh
theorem lX5_helper {r im wa lt rw rf nu : Nat → Int32} {hi pl sd : Int32} {L R : Nat} (hS : SOk r) {n : Nat} {w : Int32} (hn : n ≤ 30) : ∀ (q k : Nat) (m fr : Nat → Int32) (x7 : Option Value) (z3 : Int32), 8 - k < q → k ≤ 8 → Ok mX5_helper none 43 [some (.ref 0), some (.int (nI n)), some (.int w), some (.int z3), some (.int (buS 0 (-1) (hpV r n) k).1), some (.int (buS 0 (-1) (hpV r n) k).2), some (.int (nI k)), x7] [] (mW r m im wa fr hi lt rw rf (nI L) (nI R) pl nu sd) 0 0 (fun a w2 => a = some (.int (if w = 0 then (buS 0 (-1) (hpV r n) 8).1 else (buS 0 (-1) (hpV r n) 8).2)) ∧ ∃ m2 fr2, w2 = mW r m2 im wa fr2 hi lt rw rf (nI L) (nI R) pl nu sd) := by
  intro q
  induction q with
  | zero => intro k m fr x7 z3 hq hk; omega
  | succ q ih =>
  intro k m fr x7 z3 hq hk
  have h6 := hS.n6
  have h9 := hS.d9
  have h99 := hS.h9
  refine o_iload dX5_helper_43 rfl ?_
  refine o_bipush dX5_helper_45 bp_8 ?_
  refine o_icmp_ge (tgt := 130) dX5_helper_47 (by decide) (fun c_47 => ?_) (fun c_47 => ?_)
  · have hkN : k = 8 := Nat.le_antisymm hk (geI (b := 8) (by omega) (by omega) c_47)
    subst hkN
    refine o_iload_n dX5_helper_130 rfl rfl ?_
    refine o_if_ne (tgt := 139) dX5_helper_131 (by decide) (fun c_131 => ?_) (fun c_131 => ?_)
    · skip
      refine o_iload dX5_helper_139 rfl ?_
      refine o_iret dX5_helper_141 rfl (vp_nar_int _) (Nat.le_of_ble_eq_true rfl) (Nat.le_of_ble_eq_true rfl) ?_
      exact ⟨by rw [if_neg c_131], _, _, rfl⟩
    · skip
      refine o_iload dX5_helper_134 rfl ?_
      refine o_goto (tgt := 141) dX5_helper_136 (by decide) ?_
      refine o_iret dX5_helper_141 rfl (vp_nar_int _) (Nat.le_of_ble_eq_true rfl) (Nat.le_of_ble_eq_true rfl) ?_
      exact ⟨by rw [if_pos c_131], _, _, rfl⟩
  · have hkN : k < 8 := ltI (b := 8) (by omega) (by omega) c_47
    obtain ⟨hm, em1, em2, em3⟩ := (MOk.add (c := 9) hS.M h6 ⟨k, hkN, rfl⟩ ⟨k, hkN, rfl⟩).self (by omega)
    have h7 := MS.n hm n
    rw [em2] at h7
    refine o_aload_n dX5_helper_50 rfl rfl ?_
    refine o_getf (j := 0) dX5_helper_51 rfl hcX5 inX5 (Nat.le_of_ble_eq_true rfl) wd686 rfl rfl ?_
    refine o_aload_n dX5_helper_54 rfl rfl ?_
    refine o_getf (j := 1) dX5_helper_55 rfl hcX5 inX5 (Nat.le_of_ble_eq_true rfl) wd687 rfl rfl ?_
    refine o_callSd (is := [1, 2]) (tX5_copies) ⟨rfl, rfl⟩ dX5_helper_58 wd763 csX5_copies rfl ⟨(Nat.le_of_ble_eq_true rfl), (Nat.le_of_ble_eq_true rfl)⟩ rfl rfl rfl (Nat.le_of_ble_eq_true rfl) (Nat.le_of_ble_eq_true rfl) (Nat.le_of_ble_eq_true rfl) rfl ?_
    refine o_aload_n dX5_helper_61 rfl rfl ?_
    refine o_getf (j := 1) dX5_helper_62 rfl hcX5 inX5 (Nat.le_of_ble_eq_true rfl) wd687 rfl rfl ?_
    refine o_iload dX5_helper_65 rfl ?_
    refine o_iload dX5_helper_67 rfl ?_
    refine o_bipush dX5_helper_69 bp_9 ?_
    refine o_callSd (is := [2]) (tX5_adds h6 hS.e1) ⟨rfl, rfl⟩ dX5_helper_71 wd780 csX5_adds rfl ⟨(Nat.le_of_ble_eq_true rfl), (Nat.le_of_ble_eq_true rfl)⟩ rfl rfl rfl (Nat.le_of_ble_eq_true rfl) (Nat.le_of_ble_eq_true rfl) (Nat.le_of_ble_eq_true rfl) rfl ?_
    refine o_aload_n dX5_helper_74 rfl rfl ?_
    refine o_aload_n dX5_helper_75 rfl rfl ?_
    refine o_getf (j := 1) dX5_helper_76 rfl hcX5 inX5 (Nat.le_of_ble_eq_true rfl) wd687 rfl rfl ?_
    refine o_iload_n dX5_helper_79 rfl rfl ?_
    refine o_callVd (is := [0, 1, 2, 3, 4, 5, 6, 7, 8, 9]) (ho_m hm (by omega)) ⟨rfl, rfl⟩ dX5_helper_80 wd797 cvX5_hoursOn rfl ⟨(Nat.le_of_ble_eq_true rfl), (Nat.le_of_ble_eq_true rfl)⟩ hcX5 rfl rfl rfl rfl (Nat.le_of_ble_eq_true rfl) (Nat.le_of_ble_eq_true rfl) (Nat.le_of_ble_eq_true rfl) rfl ?_
    refine o_aload_n dX5_helper_83 rfl rfl ?_
    refine o_getf (j := 1) dX5_helper_84 rfl hcX5 inX5 (Nat.le_of_ble_eq_true rfl) wd687 rfl rfl ?_
    refine o_callSr (is := [2]) (tX5_homeIn (by omega) h7) ⟨rfl, rfl⟩ dX5_helper_87 wd883 csX5_homeIn rfl ⟨(Nat.le_of_ble_eq_true rfl), (Nat.le_of_ble_eq_true rfl)⟩ rfl rfl rfl (Nat.le_of_ble_eq_true rfl) (Nat.le_of_ble_eq_true rfl) (Nat.le_of_ble_eq_true rfl) ?_
    refine o_iconst dX5_helper_90 ic_1 ?_
    refine o_aload_n dX5_helper_91 rfl rfl ?_
    refine o_getf (j := 0) dX5_helper_92 rfl hcX5 inX5 (Nat.le_of_ble_eq_true rfl) wd686 rfl rfl ?_
    refine o_iconst dX5_helper_95 ic_1 ?_
    refine o_ialp (i := 1) dX5_helper_96 rfl (rfl) (by decide) ?_
    refine o_eqs (by rw [hS.e1]) ?_
    refine o_ishl dX5_helper_97 ?_
    refine o_iconst dX5_helper_98 ic_m1 ?_
    refine o_ixor dX5_helper_99 ?_
    refine o_iand dX5_helper_100 ?_
    refine o_callSr (is := []) (tX5_bits) ⟨rfl, rfl⟩ dX5_helper_101 wd886 csX5_bits rfl ⟨(Nat.le_of_ble_eq_true rfl), (Nat.le_of_ble_eq_true rfl)⟩ rfl rfl rfl (Nat.le_of_ble_eq_true rfl) (Nat.le_of_ble_eq_true rfl) (Nat.le_of_ble_eq_true rfl) ?_
    refine o_istg_7 dX5_helper_104 rfl (Nat.le_of_ble_eq_true rfl) ?_
    refine o_iload dX5_helper_106 rfl ?_
    refine o_iload dX5_helper_108 rfl ?_
    refine o_icmp_gt (tgt := 116) dX5_helper_110 (by decide) (fun c_110 => ?_) (fun c_110 => ?_)
    · skip
      refine o_iload dX5_helper_116 rfl ?_
      refine o_istg_4 dX5_helper_118 rfl (Nat.le_of_ble_eq_true rfl) ?_
      refine o_iload dX5_helper_120 rfl ?_
      refine o_istg_5 dX5_helper_122 rfl (Nat.le_of_ble_eq_true rfl) ?_
      refine o_inc_6 dX5_helper_124 rfl ic_1 (Nat.le_of_ble_eq_true rfl) ?_
      refine o_goto (tgt := 43) dX5_helper_127 (by decide) ?_
      exact o_eqa (by rw [nI_1, buS, if_pos (show (buS 0 (-1) (hpV r n) k).2 < hpV r n k from c_110)]; rfl) rfl (ih (k + 1) _ _ _ _ (by omega) (by omega))
    · skip
      refine o_goto (tgt := 124) dX5_helper_113 (by decide) ?_
      refine o_inc_6 dX5_helper_124 rfl ic_1 (Nat.le_of_ble_eq_true rfl) ?_
      refine o_goto (tgt := 43) dX5_helper_127 (by decide) ?_
      exact o_eqa (by rw [nI_1, buS, if_neg (show ¬ (buS 0 (-1) (hpV r n) k).2 < hpV r n k from c_110)]) rfl (ih (k + 1) _ _ _ _ (by omega) (by omega))
theorem tX5_helper {r m im wa fr lt rw rf nu : Nat → Int32} {hi pl sd : Int32} {L R : Nat} (hS : SOk r) {x w : Int32} : PM mX5_helper [.ref 0, .int x, .int w] (mW r m im wa fr hi lt rw rf (nI L) (nI R) pl nu sd) (MP (s_helper x w (r, im, hi, lt, L, rw, R, rf))) := by
  refine PM.ofp 5 (by decide) (Nat.le_of_ble_eq_true rfl) ?_
  show Ok mX5_helper none 0 [some (.ref 0), some (.int x), some (.int w), none, none, none, none, none] [] (mW r m im wa fr hi lt rw rf (nI L) (nI R) pl nu sd) 0 0 _
  refine o_iload_n dX5_helper_0 rfl rfl ?_
  refine o_iconst dX5_helper_1 ic_0 ?_
  refine o_bipush dX5_helper_2 bp_30 ?_
  refine o_callSr (is := []) (tX5_wrongBy) ⟨rfl, rfl⟩ dX5_helper_4 wd872 csX5_wrongBy rfl ⟨(Nat.le_of_ble_eq_true rfl), (Nat.le_of_ble_eq_true rfl)⟩ rfl rfl rfl (Nat.le_of_ble_eq_true rfl) (Nat.le_of_ble_eq_true rfl) (Nat.le_of_ble_eq_true rfl) ?_
  refine o_wr3 (fun hw => ?_) (fun hw1 hw2 => ?_) (fun hw1 hw2 => ?_)
  · skip
    refine o_istn_3 dX5_helper_7 rfl rfl (Nat.le_of_ble_eq_true rfl) ?_
    refine o_iload_n dX5_helper_8 rfl rfl ?_
    refine o_if_ne (tgt := 24) dX5_helper_9 (by decide) (fun _ => ?_) (fun cq => absurd cq (by decide))
    refine o_iload_n dX5_helper_24 rfl rfl ?_
    refine o_if_eq (tgt := 34) dX5_helper_25 (by decide) (fun cq => absurd cq (by decide)) (fun _ => ?_)
    refine o_aload_n dX5_helper_28 rfl rfl ?_
    refine o_iload_n dX5_helper_29 rfl rfl ?_
    refine o_callVd (is := [0, 1, 2, 3, 4, 5, 6, 7, 8, 9]) (tX5_no (c := 4) rfl (by decide)) ⟨rfl, rfl⟩ dX5_helper_30 wd733 cvX5_no rfl ⟨(Nat.le_of_ble_eq_true rfl), (Nat.le_of_ble_eq_true rfl)⟩ hcX5 rfl rfl rfl rfl (Nat.le_of_ble_eq_true rfl) (Nat.le_of_ble_eq_true rfl) (Nat.le_of_ble_eq_true rfl) rfl ?_
    refine o_iret dX5_helper_33 rfl (vp_nar_int _) (Nat.le_of_ble_eq_true rfl) (Nat.le_of_ble_eq_true rfl) ?_
    exact MP.mk (σ := (r, im, hi, lt, L, rw, R, rfu rf 4)) (by simp only [s_helper, wrB, if_pos hw]; rfl)
  · skip
    refine o_istn_3 dX5_helper_7 rfl rfl (Nat.le_of_ble_eq_true rfl) ?_
    refine o_iload_n dX5_helper_8 rfl rfl ?_
    refine o_if_ne (tgt := 24) dX5_helper_9 (by decide) (fun _ => ?_) (fun cq => absurd cq (by decide))
    refine o_iload_n dX5_helper_24 rfl rfl ?_
    refine o_if_eq (tgt := 34) dX5_helper_25 (by decide) (fun cq => absurd cq (by decide)) (fun _ => ?_)
    refine o_aload_n dX5_helper_28 rfl rfl ?_
    refine o_iload_n dX5_helper_29 rfl rfl ?_
    refine o_callVd (is := [0, 1, 2, 3, 4, 5, 6, 7, 8, 9]) (tX5_no (c := 6) rfl (by decide)) ⟨rfl, rfl⟩ dX5_helper_30 wd733 cvX5_no rfl ⟨(Nat.le_of_ble_eq_true rfl), (Nat.le_of_ble_eq_true rfl)⟩ hcX5 rfl rfl rfl rfl (Nat.le_of_ble_eq_true rfl) (Nat.le_of_ble_eq_true rfl) (Nat.le_of_ble_eq_true rfl) rfl ?_
    refine o_iret dX5_helper_33 rfl (vp_nar_int _) (Nat.le_of_ble_eq_true rfl) (Nat.le_of_ble_eq_true rfl) ?_
    exact MP.mk (σ := (r, im, hi, lt, L, rw, R, rfu rf 6)) (by simp only [s_helper, wrB, if_neg hw1, show nI 30 < x from hw2, if_true]; rfl)
  · obtain ⟨q, hq, rfl⟩ := rng (b := 30) (by omega) hw1 hw2
    have eq := cN_nI (d := q) (by omega)
    refine o_istn_3 dX5_helper_7 rfl rfl (Nat.le_of_ble_eq_true rfl) ?_
    refine o_iload_n dX5_helper_8 rfl rfl ?_
    refine o_if_ne (tgt := 24) dX5_helper_9 (by decide) (fun cq => absurd (by decide) cq) (fun _ => ?_)
    refine o_iload_n dX5_helper_12 rfl rfl ?_
    refine o_iconst dX5_helper_13 ic_0 ?_
    refine o_iconst dX5_helper_14 ic_1 ?_
    refine o_callSr (is := []) (tX5_isIn) ⟨rfl, rfl⟩ dX5_helper_15 wd760 csX5_isIn rfl ⟨(Nat.le_of_ble_eq_true rfl), (Nat.le_of_ble_eq_true rfl)⟩ rfl rfl rfl (Nat.le_of_ble_eq_true rfl) (Nat.le_of_ble_eq_true rfl) (Nat.le_of_ble_eq_true rfl) ?_
    refine o_if_ne (tgt := 24) dX5_helper_18 (by decide) (fun c_18 => ?_) (fun c_18 => ?_)
    · have hww : inR 2 w = true := by rw [← isInB_eq 1 (by omega)]; exact bI_ne c_18
      refine o_iload_n dX5_helper_24 rfl rfl ?_
      refine o_if_eq (tgt := 34) dX5_helper_25 (by decide) (fun _ => ?_) (fun cq => absurd (by decide) cq)
      refine o_iconst dX5_helper_34 ic_0 ?_
      refine o_istg_4 dX5_helper_35 rfl (Nat.le_of_ble_eq_true rfl) ?_
      refine o_iconst dX5_helper_37 ic_m1 ?_
      refine o_istg_5 dX5_helper_38 rfl (Nat.le_of_ble_eq_true rfl) ?_
      refine o_iconst dX5_helper_40 ic_0 ?_
      refine o_istg_6 dX5_helper_41 rfl (Nat.le_of_ble_eq_true rfl) ?_
      exact o_post (fun a w2 h => by obtain ⟨rfl, m2, fr2, rfl⟩ := h; exact MP.mk (σ := (r, im, hi, lt, L, rw, R, rf)) (by simp only [s_helper, wrB, if_neg hw1, show ¬ nI 30 < nI q from hw2, if_false, hww, if_true, eq])) (o_eqa (by rw [nI_0]; rfl) rfl (lX5_helper (w := w) hS hq 9 0 m fr _ _ (by omega) (by omega)))
    · have hww : inR 2 w = false := by rw [← isInB_eq 1 (by omega)]; exact bI_0.mp c_18
      refine o_bipush dX5_helper_21 bp_m2 ?_
      refine o_istn_3 dX5_helper_23 rfl rfl (Nat.le_of_ble_eq_true rfl) ?_
      refine o_iload_n dX5_helper_24 rfl rfl ?_
      refine o_if_eq (tgt := 34) dX5_helper_25 (by decide) (fun cq => absurd cq (by decide)) (fun _ => ?_)
      refine o_aload_n dX5_helper_28 rfl rfl ?_
      refine o_iload_n dX5_helper_29 rfl rfl ?_
      refine o_callVd (is := [0, 1, 2, 3, 4, 5, 6, 7, 8, 9]) (tX5_no (c := 2) rfl (by decide)) ⟨rfl, rfl⟩ dX5_helper_30 wd733 cvX5_no rfl ⟨(Nat.le_of_ble_eq_true rfl), (Nat.le_of_ble_eq_true rfl)⟩ hcX5 rfl rfl rfl rfl (Nat.le_of_ble_eq_true rfl) (Nat.le_of_ble_eq_true rfl) (Nat.le_of_ble_eq_true rfl) rfl ?_
      refine o_iret dX5_helper_33 rfl (vp_nar_int _) (Nat.le_of_ble_eq_true rfl) (Nat.le_of_ble_eq_true rfl) ?_
      exact MP.mk (σ := (r, im, hi, lt, L, rw, R, rfu rf 2)) (by simp only [s_helper, wrB, if_neg hw1, show ¬ nI 30 < nI q from hw2, if_false, hww]; rfl)
theorem lX5_bestDoor {r im wa lt rw rf nu : Nat → Int32} {hi pl sd : Int32} {L R : Nat} (hS : SOk r) {n : Nat} {wg : Bool} (hn : n ≤ 30) : ∀ (q k : Nat) (m fr : Nat → Int32), dN r - k < q → k ≤ dN r → Ok mX5_bestDoor none 23 [some (.ref 0), some (.int (nI n)), some (.int (bI wg)), some (.int (buS (-9) (hmV r n) (fun d => hmV (chD r wg d) n) k).2), some (.int (buS (-9) (hmV r n) (fun d => hmV (chD r wg d) n) k).1), some (.int (nI k))] [] (mW r m im wa fr hi lt rw rf (nI L) (nI R) pl nu sd) 0 0 (fun a w2 => a = some (.int (bdF r n wg)) ∧ ∃ m2 fr2, w2 = mW r m2 im wa fr2 hi lt rw rf (nI L) (nI R) pl nu sd) := by
  intro q
  induction q with
  | zero => intro k m fr hq hk; omega
  | succ q ih =>
  intro k m fr hq hk
  have h6 := hS.n6
  have h9 := hS.d9
  have h99 := hS.h9
  refine o_iload dX5_bestDoor_23 rfl ?_
  refine o_aload_n dX5_bestDoor_25 rfl rfl ?_
  refine o_getf (j := 0) dX5_bestDoor_26 rfl hcX5 inX5 (Nat.le_of_ble_eq_true rfl) wd686 rfl rfl ?_
  refine o_iconst dX5_bestDoor_29 ic_0 ?_
  refine o_ialp (i := 0) dX5_bestDoor_30 rfl (rfl) (by decide) ?_
  refine o_icmp_ge (tgt := 120) dX5_bestDoor_31 (by decide) (fun c_31 => ?_) (fun c_31 => ?_)
  · rw [hS.e0] at c_31
    have hkN : k = dN r := Nat.le_antisymm hk (geI (by omega) (by omega) c_31)
    refine o_iload dX5_bestDoor_120 rfl ?_
    refine o_iret dX5_bestDoor_122 rfl (vp_nar_int _) (Nat.le_of_ble_eq_true rfl) (Nat.le_of_ble_eq_true rfl) ?_
    exact ⟨by unfold bdF; rw [hkN], _, _, rfl⟩
  · rw [hS.e0] at c_31
    have hkN : k < dN r := ltI (by omega) (by omega) c_31
    refine o_aload_n dX5_bestDoor_34 rfl rfl ?_
    refine o_getf (j := 0) dX5_bestDoor_35 rfl hcX5 inX5 (Nat.le_of_ble_eq_true rfl) wd686 rfl rfl ?_
    refine o_aload_n dX5_bestDoor_38 rfl rfl ?_
    refine o_getf (j := 1) dX5_bestDoor_39 rfl hcX5 inX5 (Nat.le_of_ble_eq_true rfl) wd687 rfl rfl ?_
    refine o_callSd (is := [1, 2]) (tX5_copies) ⟨rfl, rfl⟩ dX5_bestDoor_42 wd763 csX5_copies rfl ⟨(Nat.le_of_ble_eq_true rfl), (Nat.le_of_ble_eq_true rfl)⟩ rfl rfl rfl (Nat.le_of_ble_eq_true rfl) (Nat.le_of_ble_eq_true rfl) (Nat.le_of_ble_eq_true rfl) rfl ?_
    refine o_iload_n dX5_bestDoor_45 rfl rfl ?_
    refine o_if_eq (tgt := 64) dX5_bestDoor_46 (by decide) (fun c_46 => ?_) (fun c_46 => ?_)
    · have ew : wg = false := bI_0.mp c_46
      subst ew
      obtain ⟨hm, em1, em2, em3⟩ := (MOk.turn hS.M hkN).self (by omega)
      have h7 := MS.n hm n
      rw [em2] at h7
      have ev : hmV (chD r false k) n = bitsM (homeM (hrs (tnR r k) n) (nN r)) 9 := by
        show bitsM (homeM (hrs (tnR r k) n) (nN (tnR r k))) 9 = _
        rw [em2]
      refine o_aload_n dX5_bestDoor_64 rfl rfl ?_
      refine o_getf (j := 1) dX5_bestDoor_65 rfl hcX5 inX5 (Nat.le_of_ble_eq_true rfl) wd687 rfl rfl ?_
      refine o_iload dX5_bestDoor_68 rfl ?_
      refine o_callSd (is := [2]) (tX5_turnsIn (by omega)) ⟨rfl, rfl⟩ dX5_bestDoor_70 wd794 csX5_turnsIn rfl ⟨(Nat.le_of_ble_eq_true rfl), (Nat.le_of_ble_eq_true rfl)⟩ rfl rfl rfl (Nat.le_of_ble_eq_true rfl) (Nat.le_of_ble_eq_true rfl) (Nat.le_of_ble_eq_true rfl) rfl ?_
      refine o_aload_n dX5_bestDoor_73 rfl rfl ?_
      refine o_aload_n dX5_bestDoor_74 rfl rfl ?_
      refine o_getf (j := 1) dX5_bestDoor_75 rfl hcX5 inX5 (Nat.le_of_ble_eq_true rfl) wd687 rfl rfl ?_
      refine o_iload_n dX5_bestDoor_78 rfl rfl ?_
      refine o_callVd (is := [0, 1, 2, 3, 4, 5, 6, 7, 8, 9]) (ho_m hm (by omega)) ⟨rfl, rfl⟩ dX5_bestDoor_79 wd797 cvX5_hoursOn rfl ⟨(Nat.le_of_ble_eq_true rfl), (Nat.le_of_ble_eq_true rfl)⟩ hcX5 rfl rfl rfl rfl (Nat.le_of_ble_eq_true rfl) (Nat.le_of_ble_eq_true rfl) (Nat.le_of_ble_eq_true rfl) rfl ?_
      refine o_aload_n dX5_bestDoor_82 rfl rfl ?_
      refine o_getf (j := 1) dX5_bestDoor_83 rfl hcX5 inX5 (Nat.le_of_ble_eq_true rfl) wd687 rfl rfl ?_
      refine o_callSr (is := [2]) (tX5_homeIn (by omega) h7) ⟨rfl, rfl⟩ dX5_bestDoor_86 wd883 csX5_homeIn rfl ⟨(Nat.le_of_ble_eq_true rfl), (Nat.le_of_ble_eq_true rfl)⟩ rfl rfl rfl (Nat.le_of_ble_eq_true rfl) (Nat.le_of_ble_eq_true rfl) (Nat.le_of_ble_eq_true rfl) ?_
      refine o_callSr (is := []) (tX5_bits) ⟨rfl, rfl⟩ dX5_bestDoor_89 wd886 csX5_bits rfl ⟨(Nat.le_of_ble_eq_true rfl), (Nat.le_of_ble_eq_true rfl)⟩ rfl rfl rfl (Nat.le_of_ble_eq_true rfl) (Nat.le_of_ble_eq_true rfl) (Nat.le_of_ble_eq_true rfl) ?_
      refine o_iload_n dX5_bestDoor_92 rfl rfl ?_
      refine o_icmp_gt (tgt := 99) dX5_bestDoor_93 (by decide) (fun c_93 => ?_) (fun c_93 => ?_)
      · skip
        refine o_iload dX5_bestDoor_99 rfl ?_
        refine o_istg_4 dX5_bestDoor_101 rfl (Nat.le_of_ble_eq_true rfl) ?_
        refine o_aload_n dX5_bestDoor_103 rfl rfl ?_
        refine o_getf (j := 1) dX5_bestDoor_104 rfl hcX5 inX5 (Nat.le_of_ble_eq_true rfl) wd687 rfl rfl ?_
        refine o_callSr (is := [2]) (tX5_homeIn (by omega) h7) ⟨rfl, rfl⟩ dX5_bestDoor_107 wd883 csX5_homeIn rfl ⟨(Nat.le_of_ble_eq_true rfl), (Nat.le_of_ble_eq_true rfl)⟩ rfl rfl rfl (Nat.le_of_ble_eq_true rfl) (Nat.le_of_ble_eq_true rfl) (Nat.le_of_ble_eq_true rfl) ?_
        refine o_callSr (is := []) (tX5_bits) ⟨rfl, rfl⟩ dX5_bestDoor_110 wd886 csX5_bits rfl ⟨(Nat.le_of_ble_eq_true rfl), (Nat.le_of_ble_eq_true rfl)⟩ rfl rfl rfl (Nat.le_of_ble_eq_true rfl) (Nat.le_of_ble_eq_true rfl) (Nat.le_of_ble_eq_true rfl) ?_
        refine o_istn_3 dX5_bestDoor_113 rfl rfl (Nat.le_of_ble_eq_true rfl) ?_
        refine o_inc_5 dX5_bestDoor_114 rfl ic_1 (Nat.le_of_ble_eq_true rfl) ?_
        refine o_goto (tgt := 23) dX5_bestDoor_117 (by decide) ?_
        have hb : buS (-9) (hmV r n) (fun d => hmV (chD r false d) n) (k + 1) = (nI k, hmV (chD r false k) n) := by
          show (if (buS (-9) (hmV r n) (fun d => hmV (chD r false d) n) k).2 < hmV (chD r false k) n then (nI k, hmV (chD r false k) n) else buS (-9) (hmV r n) (fun d => hmV (chD r false d) n) k) = _
          rw [ev, if_pos c_93]
        exact o_eqa (by rw [nI_1, hb, ev]) rfl (ih (k + 1) _ _ (by omega) (by omega))
      · skip
        refine o_goto (tgt := 114) dX5_bestDoor_96 (by decide) ?_
        refine o_inc_5 dX5_bestDoor_114 rfl ic_1 (Nat.le_of_ble_eq_true rfl) ?_
        refine o_goto (tgt := 23) dX5_bestDoor_117 (by decide) ?_
        have hb : buS (-9) (hmV r n) (fun d => hmV (chD r false d) n) (k + 1) = buS (-9) (hmV r n) (fun d => hmV (chD r false d) n) k := by
          show (if (buS (-9) (hmV r n) (fun d => hmV (chD r false d) n) k).2 < hmV (chD r false k) n then (nI k, hmV (chD r false k) n) else buS (-9) (hmV r n) (fun d => hmV (chD r false d) n) k) = _
          rw [ev, if_neg c_93]
        exact o_eqa (by rw [nI_1, hb]) rfl (ih (k + 1) _ _ (by omega) (by omega))
    · have ew : wg = true := bI_ne c_46
      subst ew
      obtain ⟨hm, em1, em2, em3⟩ := (MOk.wedge (d := k) (v := 1) hS.M (by omega)).self (by omega)
      have h7 := MS.n hm n
      rw [em2] at h7
      have ev : hmV (chD r true k) n = bitsM (homeM (hrs (upd r (9 + 5 * k) 1) n) (nN r)) 9 := by
        show bitsM (homeM (hrs (upd r (9 + 5 * k) 1) n) (nN (upd r (9 + 5 * k) 1))) 9 = _
        rw [em2]
      refine o_aload_n dX5_bestDoor_49 rfl rfl ?_
      refine o_getf (j := 1) dX5_bestDoor_50 rfl hcX5 inX5 (Nat.le_of_ble_eq_true rfl) wd687 rfl rfl ?_
      refine o_iload dX5_bestDoor_53 rfl ?_
      refine o_iconst dX5_bestDoor_55 ic_4 ?_
      refine o_callSr (is := []) (ofD4) ⟨rfl, rfl⟩ dX5_bestDoor_56 wd777 csX5_ofD rfl ⟨(Nat.le_of_ble_eq_true rfl), (Nat.le_of_ble_eq_true rfl)⟩ rfl rfl rfl (Nat.le_of_ble_eq_true rfl) (Nat.le_of_ble_eq_true rfl) (Nat.le_of_ble_eq_true rfl) ?_
      refine o_iconst dX5_bestDoor_59 ic_1 ?_
      refine o_iasp (i := 9 + 5 * k) dX5_bestDoor_60 rfl (rfl) (by omega) rfl ?_
      refine o_goto (tgt := 73) dX5_bestDoor_61 (by decide) ?_
      refine o_aload_n dX5_bestDoor_73 rfl rfl ?_
      refine o_aload_n dX5_bestDoor_74 rfl rfl ?_
      refine o_getf (j := 1) dX5_bestDoor_75 rfl hcX5 inX5 (Nat.le_of_ble_eq_true rfl) wd687 rfl rfl ?_
      refine o_iload_n dX5_bestDoor_78 rfl rfl ?_
      refine o_callVd (is := [0, 1, 2, 3, 4, 5, 6, 7, 8, 9]) (ho_m hm (by omega)) ⟨rfl, rfl⟩ dX5_bestDoor_79 wd797 cvX5_hoursOn rfl ⟨(Nat.le_of_ble_eq_true rfl), (Nat.le_of_ble_eq_true rfl)⟩ hcX5 rfl rfl rfl rfl (Nat.le_of_ble_eq_true rfl) (Nat.le_of_ble_eq_true rfl) (Nat.le_of_ble_eq_true rfl) rfl ?_
      refine o_aload_n dX5_bestDoor_82 rfl rfl ?_
      refine o_getf (j := 1) dX5_bestDoor_83 rfl hcX5 inX5 (Nat.le_of_ble_eq_true rfl) wd687 rfl rfl ?_
      refine o_callSr (is := [2]) (tX5_homeIn (by omega) h7) ⟨rfl, rfl⟩ dX5_bestDoor_86 wd883 csX5_homeIn rfl ⟨(Nat.le_of_ble_eq_true rfl), (Nat.le_of_ble_eq_true rfl)⟩ rfl rfl rfl (Nat.le_of_ble_eq_true rfl) (Nat.le_of_ble_eq_true rfl) (Nat.le_of_ble_eq_true rfl) ?_
      refine o_callSr (is := []) (tX5_bits) ⟨rfl, rfl⟩ dX5_bestDoor_89 wd886 csX5_bits rfl ⟨(Nat.le_of_ble_eq_true rfl), (Nat.le_of_ble_eq_true rfl)⟩ rfl rfl rfl (Nat.le_of_ble_eq_true rfl) (Nat.le_of_ble_eq_true rfl) (Nat.le_of_ble_eq_true rfl) ?_
      refine o_iload_n dX5_bestDoor_92 rfl rfl ?_
      refine o_icmp_gt (tgt := 99) dX5_bestDoor_93 (by decide) (fun c_93 => ?_) (fun c_93 => ?_)
      · skip
        refine o_iload dX5_bestDoor_99 rfl ?_
        refine o_istg_4 dX5_bestDoor_101 rfl (Nat.le_of_ble_eq_true rfl) ?_
        refine o_aload_n dX5_bestDoor_103 rfl rfl ?_
        refine o_getf (j := 1) dX5_bestDoor_104 rfl hcX5 inX5 (Nat.le_of_ble_eq_true rfl) wd687 rfl rfl ?_
        refine o_callSr (is := [2]) (tX5_homeIn (by omega) h7) ⟨rfl, rfl⟩ dX5_bestDoor_107 wd883 csX5_homeIn rfl ⟨(Nat.le_of_ble_eq_true rfl), (Nat.le_of_ble_eq_true rfl)⟩ rfl rfl rfl (Nat.le_of_ble_eq_true rfl) (Nat.le_of_ble_eq_true rfl) (Nat.le_of_ble_eq_true rfl) ?_
        refine o_callSr (is := []) (tX5_bits) ⟨rfl, rfl⟩ dX5_bestDoor_110 wd886 csX5_bits rfl ⟨(Nat.le_of_ble_eq_true rfl), (Nat.le_of_ble_eq_true rfl)⟩ rfl rfl rfl (Nat.le_of_ble_eq_true rfl) (Nat.le_of_ble_eq_true rfl) (Nat.le_of_ble_eq_true rfl) ?_
        refine o_istn_3 dX5_bestDoor_113 rfl rfl (Nat.le_of_ble_eq_true rfl) ?_
        refine o_inc_5 dX5_bestDoor_114 rfl ic_1 (Nat.le_of_ble_eq_true rfl) ?_
        refine o_goto (tgt := 23) dX5_bestDoor_117 (by decide) ?_
        have hb : buS (-9) (hmV r n) (fun d => hmV (chD r true d) n) (k + 1) = (nI k, hmV (chD r true k) n) := by
          show (if (buS (-9) (hmV r n) (fun d => hmV (chD r true d) n) k).2 < hmV (chD r true k) n then (nI k, hmV (chD r true k) n) else buS (-9) (hmV r n) (fun d => hmV (chD r true d) n) k) = _
          rw [ev, if_pos c_93]
        exact o_eqa (by rw [nI_1, hb, ev]) rfl (ih (k + 1) _ _ (by omega) (by omega))
      · skip
        refine o_goto (tgt := 114) dX5_bestDoor_96 (by decide) ?_
        refine o_inc_5 dX5_bestDoor_114 rfl ic_1 (Nat.le_of_ble_eq_true rfl) ?_
        refine o_goto (tgt := 23) dX5_bestDoor_117 (by decide) ?_
        have hb : buS (-9) (hmV r n) (fun d => hmV (chD r true d) n) (k + 1) = buS (-9) (hmV r n) (fun d => hmV (chD r true d) n) k := by
          show (if (buS (-9) (hmV r n) (fun d => hmV (chD r true d) n) k).2 < hmV (chD r true k) n then (nI k, hmV (chD r true k) n) else buS (-9) (hmV r n) (fun d => hmV (chD r true d) n) k) = _
          rw [ev, if_neg c_93]
        exact o_eqa (by rw [nI_1, hb]) rfl (ih (k + 1) _ _ (by omega) (by omega))
theorem tX5_bestDoor {r m im wa fr lt rw rf nu : Nat → Int32} {hi pl sd : Int32} {L R : Nat} (hS : SOk r) {n : Nat} {wg : Bool} (hn : n ≤ 30) : PM mX5_bestDoor [.ref 0, .int (nI n), .int (bI wg)] (mW r m im wa fr hi lt rw rf (nI L) (nI R) pl nu sd) (fun a w2 => a = some (.int (bdF r n wg)) ∧ ∃ m2 fr2, w2 = mW r m2 im wa fr2 hi lt rw rf (nI L) (nI R) pl nu sd) := by
  refine PM.ofp 3 (by decide) (Nat.le_of_ble_eq_true rfl) ?_
  show Ok mX5_bestDoor none 0 [some (.ref 0), some (.int (nI n)), some (.int (bI wg)), none, none, none] [] (mW r m im wa fr hi lt rw rf (nI L) (nI R) pl nu sd) 0 0 _
  have h6 := hS.n6
  refine o_aload_n dX5_bestDoor_0 rfl rfl ?_
  refine o_iload_n dX5_bestDoor_1 rfl rfl ?_
  refine o_callVd (is := [0, 1, 2, 3, 4, 5, 6, 7, 8, 9]) (tX5_takes hS (by omega)) ⟨rfl, rfl⟩ dX5_bestDoor_2 wd893 cvX5_takes rfl ⟨(Nat.le_of_ble_eq_true rfl), (Nat.le_of_ble_eq_true rfl)⟩ hcX5 rfl rfl rfl rfl (Nat.le_of_ble_eq_true rfl) (Nat.le_of_ble_eq_true rfl) (Nat.le_of_ble_eq_true rfl) rfl ?_
  refine o_aload_n dX5_bestDoor_5 rfl rfl ?_
  refine o_getf (j := 1) dX5_bestDoor_6 rfl hcX5 inX5 (Nat.le_of_ble_eq_true rfl) wd687 rfl rfl ?_
  refine o_callSr (is := [2]) (tX5_homeIn (by omega) (hrs_n hS n)) ⟨rfl, rfl⟩ dX5_bestDoor_9 wd883 csX5_homeIn rfl ⟨(Nat.le_of_ble_eq_true rfl), (Nat.le_of_ble_eq_true rfl)⟩ rfl rfl rfl (Nat.le_of_ble_eq_true rfl) (Nat.le_of_ble_eq_true rfl) (Nat.le_of_ble_eq_true rfl) ?_
  refine o_callSr (is := []) (tX5_bits) ⟨rfl, rfl⟩ dX5_bestDoor_12 wd886 csX5_bits rfl ⟨(Nat.le_of_ble_eq_true rfl), (Nat.le_of_ble_eq_true rfl)⟩ rfl rfl rfl (Nat.le_of_ble_eq_true rfl) (Nat.le_of_ble_eq_true rfl) (Nat.le_of_ble_eq_true rfl) ?_
  refine o_istn_3 dX5_bestDoor_15 rfl rfl (Nat.le_of_ble_eq_true rfl) ?_
  refine o_bipush dX5_bestDoor_16 bp_m9 ?_
  refine o_istg_4 dX5_bestDoor_18 rfl (Nat.le_of_ble_eq_true rfl) ?_
  refine o_iconst dX5_bestDoor_20 ic_0 ?_
  refine o_istg_5 dX5_bestDoor_21 rfl (Nat.le_of_ble_eq_true rfl) ?_
  exact o_eqa (by rw [nI_0]; rfl) rfl (lX5_bestDoor hS hn (dN r + 1) 0 _ _ (by omega) (by omega))
theorem tX5_turn {r m im wa fr lt rw rf nu : Nat → Int32} {hi pl sd : Int32} {L R : Nat} (hS : SOk r) {x : Int32} : PM mX5_turn [.ref 0, .int x] (mW r m im wa fr hi lt rw rf (nI L) (nI R) pl nu sd) (MP (s_bestDoor false x (r, im, hi, lt, L, rw, R, rf))) := by
  refine PM.ofp 1 (by decide) (Nat.le_of_ble_eq_true rfl) ?_
  show Ok mX5_turn none 0 [some (.ref 0), some (.int x), none] [] (mW r m im wa fr hi lt rw rf (nI L) (nI R) pl nu sd) 0 0 _
  refine o_iload_n dX5_turn_0 rfl rfl ?_
  refine o_iconst dX5_turn_1 ic_0 ?_
  refine o_bipush dX5_turn_2 bp_30 ?_
  refine o_callSr (is := []) (tX5_wrongBy) ⟨rfl, rfl⟩ dX5_turn_4 wd872 csX5_wrongBy rfl ⟨(Nat.le_of_ble_eq_true rfl), (Nat.le_of_ble_eq_true rfl)⟩ rfl rfl rfl (Nat.le_of_ble_eq_true rfl) (Nat.le_of_ble_eq_true rfl) (Nat.le_of_ble_eq_true rfl) ?_
  refine o_wr3 (fun hw => ?_) (fun hw1 hw2 => ?_) (fun hw1 hw2 => ?_)
  · skip
    refine o_istn_2 dX5_turn_7 rfl rfl (Nat.le_of_ble_eq_true rfl) ?_
    refine o_iload_n dX5_turn_8 rfl rfl ?_
    refine o_if_eq (tgt := 20) dX5_turn_9 (by decide) (fun cq => absurd cq (by decide)) (fun _ => ?_)
    refine o_aload_n dX5_turn_12 rfl rfl ?_
    refine o_iload_n dX5_turn_13 rfl rfl ?_
    refine o_callVd (is := [0, 1, 2, 3, 4, 5, 6, 7, 8, 9]) (tX5_no (c := 4) rfl (by decide)) ⟨rfl, rfl⟩ dX5_turn_14 wd733 cvX5_no rfl ⟨(Nat.le_of_ble_eq_true rfl), (Nat.le_of_ble_eq_true rfl)⟩ hcX5 rfl rfl rfl rfl (Nat.le_of_ble_eq_true rfl) (Nat.le_of_ble_eq_true rfl) (Nat.le_of_ble_eq_true rfl) rfl ?_
    refine o_goto (tgt := 26) dX5_turn_17 (by decide) ?_
    refine o_iret dX5_turn_26 rfl (vp_nar_int _) (Nat.le_of_ble_eq_true rfl) (Nat.le_of_ble_eq_true rfl) ?_
    exact MP.mk (σ := (r, im, hi, lt, L, rw, R, rfu rf 4)) (by simp only [s_bestDoor, wrB, if_pos hw]; rfl)
  · skip
    refine o_istn_2 dX5_turn_7 rfl rfl (Nat.le_of_ble_eq_true rfl) ?_
    refine o_iload_n dX5_turn_8 rfl rfl ?_
    refine o_if_eq (tgt := 20) dX5_turn_9 (by decide) (fun cq => absurd cq (by decide)) (fun _ => ?_)
    refine o_aload_n dX5_turn_12 rfl rfl ?_
    refine o_iload_n dX5_turn_13 rfl rfl ?_
    refine o_callVd (is := [0, 1, 2, 3, 4, 5, 6, 7, 8, 9]) (tX5_no (c := 6) rfl (by decide)) ⟨rfl, rfl⟩ dX5_turn_14 wd733 cvX5_no rfl ⟨(Nat.le_of_ble_eq_true rfl), (Nat.le_of_ble_eq_true rfl)⟩ hcX5 rfl rfl rfl rfl (Nat.le_of_ble_eq_true rfl) (Nat.le_of_ble_eq_true rfl) (Nat.le_of_ble_eq_true rfl) rfl ?_
    refine o_goto (tgt := 26) dX5_turn_17 (by decide) ?_
    refine o_iret dX5_turn_26 rfl (vp_nar_int _) (Nat.le_of_ble_eq_true rfl) (Nat.le_of_ble_eq_true rfl) ?_
    exact MP.mk (σ := (r, im, hi, lt, L, rw, R, rfu rf 6)) (by simp only [s_bestDoor, wrB, if_neg hw1, show nI 30 < x from hw2, if_true]; rfl)
  · obtain ⟨q, hq, rfl⟩ := rng (b := 30) (by omega) hw1 hw2
    have eq := cN_nI (d := q) (by omega)
    refine o_istn_2 dX5_turn_7 rfl rfl (Nat.le_of_ble_eq_true rfl) ?_
    refine o_iload_n dX5_turn_8 rfl rfl ?_
    refine o_if_eq (tgt := 20) dX5_turn_9 (by decide) (fun _ => ?_) (fun cq => absurd (by decide) cq)
    refine o_aload_n dX5_turn_20 rfl rfl ?_
    refine o_iload_n dX5_turn_21 rfl rfl ?_
    refine o_iconst dX5_turn_22 ic_0 ?_
    refine o_callV (is := [0, 1, 2, 3, 4, 5, 6, 7, 8, 9]) (tX5_bestDoor (wg := false) hS hq) ⟨rfl, rfl⟩ dX5_turn_23 wd960 cvX5_bestDoor rfl ⟨(Nat.le_of_ble_eq_true rfl), (Nat.le_of_ble_eq_true rfl)⟩ hcX5 rfl rfl rfl rfl (Nat.le_of_ble_eq_true rfl) (Nat.le_of_ble_eq_true rfl) (Nat.le_of_ble_eq_true rfl) (fun ra wb hq_ hqn => ?_)
    obtain ⟨rfl, m2, fr2, rfl⟩ := hq_
    refine o_iret dX5_turn_26 rfl (vp_nar_int _) (Nat.le_of_ble_eq_true rfl) (Nat.le_of_ble_eq_true rfl) ?_
    exact MP.mk (σ := (r, im, hi, lt, L, rw, R, rf)) (by simp only [s_bestDoor, wrB, if_neg hw1, show ¬ nI 30 < nI q from hw2, if_false, eq])
theorem tX5_wedge {r m im wa fr lt rw rf nu : Nat → Int32} {hi pl sd : Int32} {L R : Nat} (hS : SOk r) {x : Int32} : PM mX5_wedge [.ref 0, .int x] (mW r m im wa fr hi lt rw rf (nI L) (nI R) pl nu sd) (MP (s_bestDoor true x (r, im, hi, lt, L, rw, R, rf))) := by
  refine PM.ofp 1 (by decide) (Nat.le_of_ble_eq_true rfl) ?_
  show Ok mX5_wedge none 0 [some (.ref 0), some (.int x), none] [] (mW r m im wa fr hi lt rw rf (nI L) (nI R) pl nu sd) 0 0 _
  refine o_iload_n dX5_wedge_0 rfl rfl ?_
  refine o_iconst dX5_wedge_1 ic_0 ?_
  refine o_bipush dX5_wedge_2 bp_30 ?_
  refine o_callSr (is := []) (tX5_wrongBy) ⟨rfl, rfl⟩ dX5_wedge_4 wd872 csX5_wrongBy rfl ⟨(Nat.le_of_ble_eq_true rfl), (Nat.le_of_ble_eq_true rfl)⟩ rfl rfl rfl (Nat.le_of_ble_eq_true rfl) (Nat.le_of_ble_eq_true rfl) (Nat.le_of_ble_eq_true rfl) ?_
  refine o_wr3 (fun hw => ?_) (fun hw1 hw2 => ?_) (fun hw1 hw2 => ?_)
  · skip
    refine o_istn_2 dX5_wedge_7 rfl rfl (Nat.le_of_ble_eq_true rfl) ?_
    refine o_iload_n dX5_wedge_8 rfl rfl ?_
    refine o_if_eq (tgt := 20) dX5_wedge_9 (by decide) (fun cq => absurd cq (by decide)) (fun _ => ?_)
    refine o_aload_n dX5_wedge_12 rfl rfl ?_
    refine o_iload_n dX5_wedge_13 rfl rfl ?_
    refine o_callVd (is := [0, 1, 2, 3, 4, 5, 6, 7, 8, 9]) (tX5_no (c := 4) rfl (by decide)) ⟨rfl, rfl⟩ dX5_wedge_14 wd733 cvX5_no rfl ⟨(Nat.le_of_ble_eq_true rfl), (Nat.le_of_ble_eq_true rfl)⟩ hcX5 rfl rfl rfl rfl (Nat.le_of_ble_eq_true rfl) (Nat.le_of_ble_eq_true rfl) (Nat.le_of_ble_eq_true rfl) rfl ?_
    refine o_goto (tgt := 26) dX5_wedge_17 (by decide) ?_
    refine o_iret dX5_wedge_26 rfl (vp_nar_int _) (Nat.le_of_ble_eq_true rfl) (Nat.le_of_ble_eq_true rfl) ?_
    exact MP.mk (σ := (r, im, hi, lt, L, rw, R, rfu rf 4)) (by simp only [s_bestDoor, wrB, if_pos hw]; rfl)
  · skip
    refine o_istn_2 dX5_wedge_7 rfl rfl (Nat.le_of_ble_eq_true rfl) ?_
    refine o_iload_n dX5_wedge_8 rfl rfl ?_
    refine o_if_eq (tgt := 20) dX5_wedge_9 (by decide) (fun cq => absurd cq (by decide)) (fun _ => ?_)
    refine o_aload_n dX5_wedge_12 rfl rfl ?_
    refine o_iload_n dX5_wedge_13 rfl rfl ?_
    refine o_callVd (is := [0, 1, 2, 3, 4, 5, 6, 7, 8, 9]) (tX5_no (c := 6) rfl (by decide)) ⟨rfl, rfl⟩ dX5_wedge_14 wd733 cvX5_no rfl ⟨(Nat.le_of_ble_eq_true rfl), (Nat.le_of_ble_eq_true rfl)⟩ hcX5 rfl rfl rfl rfl (Nat.le_of_ble_eq_true rfl) (Nat.le_of_ble_eq_true rfl) (Nat.le_of_ble_eq_true rfl) rfl ?_
    refine o_goto (tgt := 26) dX5_wedge_17 (by decide) ?_
    refine o_iret dX5_wedge_26 rfl (vp_nar_int _) (Nat.le_of_ble_eq_true rfl) (Nat.le_of_ble_eq_true rfl) ?_
    exact MP.mk (σ := (r, im, hi, lt, L, rw, R, rfu rf 6)) (by simp only [s_bestDoor, wrB, if_neg hw1, show nI 30 < x from hw2, if_true]; rfl)
  · obtain ⟨q, hq, rfl⟩ := rng (b := 30) (by omega) hw1 hw2
    have eq := cN_nI (d := q) (by omega)
    refine o_istn_2 dX5_wedge_7 rfl rfl (Nat.le_of_ble_eq_true rfl) ?_
    refine o_iload_n dX5_wedge_8 rfl rfl ?_
    refine o_if_eq (tgt := 20) dX5_wedge_9 (by decide) (fun _ => ?_) (fun cq => absurd (by decide) cq)
    refine o_aload_n dX5_wedge_20 rfl rfl ?_
    refine o_iload_n dX5_wedge_21 rfl rfl ?_
    refine o_iconst dX5_wedge_22 ic_1 ?_
    refine o_callV (is := [0, 1, 2, 3, 4, 5, 6, 7, 8, 9]) (tX5_bestDoor (wg := true) hS hq) ⟨rfl, rfl⟩ dX5_wedge_23 wd960 cvX5_bestDoor rfl ⟨(Nat.le_of_ble_eq_true rfl), (Nat.le_of_ble_eq_true rfl)⟩ hcX5 rfl rfl rfl rfl (Nat.le_of_ble_eq_true rfl) (Nat.le_of_ble_eq_true rfl) (Nat.le_of_ble_eq_true rfl) (fun ra wb hq_ hqn => ?_)
    obtain ⟨rfl, m2, fr2, rfl⟩ := hq_
    refine o_iret dX5_wedge_26 rfl (vp_nar_int _) (Nat.le_of_ble_eq_true rfl) (Nat.le_of_ble_eq_true rfl) ?_
    exact MP.mk (σ := (r, im, hi, lt, L, rw, R, rf)) (by simp only [s_bestDoor, wrB, if_neg hw1, show ¬ nI 30 < nI q from hw2, if_false, eq])
