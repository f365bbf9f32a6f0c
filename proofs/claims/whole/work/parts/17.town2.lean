def hpC (r : Nat → Int32) (x : Int32) : Nat → Int32
  | 0 => 0
  | k + 1 => if r (50 + 3 * k) = x then hpC r x k + 1 else hpC r x k
def mdC (r : Nat → Int32) (x : Int32) : Nat → Int32
  | 0 => 0
  | k + 1 => if r (50 + 3 * k) = x then (if mdC r x k < r (52 + 3 * k) then r (52 + 3 * k) else mdC r x k) else mdC r x k
def opC (r : Nat → Int32) (N d : Nat) (h : Int32) : Bool := decide (r (9 + 5 * d) = 1) || opB (r (5 + 5 * d)) (r (6 + 5 * d)) h (hpC r (r (8 + 5 * d)) N) (mdC r (r (8 + 5 * d)) N)
def dfS (t : Nat → Bool) : Nat → Nat → Int32
  | 0, _ => -9
  | q + 1, k => if t k then nI k else dfS t q (k + 1)
theorem dfS_none {t : Nat → Bool} : ∀ (q k : Nat), (∀ j, k ≤ j → j < k + q → t j = false) → dfS t q k = -9
  | 0, _, _ => rfl
  | q + 1, k, h => by
    rw [dfS, h k (Nat.le_refl k) (by omega)]
    exact dfS_none q (k + 1) (fun j h1 h2 => h j (by omega) (by omega))
theorem dfS_cases {t : Nat → Bool} : ∀ (q k : Nat), (dfS t q k = -9 ∧ ∀ j, k ≤ j → j < k + q → t j = false) ∨ ∃ j, k ≤ j ∧ j < k + q ∧ t j = true ∧ dfS t q k = nI j ∧ ∀ i, k ≤ i → i < j → t i = false
  | 0, k => Or.inl ⟨rfl, fun j h1 h2 => by omega⟩
  | q + 1, k => by
    rw [dfS]
    by_cases h : t k = true
    · rw [if_pos h]
      exact Or.inr ⟨k, Nat.le_refl k, by omega, h, rfl, fun i h1 h2 => by omega⟩
    · rw [if_neg h]
      have h' : t k = false := by simpa using h
      rcases dfS_cases q (k + 1) with ⟨e, h1⟩ | ⟨j, h1, h2, h3, h4, h5⟩
      · refine Or.inl ⟨e, fun j h2 h3 => ?_⟩
        rcases Nat.eq_or_lt_of_le h2 with rfl | h4
        · exact h'
        · exact h1 j h4 (by omega)
      · refine Or.inr ⟨j, by omega, by omega, h3, h4, fun i h6 h7 => ?_⟩
        rcases Nat.eq_or_lt_of_le h6 with rfl | h8
        · exact h'
        · exact h5 i h8 h7
theorem dfS_congr {t u : Nat → Bool} : ∀ (q k : Nat), (∀ j, k ≤ j → j < k + q → t j = u j) → dfS t q k = dfS u q k
  | 0, _, _ => rfl
  | q + 1, k, h => by
    rw [dfS, dfS, h k (Nat.le_refl k) (by omega), dfS_congr q (k + 1) (fun j h1 h2 => h j (by omega) (by omega))]
theorem sh31 {j : Nat} (h : j < 32) : ((nI j &&& 31).toBitVec.smod 32).toNat = j := by
  have : ∀ n, n < 32 → ((nI n &&& 31).toBitVec.smod 32).toNat = n := by decide +kernel
  exact this j h
theorem has_none {F : Int32} {k j : Nat} (h : F >>> (nI k &&& 31) = 0) (hk : k ≤ j) (hj : j < 32) : hasB F (nI j) = false := by
  have h1 := pk_shr F (nI k &&& 31) k (sh31 (by omega))
  have h2 := pk_shr F (nI j &&& 31) j (sh31 hj)
  rw [h] at h1
  have z : (0 : Int32).toInt = 0 := by decide
  rw [z] at h1
  have e : F.toInt >>> j = 0 := by
    rw [show j = k + (j - k) by omega, Int.shiftRight_add, ← h1]
    simp
  rw [e] at h2
  have h3 : F >>> (nI j &&& 31) = 0 := Int32.toInt_inj.mp (by rw [h2, z])
  simp [hasB, h3]
def tP (r fs : Nat → Int32) (N p : Nat) (h : Int32) (fire : Bool) : Nat → Bool := fun d => hasB (fs (cN (r (50 + 3 * p)) * 8 + cN (r (51 + 3 * p)))) (nI d) && (fire || opC r N d h)
def doorP (r fs : Nat → Int32) (D N p : Nat) (h : Int32) (fire : Bool) : Int32 := dfS (tP r fs N p h fire) D 0
def pstep (fs : Nat → Int32) (D N : Nat) (fire : Bool) (r : Nat → Int32) (p : Nat) : Nat → Int32 :=
  if doorP r fs D N p (r 2) fire < 0 then (if r (50 + 3 * p) = r (51 + 3 * p) then r else upd r (52 + 3 * p) (if 0 < r (52 + 3 * p) - 1 then r (52 + 3 * p) - 1 else 0))
  else upd (upd r (50 + 3 * p) (r (8 + 5 * cN (doorP r fs D N p (r 2) fire)))) 3 (if r 3 + 1 < 9999 then r 3 + 1 else 9999)
def hstep (fs : Nat → Int32) (D N : Nat) (fire : Bool) (r : Nat → Int32) : Nat → (Nat → Int32)
  | 0 => r
  | k + 1 => pstep fs D N fire (hstep fs D N fire r k) k
def wentS (fs : Nat → Int32) (D N : Nat) (fire : Bool) (r : Nat → Int32) : Nat → Int32
  | 0 => 0
  | k + 1 => if doorP (hstep fs D N fire r k) fs D N k (hstep fs D N fire r k 2) fire < 0 then wentS fs D N fire r k else wentS fs D N fire r k + 1
def hourC (fs : Nat → Int32) (D N : Nat) (fire : Bool) (r : Nat → Int32) : Nat → Int32 := hstep fs D N fire (upd r 2 (r 2 + 1)) N
def hoursC (fs : Nat → Int32) (D N : Nat) (fire : Bool) (r : Nat → Int32) : Nat → (Nat → Int32)
  | 0 => r
  | k + 1 => hourC fs D N fire (hoursC fs D N fire r k)
def wentC (fs : Nat → Int32) (D N : Nat) (fire : Bool) (r : Nat → Int32) : Nat → Int32
  | 0 => 0
  | k + 1 => wentC fs D N fire r k + wentS fs D N fire (upd (hoursC fs D N fire r k) 2 (hoursC fs D N fire r k 2 + 1)) N
theorem m9_neg : (-9 : Int32) < 0 := by decide
theorem doorP_cases {r fs : Nat → Int32} {D N p : Nat} {h : Int32} {fire : Bool} : (doorP r fs D N p h fire = -9 ∧ ∀ j, j < D → tP r fs N p h fire j = false) ∨ ∃ j, j < D ∧ tP r fs N p h fire j = true ∧ doorP r fs D N p h fire = nI j ∧ ∀ i, i < j → tP r fs N p h fire i = false := by
  rcases dfS_cases (t := tP r fs N p h fire) D 0 with ⟨e, h1⟩ | ⟨j, -, h2, h3, h4, h5⟩
  · exact Or.inl ⟨e, fun j hj => h1 j (by omega) (by omega)⟩
  · exact Or.inr ⟨j, by omega, h3, h4, fun i hi => h5 i (by omega) hi⟩
theorem TOk.same {r r2 : Nat → Int32} {D N : Nat} (h : TOk r D N) (h0 : r2 0 = r 0) (h1 : r2 1 = r 1) (hp : ∀ p, p < N → RmI (r2 (50 + 3 * p)) ∧ r2 (51 + 3 * p) = r (51 + 3 * p)) (hd : ∀ d, d < D → r2 (7 + 5 * d) = r (7 + 5 * d) ∧ r2 (8 + 5 * d) = r (8 + 5 * d)) : TOk r2 D N :=
  ⟨h0.trans h.1, h.2.1, h1.trans h.2.2.1, h.2.2.2.1, fun p hq => ⟨(hp p hq).1, by rw [(hp p hq).2]; exact (h.2.2.2.2.1 p hq).2⟩, fun d hq => by rw [(hd d hq).1, (hd d hq).2]; exact h.2.2.2.2.2 d hq⟩
theorem tok_pstep {r fs : Nat → Int32} {D N p : Nat} {fire : Bool} (h : TOk r D N) (hp : p < N) : TOk (pstep fs D N fire r p) D N := by
  have hN := h.2.2.2.1
  have hD := h.2.1
  unfold pstep
  split
  · split
    · exact h
    · exact h.same (upd_ne (by omega)) (upd_ne (by omega)) (fun q hq => ⟨by rw [upd_ne (by omega)]; exact (h.2.2.2.2.1 q hq).1, upd_ne (by omega)⟩) (fun d hd => ⟨upd_ne (by omega), upd_ne (by omega)⟩)
  · rename_i hneg
    refine h.same (by rw [upd_ne (by omega), upd_ne (by omega)]) (by rw [upd_ne (by omega), upd_ne (by omega)]) (fun q hq => ⟨?_, by rw [upd_ne (by omega), upd_ne (by omega)]⟩) (fun d hd => ⟨by rw [upd_ne (by omega), upd_ne (by omega)], by rw [upd_ne (by omega), upd_ne (by omega)]⟩)
    rw [upd_ne (by omega)]
    by_cases e : q = p
    · subst e
      rw [upd_eq]
      rcases doorP_cases (r := r) (fs := fs) (D := D) (N := N) (p := q) (h := r 2) (fire := fire) with ⟨e1, -⟩ | ⟨j, hj, -, e1, -⟩
      · exact absurd (by rw [e1]; exact m9_neg) hneg
      · have e2 : cN (nI j) = j := nI_clamp (by omega)
        rw [e1, e2]
        exact (h.2.2.2.2.2 j hj).2
    · rw [upd_ne (by omega)]
      exact (h.2.2.2.2.1 q hq).1
theorem TOk.pstep {r fs : Nat → Int32} {D N p : Nat} {fire : Bool} (h : TOk r D N) (hp : p < N) : TOk (pstep fs D N fire r p) D N := tok_pstep h hp
theorem TOk.hour {r : Nat → Int32} {D N : Nat} {v : Int32} (h : TOk r D N) : TOk (upd r 2 v) D N := by
  have hN := h.2.2.2.1
  have hD := h.2.1
  exact h.same (upd_ne (by omega)) (upd_ne (by omega)) (fun q hq => ⟨by rw [upd_ne (by omega)]; exact (h.2.2.2.2.1 q hq).1, upd_ne (by omega)⟩) (fun d hd => ⟨upd_ne (by omega), upd_ne (by omega)⟩)
theorem TOk.hstep {r fs : Nat → Int32} {D N : Nat} {fire : Bool} (h : TOk r D N) : ∀ k, k ≤ N → TOk (hstep fs D N fire r k) D N
  | 0, _ => h
  | k + 1, hk => (TOk.hstep h k (by omega)).pstep (by omega)
theorem TOk.hoursC {r fs : Nat → Int32} {D N : Nat} {fire : Bool} (h : TOk r D N) : ∀ k, TOk (hoursC fs D N fire r k) D N
  | 0 => h
  | k + 1 => (TOk.hoursC h k).hour.hstep N (Nat.le_refl N)
theorem lX3_opens {r ws fs : Nat → Int32} {N d : Nat} {h x : Int32} (hN : N ≤ 7) (h1 : r 1 = nI N) (hd : d < 9) (hx : x = r (8 + 5 * d)) (hw : ¬ r (9 + 5 * d) = 1) : ∀ (q k : Nat), N - k < q → k ≤ N → Ok mX3_opens none 38 [some (.ref 0), some (.int (nI d)), some (.int h), some (.int x), some (.int (hpC r x k)), some (.int (mdC r x k)), some (.int (nI k))] [] (tW r ws fs) 0 0 (fun r2 w2 => r2 = some (.int (bI (opC r N d h))) ∧ w2 = tW r ws fs) := by
  intro q
  induction q with
  | zero => intro k hq hk; omega
  | succ q ih =>
  intro k hq hk
  refine o_iload dX3_opens_38 rfl ?_
  refine o_aload_n dX3_opens_40 rfl rfl ?_
  refine o_getf (j := 4) dX3_opens_41 rfl hcX3 inX3 (Nat.le_of_ble_eq_true rfl) wd148 rfl rfl ?_
  refine o_icmp_ge (tgt := 85) dX3_opens_44 (by decide) (fun c_44 => ?_) (fun c_44 => ?_)
  · rw [h1] at c_44
    have hkN : k = N := Nat.le_antisymm hk (geI (by omega) (by omega) c_44)
    subst hkN
    refine o_aload_n dX3_opens_85 rfl rfl ?_
    refine o_getf (j := 0) dX3_opens_86 rfl hcX3 inX3 (Nat.le_of_ble_eq_true rfl) wd137 rfl rfl ?_
    refine o_iload_n dX3_opens_89 rfl rfl ?_
    refine o_iload_n dX3_opens_90 rfl rfl ?_
    refine o_iload dX3_opens_91 rfl ?_
    refine o_iload dX3_opens_93 rfl ?_
    refine o_callVr (is := [1, 2, 3, 4, 5, 6, 7, 8]) (tX0_opensBy hd) ⟨rfl, rfl⟩ dX3_opens_95 wd359 cvX0_opensBy rfl ⟨(Nat.le_of_ble_eq_true rfl), (Nat.le_of_ble_eq_true rfl)⟩ hcX0 rfl rfl rfl rfl (Nat.le_of_ble_eq_true rfl) (Nat.le_of_ble_eq_true rfl) (Nat.le_of_ble_eq_true rfl) ?_
    refine o_iret dX3_opens_98 rfl (by first | exact nz_b _ | decide) (Nat.le_of_ble_eq_true rfl) (Nat.le_of_ble_eq_true rfl) ?_
    have e1 : kdO r d = r (5 + 5 * d) := prj_at hd
    have e2 : fgO r d = r (6 + 5 * d) := prj_at hd
    exact ⟨by rw [e1, e2, hx, opC]; simp [hw], rfl⟩
  · rw [h1] at c_44
    have hkN : k < N := ltI (by omega) (by omega) c_44
    refine o_aload_n dX3_opens_47 rfl rfl ?_
    refine o_getf (j := 1) dX3_opens_48 rfl hcX3 inX3 (Nat.le_of_ble_eq_true rfl) wd140 rfl rfl ?_
    refine o_iload dX3_opens_51 rfl ?_
    refine o_callSNr (is := [9]) (at_p (by decide) (by omega)) ⟨rfl, rfl⟩ dX3_opens_53 wd346 csX4_at rfl ⟨(Nat.le_of_ble_eq_true rfl), (Nat.le_of_ble_eq_true rfl)⟩ rfl rfl rfl (Nat.le_of_ble_eq_true rfl) (Nat.le_of_ble_eq_true rfl) (Nat.le_of_ble_eq_true rfl) ?_
    refine o_iload_n dX3_opens_56 rfl rfl ?_
    refine o_icmp_ne (tgt := 79) dX3_opens_57 (by decide) (fun c_57 => ?_) (fun c_57 => ?_)
    · skip
      refine o_inc_6 dX3_opens_79 rfl ic_1 (Nat.le_of_ble_eq_true rfl) ?_
      refine o_goto (tgt := 38) dX3_opens_82 (by decide) ?_
      exact o_eqa (by rw [nI_1, hpC, mdC, if_neg c_57, if_neg c_57]) rfl (ih (k + 1) (by omega) (by omega))
    · skip
      refine o_inc_4 dX3_opens_60 rfl ic_1 (Nat.le_of_ble_eq_true rfl) ?_
      refine o_iload dX3_opens_63 rfl ?_
      refine o_aload_n dX3_opens_65 rfl rfl ?_
      refine o_getf (j := 3) dX3_opens_66 rfl hcX3 inX3 (Nat.le_of_ble_eq_true rfl) wd146 rfl rfl ?_
      refine o_iload dX3_opens_69 rfl ?_
      refine o_callSNr (is := [11]) (at_p (by decide) (by omega)) ⟨rfl, rfl⟩ dX3_opens_71 wd346 csX4_at rfl ⟨(Nat.le_of_ble_eq_true rfl), (Nat.le_of_ble_eq_true rfl)⟩ rfl rfl rfl (Nat.le_of_ble_eq_true rfl) (Nat.le_of_ble_eq_true rfl) (Nat.le_of_ble_eq_true rfl) ?_
      refine o_mmax dX3_opens_74 wd358 wd184 wd60 wd185 (Nat.le_of_ble_eq_true rfl) (Nat.le_of_ble_eq_true rfl) (Nat.le_of_ble_eq_true rfl) (Nat.le_of_ble_eq_true rfl) ?_
      refine o_istg_5 dX3_opens_77 rfl (Nat.le_of_ble_eq_true rfl) ?_
      refine o_inc_6 dX3_opens_79 rfl ic_1 (Nat.le_of_ble_eq_true rfl) ?_
      refine o_goto (tgt := 38) dX3_opens_82 (by decide) ?_
      exact o_eqa (by rw [nI_1, hpC, mdC, if_pos c_57, if_pos c_57]) rfl (ih (k + 1) (by omega) (by omega))
theorem tX3_opens {r ws fs : Nat → Int32} {N d : Nat} {h : Int32} (hN : N ≤ 7) (h1 : r 1 = nI N) (hd : d < 9) : PD mX3_opens [.ref 0, .int (nI d), .int h] (tW r ws fs) (some (.int (bI (opC r N d h)))) (tW r ws fs) := by
  refine PM.ofp 4 (by decide) (Nat.le_of_ble_eq_true rfl) ?_
  show Ok mX3_opens none 0 [some (.ref 0), some (.int (nI d)), some (.int h), none, none, none, none] [] (tW r ws fs) 0 0 _
  refine o_aload_n dX3_opens_0 rfl rfl ?_
  refine o_getf (j := 0) dX3_opens_1 rfl hcX3 inX3 (Nat.le_of_ble_eq_true rfl) wd137 rfl rfl ?_
  refine o_getf (j := 4) dX3_opens_4 rfl hcX0 inX0 (Nat.le_of_ble_eq_true rfl) wd113 rfl rfl ?_
  refine o_iload_n dX3_opens_7 rfl rfl ?_
  refine o_callSNr (is := [6]) (at_p (by decide) hd) ⟨rfl, rfl⟩ dX3_opens_8 wd346 csX4_at rfl ⟨(Nat.le_of_ble_eq_true rfl), (Nat.le_of_ble_eq_true rfl)⟩ rfl rfl rfl (Nat.le_of_ble_eq_true rfl) (Nat.le_of_ble_eq_true rfl) (Nat.le_of_ble_eq_true rfl) ?_
  refine o_iconst dX3_opens_11 ic_1 ?_
  refine o_icmp_ne (tgt := 17) dX3_opens_12 (by decide) (fun c_12 => ?_) (fun c_12 => ?_)
  · skip
    refine o_aload_n dX3_opens_17 rfl rfl ?_
    refine o_getf (j := 0) dX3_opens_18 rfl hcX3 inX3 (Nat.le_of_ble_eq_true rfl) wd137 rfl rfl ?_
    refine o_getf (j := 3) dX3_opens_21 rfl hcX0 inX0 (Nat.le_of_ble_eq_true rfl) wd110 rfl rfl ?_
    refine o_iload_n dX3_opens_24 rfl rfl ?_
    refine o_callSNr (is := [5]) (at_p (by decide) hd) ⟨rfl, rfl⟩ dX3_opens_25 wd346 csX4_at rfl ⟨(Nat.le_of_ble_eq_true rfl), (Nat.le_of_ble_eq_true rfl)⟩ rfl rfl rfl (Nat.le_of_ble_eq_true rfl) (Nat.le_of_ble_eq_true rfl) (Nat.le_of_ble_eq_true rfl) ?_
    refine o_istn_3 dX3_opens_28 rfl rfl (Nat.le_of_ble_eq_true rfl) ?_
    refine o_iconst dX3_opens_29 ic_0 ?_
    refine o_istg_4 dX3_opens_30 rfl (Nat.le_of_ble_eq_true rfl) ?_
    refine o_iconst dX3_opens_32 ic_0 ?_
    refine o_istg_5 dX3_opens_33 rfl (Nat.le_of_ble_eq_true rfl) ?_
    refine o_iconst dX3_opens_35 ic_0 ?_
    refine o_istg_6 dX3_opens_36 rfl (Nat.le_of_ble_eq_true rfl) ?_
    exact o_eqa (by rw [nI_0]; rfl) rfl (lX3_opens hN h1 hd rfl c_12 (N + 1) 0 (by omega) (by omega))
  · skip
    refine o_iconst dX3_opens_15 ic_1 ?_
    refine o_iret dX3_opens_16 rfl (by first | exact nz_b _ | decide) (Nat.le_of_ble_eq_true rfl) (Nat.le_of_ble_eq_true rfl) ?_
    exact ⟨by simp [opC, c_12, bI], rfl⟩
theorem lX3_doorFor {r ws fs : Nat → Int32} {D N p : Nat} {h R : Int32} {fire : Bool} (hT : TOk r D N) (hp : p < 7) : ∀ (q k : Nat), k + q = D → dfS (tP r fs N p h fire) q k = R → Ok mX3_doorFor none 28 [some (.ref 0), some (.int (nI p)), some (.int h), some (.int (bI fire)), some (.int (fs (cN (r (50 + 3 * p)) * 8 + cN (r (51 + 3 * p))))), some (.int (nI k))] [] (tW r ws fs) 0 0 (fun r2 w2 => r2 = some (.int R) ∧ w2 = tW r ws fs) := by
  have hD9 := hT.2.1
  intro q
  induction q with
  | zero =>
    intro k hk hR
    have hk : k = D := by omega
    subst hk
    refine o_iload dX3_doorFor_28 rfl ?_
    refine o_aload_n dX3_doorFor_30 rfl rfl ?_
    refine o_getf (j := 0) dX3_doorFor_31 rfl hcX3 inX3 (Nat.le_of_ble_eq_true rfl) wd137 rfl rfl ?_
    refine o_getf (j := 7) dX3_doorFor_34 rfl hcX0 inX0 (Nat.le_of_ble_eq_true rfl) wd117 rfl rfl ?_
    refine o_icmp_ge (tgt := 81) dX3_doorFor_37 (by decide) (fun _ => ?_) (fun c => absurd (by rw [hT.1]; exact Int32.le_refl _) c)
    refine o_bipush dX3_doorFor_81 bp_m9 ?_
    refine o_iret dX3_doorFor_83 rfl (vp_nar_int _) (Nat.le_of_ble_eq_true rfl) (Nat.le_of_ble_eq_true rfl) ?_
    exact ⟨by rw [← hR]; rfl, rfl⟩
  | succ q ih =>
  intro k hk hR
  refine o_iload dX3_doorFor_28 rfl ?_
  refine o_aload_n dX3_doorFor_30 rfl rfl ?_
  refine o_getf (j := 0) dX3_doorFor_31 rfl hcX3 inX3 (Nat.le_of_ble_eq_true rfl) wd137 rfl rfl ?_
  refine o_getf (j := 7) dX3_doorFor_34 rfl hcX0 inX0 (Nat.le_of_ble_eq_true rfl) wd117 rfl rfl ?_
  refine o_icmp_ge (tgt := 81) dX3_doorFor_37 (by decide) (fun c_37 => ?_) (fun c_37 => ?_)
  · rw [hT.1] at c_37
    exact absurd (geI (by omega) (by omega) c_37) (by omega)
  · skip
    refine o_iload dX3_doorFor_40 rfl ?_
    refine o_iload dX3_doorFor_42 rfl ?_
    refine o_ishr dX3_doorFor_44 ?_
    refine o_if_eq (tgt := 81) dX3_doorFor_45 (by decide) (fun c_45 => ?_) (fun c_45 => ?_)
    · have e9 : R = -9 := by rw [← hR]; exact dfS_none _ _ (fun j h1 h2 => by unfold tP; rw [has_none c_45 h1 (by omega)]; rfl)
      refine o_bipush dX3_doorFor_81 bp_m9 ?_
      refine o_iret dX3_doorFor_83 rfl (vp_nar_int _) (Nat.le_of_ble_eq_true rfl) (Nat.le_of_ble_eq_true rfl) ?_
      exact ⟨by rw [e9], rfl⟩
    · skip
      refine o_iload dX3_doorFor_48 rfl ?_
      refine o_iload dX3_doorFor_50 rfl ?_
      refine o_callSNr (is := []) (tX4_hasBit) ⟨rfl, rfl⟩ dX3_doorFor_52 wd351 csX4_hasBit rfl ⟨(Nat.le_of_ble_eq_true rfl), (Nat.le_of_ble_eq_true rfl)⟩ rfl rfl rfl (Nat.le_of_ble_eq_true rfl) (Nat.le_of_ble_eq_true rfl) (Nat.le_of_ble_eq_true rfl) ?_
      refine o_if_eq (tgt := 75) dX3_doorFor_55 (by decide) (fun c_55 => ?_) (fun c_55 => ?_)
      · have et : tP r fs N p h fire k = false := by unfold tP; rw [bI_0.mp c_55]; rfl
        refine o_inc_5 dX3_doorFor_75 rfl ic_1 (Nat.le_of_ble_eq_true rfl) ?_
        refine o_goto (tgt := 28) dX3_doorFor_78 (by decide) ?_
        exact o_eqa (by rw [nI_1]) rfl (ih (k + 1) (by omega) (by rw [← hR, dfS, et]; rfl))
      · skip
        refine o_iload_n dX3_doorFor_58 rfl rfl ?_
        refine o_if_ne (tgt := 72) dX3_doorFor_59 (by decide) (fun c_59 => ?_) (fun c_59 => ?_)
        · have et : tP r fs N p h fire k = true := by unfold tP; cases fire with
            | false => exact absurd rfl c_59
            | true => cases hh : hasB (fs (cN (r (50 + 3 * p)) * 8 + cN (r (51 + 3 * p)))) (nI k) with
              | false => exact absurd (by rw [hh]; rfl) c_55
              | true => rfl
          refine o_iload dX3_doorFor_72 rfl ?_
          refine o_iret dX3_doorFor_74 rfl (vp_nar_int _) (Nat.le_of_ble_eq_true rfl) (Nat.le_of_ble_eq_true rfl) ?_
          exact ⟨by rw [← hR, dfS, if_pos et], rfl⟩
        · skip
          refine o_aload_n dX3_doorFor_62 rfl rfl ?_
          refine o_iload dX3_doorFor_63 rfl ?_
          refine o_iload_n dX3_doorFor_65 rfl rfl ?_
          refine o_callVr (is := [0, 1, 2, 3, 4, 5, 6, 7, 8, 9, 10, 11]) (tX3_opens hT.2.2.2.1 hT.2.2.1 (by omega)) ⟨rfl, rfl⟩ dX3_doorFor_66 wd354 cvX3_opens rfl ⟨(Nat.le_of_ble_eq_true rfl), (Nat.le_of_ble_eq_true rfl)⟩ hcX3 rfl rfl rfl rfl (Nat.le_of_ble_eq_true rfl) (Nat.le_of_ble_eq_true rfl) (Nat.le_of_ble_eq_true rfl) ?_
          refine o_if_eq (tgt := 75) dX3_doorFor_69 (by decide) (fun c_69 => ?_) (fun c_69 => ?_)
          · have et : tP r fs N p h fire k = false := by unfold tP; rw [bI_0.mp c_69, bI_0.mp c_59]; simp
            refine o_inc_5 dX3_doorFor_75 rfl ic_1 (Nat.le_of_ble_eq_true rfl) ?_
            refine o_goto (tgt := 28) dX3_doorFor_78 (by decide) ?_
            exact o_eqa (by rw [nI_1]) rfl (ih (k + 1) (by omega) (by rw [← hR, dfS, et]; rfl))
          · have et : tP r fs N p h fire k = true := by
              unfold tP
              cases hh : hasB (fs (cN (r (50 + 3 * p)) * 8 + cN (r (51 + 3 * p)))) (nI k) with
              | false => exact absurd (by rw [hh]; rfl) c_55
              | true => cases ho : opC r N k h with
                | false => exact absurd (by rw [ho]; rfl) c_69
                | true => simp
            refine o_iload dX3_doorFor_72 rfl ?_
            refine o_iret dX3_doorFor_74 rfl (vp_nar_int _) (Nat.le_of_ble_eq_true rfl) (Nat.le_of_ble_eq_true rfl) ?_
            exact ⟨by rw [← hR, dfS, if_pos et], rfl⟩
theorem tX3_doorFor {r ws fs : Nat → Int32} {D N p : Nat} {h : Int32} {fire : Bool} (hT : TOk r D N) (hp : p < N) : PD mX3_doorFor [.ref 0, .int (nI p), .int h, .int (bI fire)] (tW r ws fs) (some (.int (doorP r fs D N p h fire))) (tW r ws fs) := by
  refine PM.ofp 2 (by decide) (Nat.le_of_ble_eq_true rfl) ?_
  show Ok mX3_doorFor none 0 [some (.ref 0), some (.int (nI p)), some (.int h), some (.int (bI fire)), none, none] [] (tW r ws fs) 0 0 _
  have hN7 := hT.2.2.2.1
  have hp7 : p < 7 := by omega
  obtain ⟨ha, hb⟩ := hT.2.2.2.2.1 p hp
  have qa := ha.cN
  have qb := hb.cN
  refine o_aload_n dX3_doorFor_0 rfl rfl ?_
  refine o_getf (j := 0) dX3_doorFor_1 rfl hcX3 inX3 (Nat.le_of_ble_eq_true rfl) wd137 rfl rfl ?_
  refine o_aload_n dX3_doorFor_4 rfl rfl ?_
  refine o_getf (j := 1) dX3_doorFor_5 rfl hcX3 inX3 (Nat.le_of_ble_eq_true rfl) wd140 rfl rfl ?_
  refine o_iload_n dX3_doorFor_8 rfl rfl ?_
  refine o_callSNr (is := [9]) ((at_p (by decide) hp7 : PD _ _ _ _ _).mono (by rw [qa.2])) ⟨rfl, rfl⟩ dX3_doorFor_9 wd346 csX4_at rfl ⟨(Nat.le_of_ble_eq_true rfl), (Nat.le_of_ble_eq_true rfl)⟩ rfl rfl rfl (Nat.le_of_ble_eq_true rfl) (Nat.le_of_ble_eq_true rfl) (Nat.le_of_ble_eq_true rfl) ?_
  refine o_aload_n dX3_doorFor_12 rfl rfl ?_
  refine o_getf (j := 2) dX3_doorFor_13 rfl hcX3 inX3 (Nat.le_of_ble_eq_true rfl) wd143 rfl rfl ?_
  refine o_iload_n dX3_doorFor_16 rfl rfl ?_
  refine o_callSNr (is := [10]) ((at_p (by decide) hp7 : PD _ _ _ _ _).mono (by rw [qb.2])) ⟨rfl, rfl⟩ dX3_doorFor_17 wd346 csX4_at rfl ⟨(Nat.le_of_ble_eq_true rfl), (Nat.le_of_ble_eq_true rfl)⟩ rfl rfl rfl (Nat.le_of_ble_eq_true rfl) (Nat.le_of_ble_eq_true rfl) (Nat.le_of_ble_eq_true rfl) ?_
  refine o_callVr (is := [1, 2, 3, 4, 5, 6, 7, 8]) (tX0_firstDoors qa.1 qb.1) ⟨rfl, rfl⟩ dX3_doorFor_20 wd347 cvX0_firstDoors rfl ⟨(Nat.le_of_ble_eq_true rfl), (Nat.le_of_ble_eq_true rfl)⟩ hcX0 rfl rfl rfl rfl (Nat.le_of_ble_eq_true rfl) (Nat.le_of_ble_eq_true rfl) (Nat.le_of_ble_eq_true rfl) ?_
  refine o_istg_4 dX3_doorFor_23 rfl (Nat.le_of_ble_eq_true rfl) ?_
  refine o_iconst dX3_doorFor_25 ic_0 ?_
  refine o_istg_5 dX3_doorFor_26 rfl (Nat.le_of_ble_eq_true rfl) ?_
  exact o_eqa (by rw [nI_0]) rfl (lX3_doorFor hT hp7 D 0 (by omega) rfl)
