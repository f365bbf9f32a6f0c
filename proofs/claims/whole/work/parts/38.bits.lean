theorem nI_or (a b : Nat) : nI a ||| nI b = nI (a ||| b) := Int32.toBitVec_inj.mp (by
  show (BitVec.ofNat 32 a) ||| (BitVec.ofNat 32 b) = BitVec.ofNat 32 (a ||| b)
  exact BitVec.ofNat_or.symm)
theorem one_sh {k : Nat} (hk : k < 31) : (1 : Int32) <<< (nI k &&& 31) = nI (2 ^ k) := by
  have h : 1 * 2 ^ k < 2 ^ 32 := by rw [Nat.one_mul]; exact Nat.pow_lt_pow_right (by omega) (by omega)
  have := pk_shlN (n := 1) (nI k &&& 31) k (sh31 (by omega)) h
  rw [Nat.one_mul] at this
  exact this
theorem hasB_nI {n j : Nat} (hn : n < 2 ^ 31) (hj : j < 31) : hasB (nI n) (nI j) = n.testBit j := by
  unfold hasB
  rw [pk_shrN hn (nI j &&& 31) j (sh31 (by omega))]
  have h1 : n / 2 ^ j < 2 ^ 32 := Nat.lt_of_le_of_lt (Nat.div_le_self _ _) (by omega)
  rw [pk_andN h1 (m := 1) 1 (by decide)]
  have h2 : n / 2 ^ j % 2 ^ 1 = n / 2 ^ j % 2 := rfl
  rw [h2]
  have h3 := Nat.testBit_eq_decide_div_mod_eq (x := n) (i := j)
  rw [h3]
  have h4 : n / 2 ^ j % 2 < 2 := Nat.mod_lt _ (by omega)
  apply decide_eq_decide.mpr
  exact nI_eq (b := 1) (by omega) (by omega)
theorem or_lt {n k m : Nat} (hn : n < 2 ^ m) (hk : k < m) : n ||| 2 ^ k < 2 ^ m := Nat.or_lt_two_pow hn (Nat.pow_lt_pow_right (by omega) hk)
theorem tb_or {n k j : Nat} : (n ||| 2 ^ k).testBit j = (n.testBit j || decide (j = k)) := by
  rw [Nat.testBit_or, Nat.testBit_two_pow]
  congr 1
  exact decide_eq_decide.mpr ⟨fun h => h.symm, fun h => h.symm⟩
/-- the first doors, by bits -/
theorem ffS_bits {g fa fb : Nat → Nat} {D : Nat} (h8 : ∀ d, d < D → fa d < 8) (hD : D ≤ 9) (a b : Nat) (ha : a < 8) (hb : b < 8) : ∀ i, i ≤ D * 8 → ∃ n, n < 2 ^ 9 ∧ ffS g fa fb i (a * 8 + b) = nI n ∧ ∀ d, d < 9 → n.testBit d = decide (d * 8 + b < i ∧ fa d = a ∧ 1 + g (fb d * 8 + b) = g (a * 8 + b))
  | 0, _ => ⟨0, by omega, rfl, fun d _ => by rw [Nat.zero_testBit]; exact (decide_eq_false (fun h => by omega)).symm⟩
  | i + 1, hi => by
    obtain ⟨n, h1, h2, h3⟩ := ffS_bits h8 hD a b ha hb i (by omega)
    have hid : i / 8 < D := by omega
    have h8' := h8 (i / 8) hid
    rw [ffS]
    by_cases hc : 1 + g (fb (i / 8) * 8 + i % 8) = g (fa (i / 8) * 8 + i % 8)
    · rw [if_pos hc]
      by_cases e : a * 8 + b = fa (i / 8) * 8 + i % 8
      · have e1 : fa (i / 8) = a := by omega
        have e2 : i % 8 = b := by omega
        rw [e, upd_eq, ← e, h2, one_sh (by omega), nI_or]
        refine ⟨n ||| 2 ^ (i / 8), or_lt h1 (by omega), rfl, fun d hd => ?_⟩
        rw [tb_or, h3 d hd]
        by_cases ed : d = i / 8
        · have hx : d * 8 + b < i + 1 ∧ fa d = a ∧ 1 + g (fb d * 8 + b) = g (a * 8 + b) := ⟨by omega, by rw [ed]; exact e1, by rw [ed]; rw [e2, e1] at hc; exact hc⟩
          rw [decide_eq_true ed, decide_eq_true hx, Bool.or_true]
        · rw [decide_eq_false ed, Bool.or_false]
          apply decide_eq_decide.mpr
          exact ⟨fun q => ⟨by omega, q.2⟩, fun q => ⟨by omega, q.2⟩⟩
      · rw [upd_ne e]
        refine ⟨n, h1, h2, fun d hd => ?_⟩
        rw [h3 d hd]
        apply decide_eq_decide.mpr
        refine ⟨fun q => ⟨by omega, q.2⟩, fun q => ⟨?_, q.2⟩⟩
        by_cases ed : d * 8 + b = i
        · exfalso; apply e; rw [← ed, show (d * 8 + b) / 8 = d by omega, show (d * 8 + b) % 8 = b by omega, q.2.1]
        · omega
    · rw [if_neg hc]
      refine ⟨n, h1, h2, fun d hd => ?_⟩
      rw [h3 d hd]
      apply decide_eq_decide.mpr
      refine ⟨fun q => ⟨by omega, q.2⟩, fun q => ⟨?_, q.2⟩⟩
      by_cases ed : d * 8 + b = i
      · exfalso; apply hc; rw [← ed, show (d * 8 + b) / 8 = d by omega, show (d * 8 + b) % 8 = b by omega, q.2.1]; exact q.2.2
      · omega
theorem fsT_bit {fa fb : Nat → Nat} {D : Nat} (h8 : ∀ d, d < D → fa d < 8) (hD : D ≤ 9) {a b d : Nat} (ha : a < 8) (hb : b < 8) (hd : d < D) : hasB (fsT fa fb D (a * 8 + b)) (nI d) = decide (fa d = a ∧ 1 + wyT fa fb D (fb d * 8 + b) = wyT fa fb D (a * 8 + b)) := by
  obtain ⟨n, h1, h2, h3⟩ := ffS_bits (g := wyT fa fb D) (fb := fb) h8 hD a b ha hb (D * 8) (Nat.le_refl _)
  unfold fsT
  rw [h2, hasB_nI (by omega) (by omega), h3 d (by omega)]
  apply decide_eq_decide.mpr
  exact ⟨fun q => q.2, fun q => ⟨by omega, q⟩⟩
/-- what the doors of a row must be for both readings to agree -/
def ROk (r : Nat → Int32) (D N h : Nat) : Prop := MOk r D N h ∧ (∀ d, d < D → r (7 + 5 * d) ≠ r (8 + 5 * d)) ∧ (∀ p, p < N → FgI (r (52 + 3 * p))) ∧ r 4 = 0
theorem SOk.R {r : Nat → Int32} (h : SOk r) : ROk r (dN r) (nN r) (cN (r 2)) := ⟨h.1, fun d hd => (h.dd hd).1, fun p hp => h.pm hp, h.e4⟩
def fsO (r : Nat → Int32) : Nat → Int32 := fsT (fA r) (fB r) (dN r)
def wsO (r : Nat → Int32) : Nat → Int32 := nF (wyT (fA r) (fB r) (dN r))
theorem ROk.h9 {r : Nat → Int32} {D N h : Nat} (hR : ROk r D N h) : ∀ d, d < D → fA r d < 8 ∧ fB r d < 8 ∧ fA r d ≠ fB r d := fun d hd => by
  have h1 := (hR.1.1.2.2.2.2.2 d hd).1.cN
  have h2 := (hR.1.1.2.2.2.2.2 d hd).2.cN
  refine ⟨h1.1, h2.1, fun e => hR.2.1 d hd ?_⟩
  rw [h1.2, h2.2]
  unfold fA fB at e
  rw [e]
theorem gn_0 {r : Nat → Int32} (h : r 4 = 0) {p : Nat} (hp : p < 31) : gn r p = false := by
  unfold gn
  rw [h, show (0 : Int32) = nI 0 from rfl, hasB_nI (by omega) hp, Nat.zero_testBit]
theorem on_eq {r : Nat → Int32} {D N h : Nat} (hR : ROk r D N h) {a b d : Nat} (ha : a < 8) (hb : b < 8) (hd : d < D) : hasB (fsT (fA r) (fB r) D (a * 8 + b)) (nI d) = onM r (frT (fA r) (fB r) D) d a b := by
  have h9 := hR.h9
  obtain ⟨q1, q2, q3⟩ := h9 d hd
  rw [fsT_bit (fun d hd => (h9 d hd).1) hR.1.1.2.1 ha hb hd]
  unfold onM
  have e1 : (r (7 + 5 * d) = nI a) ↔ fA r d = a := by
    have h1 := (hR.1.1.2.2.2.2.2 d hd).1.cN
    rw [h1.2]
    exact nI_eq (by omega) (by omega)
  rw [Bool.eq_iff_iff]
  simp only [Bool.and_eq_true, decide_eq_true_eq]
  rw [e1]
  rcases wy_fr h9 ha hb with ⟨w1, w2⟩ | ⟨w1, w2⟩ <;> rcases wy_fr h9 q2 hb with ⟨w3, w4⟩ | ⟨w3, w4⟩ <;> rw [w2, w4] <;> constructor
  all_goals intro q
  all_goals first | omega | exact ⟨⟨q.1, by omega⟩, by omega⟩ | exact ⟨q.1.1, by omega⟩
