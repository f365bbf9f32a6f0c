theorem sk_no {r : Nat → Int32} {who : Int32} {k : Nat} (h4 : r 4 = 0) (hk : k < 31) : skM r who k = decide (nI k = who) := by
  unfold skM; rw [gn_0 h4 hk, Bool.or_false]
theorem hp_eq {r : Nat → Int32} {x who : Int32} (h4 : r 4 = 0) : ∀ n, n ≤ 7 → (∀ k, k < n → nI k = who → r (50 + 3 * k) ≠ x) → hpM r x who n = hpC r x n ∧ mdM r x who n = mdC r x n
  | 0, _, _ => ⟨rfl, rfl⟩
  | n + 1, hn, h => by
    obtain ⟨h1, h2⟩ := hp_eq h4 n (by omega) (fun k hk => h k (by omega))
    rw [hpM, mdM, hpC, mdC, h1, h2, sk_no h4 (by omega)]
    have e : (decide (nI n = who) = false ∧ r (50 + 3 * n) = x) ↔ r (50 + 3 * n) = x := by
      refine ⟨fun q => q.2, fun q => ⟨decide_eq_false (fun e => h n (by omega) e q), q⟩⟩
    simp only [e]
    refine ⟨trivial, ?_⟩
    split
    · by_cases q : r (52 + 3 * n) ≤ mdC r x n
      · rw [if_pos q, if_neg (Int32.not_lt.mpr q)]
      · rw [if_neg q, if_pos (Int32.not_le.mp q)]
    · rfl
theorem op_eq {r : Nat → Int32} {N d : Nat} {who h : Int32} (h4 : r 4 = 0) (hN : N ≤ 7) (hw : ∀ k, k < N → nI k = who → r (50 + 3 * k) ≠ r (8 + 5 * d)) : opC r N d h = opM r N d who h := by
  obtain ⟨h1, h2⟩ := hp_eq (x := r (8 + 5 * d)) h4 N hN hw
  unfold opC opM
  rw [h1, h2]
theorem nI_m9 {k : Nat} (hk : k < 100) : ¬ nI k = -9 := by
  have : ∀ n, n < 100 → ¬ nI n = -9 := by decide
  exact this k hk
/-- the first doors that are kept are the doors on the way -/
def OnW (fs : Nat → Int32) (g : Nat → Nat) (r : Nat → Int32) (D : Nat) : Prop := (∀ a b d, a < 8 → b < 8 → d < D → hasB (fs (a * 8 + b)) (nI d) = onM r g d a b) ∧ ∀ a, a < 8 → g (8 * a + a) = 0
theorem on_home {r : Nat → Int32} {g : Nat → Nat} {d a : Nat} (h : g (8 * a + a) = 0) : onM r g d a a = false := by
  unfold onM
  rw [h, decide_eq_false (show ¬ g (8 * fB r d + a) + 1 = 0 by omega), Bool.and_false]
theorem op_on {r : Nat → Int32} {g : Nat → Nat} {D N h p d a b : Nat} {hr : Int32} (hR : ROk r D N h) (hp : p < N) (hd : d < D) (ha : r (50 + 3 * p) = nI a) (hon : onM r g d a b = true) : opC r N d hr = opM r N d (nI p) hr := by
  unfold onM at hon
  simp only [Bool.and_eq_true, decide_eq_true_eq] at hon
  refine op_eq hR.2.2.2 hR.1.1.2.2.2.1 (fun k hk e2 => ?_)
  have hN := hR.1.1.2.2.2.1
  have e3 : k = p := (nI_eq (by omega) (by omega)).mp e2
  have e5 : r (50 + 3 * p) = r (7 + 5 * d) := ha.trans hon.1.1.symm
  rw [e3, e5]
  exact hR.2.1 d hd
theorem tPM {r fs : Nat → Int32} {g : Nat → Nat} {D N h p d : Nat} {hr : Int32} (hR : ROk r D N h) (ho : OnW fs g r D) (hp : p < N) (hd : d < D) : tP r fs N p hr false d = tM r g N p hr d := by
  obtain ⟨⟨a, ha, ea⟩, ⟨b, hb, eb⟩⟩ := hR.1.1.2.2.2.2.1 p hp
  have ca : cN (nI a) = a := cN_nI (by omega)
  have cb : cN (nI b) = b := cN_nI (by omega)
  unfold tP tM
  rw [ea, eb, ca, cb, Bool.false_or, ho.1 a b d ha hb hd]
  by_cases e : a = b
  · subst e
    rw [on_home (ho.2 a ha), Bool.false_and, Bool.and_false, Bool.false_and]
  · have e2 : ¬ nI a = nI b := fun q => e ((nI_eq (by omega) (by omega)).mp q)
    rw [decide_eq_false e2, Bool.not_false, Bool.true_and]
    cases hon : onM r g d a b with
    | false => rw [Bool.false_and, Bool.false_and]
    | true => rw [Bool.true_and, Bool.true_and]; exact op_on hR hp hd ea hon
theorem doorPM {r fs : Nat → Int32} {g : Nat → Nat} {D N h p : Nat} {hr : Int32} (hR : ROk r D N h) (ho : OnW fs g r D) (hp : p < N) : doorP r fs D N p hr false = doorM r g D N p hr :=
  dfS_congr D 0 (fun j _ hj => tPM hR ho hp (by omega))
theorem doorM_home {r : Nat → Int32} {g : Nat → Nat} {D N p : Nat} {hr : Int32} (e : r (50 + 3 * p) = r (51 + 3 * p)) : doorM r g D N p hr = -9 :=
  dfS_none D 0 (fun j _ _ => by unfold tM; rw [decide_eq_true e]; rfl)
theorem upd_self {f : Nat → Int32} {i : Nat} : upd f i (f i) = f := by
  funext j
  by_cases e : j = i
  · subst e; rw [upd_eq]
  · rw [upd_ne e]
theorem mood_dn {x : Int32} (h : FgI x) : (if 0 < x - 1 then x - 1 else 0) = if x ≤ 0 then x else x - 1 := by
  have : ∀ a, a ≤ 9 → (if 0 < nI a - 1 then nI a - 1 else 0) = if nI a ≤ 0 then nI a else nI a - 1 := by decide
  obtain ⟨a, ha, rfl⟩ := h
  exact this a ha
theorem least_eq {x : Int32} : (if x < 9999 then x else 9999) = leastF 9999 x := by
  unfold leastF
  by_cases c : x ≤ 9999
  · rw [if_pos c]
    by_cases c2 : x < 9999
    · rw [if_pos c2]
    · rw [if_neg c2]
      exact Int32.le_antisymm (Int32.not_lt.mp c2) c
  · rw [if_neg c, if_neg (fun q => c (Int32.le_of_lt q))]
theorem pstepPM {r fs : Nat → Int32} {g : Nat → Nat} {D N h p : Nat} (hR : ROk r D N h) (ho : OnW fs g r D) (hp : p < N) : pstep fs D N false r p = pstepM g D N r p := by
  have hN := hR.1.1.2.2.2.1
  unfold pstep pstepM
  rw [doorPM hR ho hp]
  by_cases e : r (50 + 3 * p) = r (51 + 3 * p)
  · rw [if_pos (Or.inr e), doorM_home e, if_pos m9_neg, if_pos e]
  · have hq : ¬ (gn r p = true ∨ r (50 + 3 * p) = r (51 + 3 * p)) := fun q => by
      rcases q with q | q
      · rw [gn_0 hR.2.2.2 (by omega)] at q; exact absurd q (by decide)
      · exact e q
    rw [if_neg hq, if_neg e, mood_dn (hR.2.2.1 p hp), least_eq]
    split
    · by_cases c : r (52 + 3 * p) ≤ 0
      · rw [if_pos c, if_pos c, upd_self]
      · rw [if_neg c, if_neg c]
    · rfl
theorem ROk.pstep {r : Nat → Int32} {g : Nat → Nat} {D N h p : Nat} (hR : ROk r D N h) (hp : p < N) : ROk (pstepM g D N r p) D N h := by
  have hN := hR.1.1.2.2.2.1
  have hD := hR.1.1.2.1
  refine ⟨hR.1.pstep hp, fun d hd => ?_, fun q hq => pstepM_mood (hR.2.2.1 q hq), ?_⟩
  · rw [pstepM_ne (by omega) (by omega) (by omega), pstepM_ne (by omega) (by omega) (by omega)]; exact hR.2.1 d hd
  · rw [pstepM_ne (by omega) (by omega) (by omega)]; exact hR.2.2.2
theorem onM_same {r r2 : Nat → Int32} {g : Nat → Nat} {d a b : Nat} (h1 : r2 (7 + 5 * d) = r (7 + 5 * d)) (h2 : r2 (8 + 5 * d) = r (8 + 5 * d)) : onM r2 g d a b = onM r g d a b := by
  unfold onM fB; rw [h1, h2]
theorem OnW.same {fs : Nat → Int32} {g : Nat → Nat} {r r2 : Nat → Int32} {D : Nat} (ho : OnW fs g r D) (h : ∀ d, d < D → r2 (7 + 5 * d) = r (7 + 5 * d) ∧ r2 (8 + 5 * d) = r (8 + 5 * d)) : OnW fs g r2 D :=
  ⟨fun a b d ha hb hd => by rw [ho.1 a b d ha hb hd, onM_same (h d hd).1 (h d hd).2], ho.2⟩
theorem OnW.pstep {fs : Nat → Int32} {g : Nat → Nat} {r : Nat → Int32} {D N p : Nat} (ho : OnW fs g r D) (hD : D ≤ 9) : OnW fs g (pstepM g D N r p) D :=
  ho.same (fun d hd => ⟨pstepM_ne (by omega) (by omega) (by omega), pstepM_ne (by omega) (by omega) (by omega)⟩)
theorem hstepPM {r fs : Nat → Int32} {g : Nat → Nat} {D N h : Nat} (hR : ROk r D N h) (ho : OnW fs g r D) : ∀ k, k ≤ N → hstep fs D N false r k = hstepM g D N r k ∧ ROk (hstepM g D N r k) D N h ∧ OnW fs g (hstepM g D N r k) D
  | 0, _ => ⟨rfl, hR, ho⟩
  | k + 1, hk => by
    obtain ⟨h1, h2, h3⟩ := hstepPM hR ho k (by omega)
    refine ⟨?_, h2.pstep (by omega), h3.pstep hR.1.1.2.1⟩
    rw [hstep, hstepM, h1, pstepPM h2 h3 (by omega)]
theorem ROk.hour {r : Nat → Int32} {D N h : Nat} (hR : ROk r D N h) : ROk (upd r 2 (r 2 + 1)) D N (h + 1) := by
  have hN := hR.1.1.2.2.2.1
  have hD := hR.1.1.2.1
  exact ⟨hR.1.hour, fun d hd => by rw [upd_ne (by omega), upd_ne (by omega)]; exact hR.2.1 d hd, fun p hp => by rw [upd_ne (by omega)]; exact hR.2.2.1 p hp, by rw [upd_ne (by omega)]; exact hR.2.2.2⟩
theorem hoursPM {r fs : Nat → Int32} {g : Nat → Nat} {D N h : Nat} (hR : ROk r D N h) (ho : OnW fs g r D) : ∀ n, hoursC fs D N false r n = hoursM g D N r n ∧ ROk (hoursM g D N r n) D N (h + n) ∧ OnW fs g (hoursM g D N r n) D
  | 0 => ⟨rfl, hR, ho⟩
  | n + 1 => by
    obtain ⟨h1, h2, h3⟩ := hoursPM hR ho n
    have hD := hR.1.1.2.1
    have h4 := hstepPM h2.hour (h3.same (fun d hd => ⟨upd_ne (by omega), upd_ne (by omega)⟩)) N (Nat.le_refl _)
    rw [hoursC, hoursM, hourC, hourM, h1]
    exact h4
theorem ROk.on {r : Nat → Int32} {D N h : Nat} (hR : ROk r D N h) : OnW (fsT (fA r) (fB r) D) (frT (fA r) (fB r) D) r D :=
  ⟨fun a b d ha hb hd => on_eq hR ha hb hd, fun a ha => Nat.le_zero.mp ((frT_ok hR.h9).2 0 a a ha ha rfl)⟩
theorem SOk.on {r : Nat → Int32} (h : SOk r) : OnW (fsO r) (farOf r) r (dN r) := h.R.on
theorem hrs_eq {r : Nat → Int32} (h : SOk r) (n : Nat) : hoursC (fsO r) (dN r) (nN r) false r n = hrs r n := (hoursPM h.R h.on n).1
-- who is home
theorem home_eq {r : Nat → Int32} (h4 : r 4 = 0) : ∀ n, n ≤ 7 → homeS r n = homeM r n
  | 0, _ => rfl
  | n + 1, hn => by
    rw [homeS, homeM, home_eq h4 n (by omega)]
    by_cases e : r (50 + 3 * n) = r (51 + 3 * n)
    · rw [if_pos e, if_pos ⟨gn_0 h4 (by omega), e⟩]
    · rw [if_neg e, if_neg (fun q => e q.2), Int32.or_zero]
/-- who is home, as a number -/
def homeN (r : Nat → Int32) : Nat → Nat
  | 0 => 0
  | k + 1 => if r (50 + 3 * k) = r (51 + 3 * k) then homeN r k ||| 2 ^ k else homeN r k
theorem homeN_lt {r : Nat → Int32} : ∀ n, homeN r n < 2 ^ n
  | 0 => Nat.one_pos
  | n + 1 => by
    have ih := homeN_lt (r := r) n
    have h2 : 2 ^ n < 2 ^ (n + 1) := Nat.pow_lt_pow_right (by omega) (by omega)
    rw [homeN]
    split
    · exact or_lt (by omega) (by omega)
    · omega
theorem homeS_n {r : Nat → Int32} : ∀ n, n ≤ 7 → homeS r n = nI (homeN r n)
  | 0, _ => rfl
  | n + 1, hn => by
    rw [homeS, homeN, homeS_n n (by omega)]
    split
    · rw [one_sh (by omega), nI_or]
    · rfl
theorem homeN_bit {r : Nat → Int32} : ∀ n j, (homeN r n).testBit j = decide (j < n ∧ r (50 + 3 * j) = r (51 + 3 * j))
  | 0, j => by rw [homeN, Nat.zero_testBit]; exact (decide_eq_false (fun h => by omega)).symm
  | n + 1, j => by
    rw [homeN]
    split
    · rename_i e
      rw [tb_or, homeN_bit n j]
      by_cases q : j = n
      · subst q; rw [decide_eq_true rfl, Bool.or_true]; exact (decide_eq_true ⟨by omega, e⟩).symm
      · rw [decide_eq_false q, Bool.or_false]
        exact decide_eq_decide.mpr ⟨fun h => ⟨by omega, h.2⟩, fun h => ⟨by omega, h.2⟩⟩
    · rename_i e
      rw [homeN_bit n j]
      refine decide_eq_decide.mpr ⟨fun h => ⟨by omega, h.2⟩, fun h => ⟨?_, h.2⟩⟩
      by_cases q : j = n
      · subst q; exact absurd h.2 e
      · omega
theorem bc_bits : ∀ n, n < 128 → bcF (nI n) = bitsM (nI n) 9 := by decide +kernel
theorem hc_eq {r : Nat → Int32} {N : Nat} (h4 : r 4 = 0) (hN : N ≤ 7) : bcF (homeS r N) = bitsM (homeM r N) 9 := by
  rw [← home_eq h4 N hN, homeS_n N hN]
  have h1 := homeN_lt (r := r) N
  have h2 : 2 ^ N ≤ 2 ^ 7 := Nat.pow_le_pow_right (by omega) hN
  exact bc_bits _ (by omega)
