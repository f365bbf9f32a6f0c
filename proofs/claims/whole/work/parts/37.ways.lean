/-- a walk of l doors -/
def Wk (fa fb : Nat → Nat) (D : Nat) : Nat → Nat → Nat → Prop
  | 0, a, b => a = b
  | l + 1, a, b => ∃ d, d < D ∧ fa d = a ∧ Wk fa fb D l (fb d) b
section WAYS
variable {fa fb : Nat → Nat} {D : Nat}
theorem Wk.app : ∀ {l1 l2 a c b : Nat}, Wk fa fb D l1 a c → Wk fa fb D l2 c b → Wk fa fb D (l1 + l2) a b
  | 0, l2, a, c, b, h1, h2 => by rw [Nat.zero_add]; have h1 : a = c := h1; rw [h1]; exact h2
  | l1 + 1, l2, a, c, b, h1, h2 => by
    obtain ⟨d, hd, e, h⟩ := h1
    rw [show l1 + 1 + l2 = (l1 + l2) + 1 by omega]
    exact ⟨d, hd, e, Wk.app h h2⟩
theorem Wk.cut : ∀ {l a b : Nat} (i : Nat), i ≤ l → Wk fa fb D l a b → ∃ c, Wk fa fb D i a c ∧ Wk fa fb D (l - i) c b
  | l, a, b, 0, _, h => ⟨a, rfl, h⟩
  | 0, a, b, i + 1, hi, h => by omega
  | l + 1, a, b, i + 1, hi, h => by
    obtain ⟨d, hd, e, h⟩ := h
    obtain ⟨c, h1, h2⟩ := Wk.cut i (by omega) h
    exact ⟨c, ⟨d, hd, e, h1⟩, by rw [show l + 1 - (i + 1) = l - i by omega]; exact h2⟩
theorem Wk.lt (hb : ∀ d, d < D → fb d < 8) : ∀ {l a b : Nat}, a < 8 → Wk fa fb D l a b → b < 8
  | 0, a, b, ha, h => by have h : a = b := h; omega
  | l + 1, a, b, ha, h => by
    obtain ⟨d, hd, e, h⟩ := h
    exact Wk.lt hb (hb d hd) h
theorem pig : ∀ (m : Nat) (f : Nat → Nat), (∀ i, i ≤ m → f i < m) → ∃ i j, i < j ∧ j ≤ m ∧ f i = f j
  | 0, f, h => absurd (h 0 (Nat.le_refl _)) (by omega)
  | m + 1, f, h => by
    by_cases hx : ∃ i, i ≤ m ∧ f i = f (m + 1)
    · obtain ⟨i, h1, h2⟩ := hx
      exact ⟨i, m + 1, by omega, Nat.le_refl _, h2⟩
    · have hne : ∀ i, i ≤ m → f i ≠ f (m + 1) := fun i h1 h2 => hx ⟨i, h1, h2⟩
      obtain ⟨i, j, h1, h2, h3⟩ := pig m (fun i => if f i = m then f (m + 1) else f i) (fun i hi => by
        have q1 := h i (by omega)
        have q2 := h (m + 1) (Nat.le_refl _)
        have q3 := hne i hi
        show (if f i = m then f (m + 1) else f i) < m
        split <;> omega)
      refine ⟨i, j, h1, by omega, ?_⟩
      have q1 := hne i (by omega)
      have q2 := hne j (by omega)
      split at h3 <;> split at h3 <;> omega
theorem Wk.short (hb : ∀ d, d < D → fb d < 8) {a b : Nat} (ha : a < 8) : ∀ (n l : Nat), l ≤ n → Wk fa fb D l a b → ∃ l', l' ≤ 7 ∧ l' ≤ l ∧ Wk fa fb D l' a b
  | 0, l, hl, h => ⟨l, by omega, Nat.le_refl _, h⟩
  | n + 1, l, hl, h => by
    by_cases h7 : l ≤ 7
    · exact ⟨l, h7, Nat.le_refl _, h⟩
    · have hc : ∀ i, ∃ c, i ≤ 8 → Wk fa fb D i a c ∧ Wk fa fb D (l - i) c b := fun i => by
        by_cases hi : i ≤ 8
        · obtain ⟨c, h1, h2⟩ := Wk.cut i (by omega) h
          exact ⟨c, fun _ => ⟨h1, h2⟩⟩
        · exact ⟨0, fun q => absurd q hi⟩
      obtain ⟨i, j, h1, h2, h3⟩ := pig 8 (fun i => Classical.choose (hc i)) (fun i hi => Wk.lt hb ha (Classical.choose_spec (hc i) hi).1)
      have q1 := (Classical.choose_spec (hc i) (by omega)).1
      have q2 := (Classical.choose_spec (hc j) h2).2
      rw [h3] at q1
      have q3 := q1.app q2
      obtain ⟨l', e1, e2, e3⟩ := Wk.short hb ha n (i + (l - j)) (by omega) q3
      exact ⟨l', e1, by omega, e3⟩
/-- a value that is some walk's length, or B -/
def Snd (fa fb : Nat → Nat) (D B : Nat) (g : Nat → Nat) : Prop := ∀ a b, a < 8 → b < 8 → g (8 * a + b) < B → Wk fa fb D (g (8 * a + b)) a b
-- rounds
theorem shN_mono {a b : Nat} {g : Nat → Nat} : ∀ k i, shN a b g k i ≤ g i
  | 0, i => Nat.le_refl _
  | k + 1, i => by
    have ih := shN_mono (a := a) (b := b) (g := g) k
    rw [shN]
    split
    · rename_i h
      unfold gup
      split
      · rename_i e; subst e; have := ih (a * 8 + k); omega
      · exact ih i
    · exact ih i
theorem shN_step {a b : Nat} {g : Nat → Nat} : ∀ k j, j < k → shN a b g k (a * 8 + j) ≤ 1 + g (b * 8 + j)
  | 0, j, h => by omega
  | k + 1, j, h => by
    have ih := shN_mono (a := a) (b := b) (g := g) k (b * 8 + k)
    rw [shN]
    by_cases e : j = k
    · subst e
      split
      · unfold gup; rw [if_pos rfl]; omega
      · omega
    · have ih2 := shN_step (a := a) (b := b) (g := g) k j (by omega)
      split
      · unfold gup; rw [if_neg (by omega)]; exact ih2
      · exact ih2
theorem shN_snd {d : Nat} {g : Nat → Nat} (ha : ∀ d, d < D → fa d < 8) (hb : ∀ d, d < D → fb d < 8) (hd : d < D) (hg : Snd fa fb D 1000 g) : ∀ k, k ≤ 8 → Snd fa fb D 1000 (shN (fa d) (fb d) g k)
  | 0, _ => hg
  | k + 1, hk => by
    have ih := shN_snd ha hb hd hg k (by omega)
    rw [shN]
    split
    · rename_i h
      intro x y hx hy hlt
      have h1 := ha d hd
      have h2 := hb d hd
      unfold gup at hlt ⊢
      split
      · rename_i e
        rw [if_pos e] at hlt
        have e1 : x = fa d := by omega
        have e2 : y = k := by omega
        subst e2
        have q := ih (fb d) y h2 hy (by rw [show 8 * fb d + y = fb d * 8 + y by omega]; omega)
        rw [show 8 * fb d + y = fb d * 8 + y by omega] at q
        rw [show 1 + shN (fa d) (fb d) g y (fb d * 8 + y) = shN (fa d) (fb d) g y (fb d * 8 + y) + 1 by omega]
        exact ⟨d, hd, e1.symm, q⟩
      · rename_i e
        rw [if_neg e] at hlt
        exact ih x y hx hy hlt
    · exact ih
theorem rdN_mono {g : Nat → Nat} : ∀ d i, rdN fa fb g d i ≤ g i
  | 0, i => Nat.le_refl _
  | d + 1, i => Nat.le_trans (shN_mono 8 i) (rdN_mono d i)
theorem rdN_step {g : Nat → Nat} : ∀ k d j, d < k → j < 8 → rdN fa fb g k (fa d * 8 + j) ≤ 1 + g (fb d * 8 + j)
  | 0, d, j, h, hj => by omega
  | k + 1, d, j, h, hj => by
    rw [rdN]
    by_cases e : d = k
    · subst e
      have q1 := shN_step (a := fa d) (b := fb d) (g := rdN fa fb g d) 8 j hj
      have q2 := rdN_mono (fa := fa) (fb := fb) (g := g) d (fb d * 8 + j)
      omega
    · exact Nat.le_trans (shN_mono 8 _) (rdN_step k d j (by omega) hj)
theorem rdN_snd {g : Nat → Nat} (ha : ∀ d, d < D → fa d < 8) (hb : ∀ d, d < D → fb d < 8) (hg : Snd fa fb D 1000 g) : ∀ k, k ≤ D → Snd fa fb D 1000 (rdN fa fb g k)
  | 0, _ => hg
  | k + 1, hk => shN_snd ha hb (by omega) (rdN_snd ha hb hg k (by omega)) 8 (by omega)
theorem shB_no {a b : Nat} {g : Nat → Nat} : ∀ k, shB a b g k = false → shN a b g k = g ∧ ∀ j, j < k → g (a * 8 + j) ≤ 1 + g (b * 8 + j)
  | 0, _ => ⟨rfl, fun j h => by omega⟩
  | k + 1, h => by
    rw [shB] at h
    simp only [Bool.or_eq_false_iff, decide_eq_false_iff_not] at h
    obtain ⟨q1, q2⟩ := shB_no k h.1
    rw [q1] at h
    refine ⟨by rw [shN, q1, if_neg h.2], fun j hj => ?_⟩
    by_cases e : j = k
    · subst e; omega
    · exact q2 j (by omega)
theorem rdB_no {g : Nat → Nat} : ∀ k, rdB fa fb g k = false → rdN fa fb g k = g ∧ ∀ d j, d < k → j < 8 → g (fa d * 8 + j) ≤ 1 + g (fb d * 8 + j)
  | 0, _ => ⟨rfl, fun d j h => by omega⟩
  | k + 1, h => by
    rw [rdB] at h
    simp only [Bool.or_eq_false_iff] at h
    obtain ⟨q1, q2⟩ := rdB_no k h.1
    have h2 := h.2
    rw [q1] at h2
    obtain ⟨q3, q4⟩ := shB_no 8 h2
    refine ⟨by rw [rdN, q1, q3], fun d j hd hj => ?_⟩
    by_cases e : d = k
    · subst e; exact q4 j hj
    · exact q2 d j (by omega) hj
/-- no walk of at most n doors is shorter -/
def Cpl (fa fb : Nat → Nat) (D n : Nat) (g : Nat → Nat) : Prop := ∀ l a b, l ≤ n → a < 8 → b < 8 → Wk fa fb D l a b → g (8 * a + b) ≤ l
theorem rdN_cpl {g : Nat → Nat} {n : Nat} (hb : ∀ d, d < D → fb d < 8) (h : Cpl fa fb D n g) : Cpl fa fb D (n + 1) (rdN fa fb g D)
  | 0, a, b, hl, ha, hb2, hw => Nat.le_trans (rdN_mono D _) (h 0 a b (by omega) ha hb2 hw)
  | l + 1, a, b, hl, ha, hb2, hw => by
    obtain ⟨d, hd, e, hw⟩ := hw
    have q1 := rdN_step (fa := fa) (fb := fb) (g := g) D d b hd hb2
    have q2 := h l (fb d) b (by omega) (hb d hd) hb2 hw
    rw [show fb d * 8 + b = 8 * fb d + b by omega, e] at q1
    rw [show 8 * a + b = a * 8 + b by omega]
    omega
theorem fix_cpl {g : Nat → Nat} (hb : ∀ d, d < D → fb d < 8) (h0 : ∀ a, a < 8 → g (8 * a + a) = 0) (h : ∀ d j, d < D → j < 8 → g (fa d * 8 + j) ≤ 1 + g (fb d * 8 + j)) : ∀ l a b, a < 8 → b < 8 → Wk fa fb D l a b → g (8 * a + b) ≤ l
  | 0, a, b, ha, hb2, hw => by have hw : a = b := hw; rw [← hw, h0 a ha]; exact Nat.le_refl _
  | l + 1, a, b, ha, hb2, hw => by
    obtain ⟨d, hd, e, hw⟩ := hw
    have q1 := h d b hd hb2
    have q2 := fix_cpl hb h0 h l (fb d) b (hb d hd) hb2 hw
    rw [show fb d * 8 + b = 8 * fb d + b by omega, e] at q1
    rw [show 8 * a + b = a * 8 + b by omega]
    omega
theorem bfN_ok (ha : ∀ d, d < D → fa d < 8) (hb : ∀ d, d < D → fb d < 8) : ∀ (q n : Nat) (g : Nat → Nat), n + q = 7 → Snd fa fb D 1000 g → Cpl fa fb D n g → Snd fa fb D 1000 (bfN fa fb D q g) ∧ Cpl fa fb D 7 (bfN fa fb D q g)
  | 0, n, g, hq, h1, h2 => by rw [show n = 7 by omega] at h2; exact ⟨h1, h2⟩
  | q + 1, n, g, hq, h1, h2 => by
    rw [bfN]
    cases hB : rdB fa fb g D with
    | true => exact bfN_ok ha hb q (n + 1) _ (by omega) (rdN_snd ha hb h1 D (Nat.le_refl _)) (rdN_cpl hb h2)
    | false =>
      obtain ⟨q1, q2⟩ := rdB_no D hB
      rw [q1]
      have h0 : ∀ a, a < 8 → g (8 * a + a) = 0 := fun a h => Nat.le_zero.mp (h2 0 a a (by omega) h h rfl)
      exact ⟨h1, fun l a b _ h3 h4 h5 => fix_cpl hb h0 q2 l a b h3 h4 h5⟩
theorem w0N_at {a b : Nat} (hb : b < 8) : w0N (8 * a + b) = if a = b then 0 else 1000 := by
  unfold w0N
  rw [show (8 * a + b) / 8 = a by omega, show (8 * a + b) % 8 = b by omega]
theorem wyT_ok (ha : ∀ d, d < D → fa d < 8) (hb : ∀ d, d < D → fb d < 8) : Snd fa fb D 1000 (wyT fa fb D) ∧ Cpl fa fb D 7 (wyT fa fb D) := by
  refine bfN_ok ha hb 7 0 w0N rfl (fun a b h1 h2 h3 => ?_) (fun l a b hl h1 h2 h3 => ?_)
  · rw [w0N_at h2] at h3 ⊢
    by_cases e : a = b
    · rw [if_pos e]; exact e
    · rw [if_neg e] at h3; omega
  · have hl : l = 0 := by omega
    subst hl
    have h3 : a = b := h3
    rw [w0N_at h2, if_pos h3]
    exact Nat.le_refl _
-- the other way: through rooms
/-- a walk whose rooms between are below K -/
def Wv (fa fb : Nat → Nat) (D K : Nat) : Nat → Nat → Nat → Prop
  | 0, a, b => a = b
  | l + 1, a, b => ∃ d, d < D ∧ fa d = a ∧ ((l = 0 ∧ fb d = b) ∨ (fb d < K ∧ Wv fa fb D K l (fb d) b))
theorem Wv.split {K : Nat} : ∀ {l a b : Nat}, Wv fa fb D (K + 1) l a b → Wv fa fb D K l a b ∨ ∃ l1 l2, l1 + l2 ≤ l ∧ Wv fa fb D K l1 a K ∧ Wv fa fb D K l2 K b
  | 0, a, b, h => Or.inl h
  | l + 1, a, b, h => by
    obtain ⟨d, hd, e, h⟩ := h
    rcases h with h | ⟨h1, h2⟩
    · exact Or.inl ⟨d, hd, e, Or.inl h⟩
    · by_cases hK : fb d = K
      · have q1 : Wv fa fb D K 1 a K := ⟨d, hd, e, Or.inl ⟨rfl, hK⟩⟩
        rcases Wv.split h2 with q | ⟨l1, l2, q2, -, q4⟩
        · rw [hK] at q; exact Or.inr ⟨1, l, by omega, q1, q⟩
        · exact Or.inr ⟨1, l2, by omega, q1, q4⟩
      · rcases Wv.split h2 with q | ⟨l1, l2, q2, q3, q4⟩
        · exact Or.inl ⟨d, hd, e, Or.inr ⟨by omega, q⟩⟩
        · exact Or.inr ⟨l1 + 1, l2, by omega, ⟨d, hd, e, Or.inr ⟨by omega, q3⟩⟩, q4⟩
theorem Wv.of (hb : ∀ d, d < D → fb d < 8) : ∀ {l a b : Nat}, Wk fa fb D l a b → Wv fa fb D 8 l a b
  | 0, a, b, h => h
  | l + 1, a, b, h => by
    obtain ⟨d, hd, e, h⟩ := h
    exact ⟨d, hd, e, Or.inr ⟨hb d hd, Wv.of hb h⟩⟩
def Cpv (fa fb : Nat → Nat) (D K : Nat) (g : Nat → Nat) : Prop := ∀ l a b, a < 8 → b < 8 → Wv fa fb D K l a b → g (8 * a + b) ≤ l
theorem fwB_mono {g : Nat → Nat} {k a : Nat} : ∀ b i, fwB g k a b i ≤ g i
  | 0, i => Nat.le_refl _
  | b + 1, i => by
    have ih := fwB_mono (g := g) (k := k) (a := a) b
    rw [fwB]
    unfold gup
    split
    · rename_i e; subst e; exact Nat.le_trans (Nat.min_le_left _ _) (ih _)
    · exact ih i
theorem fwB_step {g : Nat → Nat} {k a : Nat} : ∀ b j, j < b → fwB g k a b (8 * a + j) ≤ g (8 * a + k) + g (8 * k + j)
  | 0, j, h => by omega
  | b + 1, j, h => by
    rw [fwB]
    unfold gup
    by_cases e : j = b
    · subst e
      rw [if_pos rfl]
      have q1 := fwB_mono (g := g) (k := k) (a := a) j (8 * a + k)
      have q2 := fwB_mono (g := g) (k := k) (a := a) j (8 * k + j)
      have q3 := Nat.min_le_right (fwB g k a j (8 * a + j)) (fwB g k a j (8 * a + k) + fwB g k a j (8 * k + j))
      omega
    · rw [if_neg (by omega)]; exact fwB_step b j (by omega)
theorem fwA_mono {g : Nat → Nat} {k : Nat} : ∀ a i, fwA g k a i ≤ g i
  | 0, i => Nat.le_refl _
  | a + 1, i => Nat.le_trans (fwB_mono 8 i) (fwA_mono a i)
theorem fwA_step {g : Nat → Nat} {k : Nat} : ∀ a i j, i < a → j < 8 → fwA g k a (8 * i + j) ≤ g (8 * i + k) + g (8 * k + j)
  | 0, i, j, h, _ => by omega
  | a + 1, i, j, h, hj => by
    rw [fwA]
    by_cases e : i = a
    · subst e
      have q1 := fwB_step (g := fwA g k i) (k := k) (a := i) 8 j hj
      have q2 := fwA_mono (g := g) (k := k) i (8 * i + k)
      have q3 := fwA_mono (g := g) (k := k) i (8 * k + j)
      omega
    · exact Nat.le_trans (fwB_mono 8 _) (fwA_step a i j (by omega) hj)
theorem fwB_snd {g : Nat → Nat} {k a : Nat} (hk : k < 8) (ha : a < 8) (h : Snd fa fb D 99 g) : ∀ b, b ≤ 8 → Snd fa fb D 99 (fwB g k a b)
  | 0, _ => h
  | b + 1, hb => by
    have ih := fwB_snd hk ha h b (by omega)
    rw [fwB]
    intro x y hx hy hlt
    unfold gup at hlt ⊢
    split
    · rename_i e
      rw [if_pos e] at hlt
      have e1 : x = a := by omega
      have e2 : y = b := by omega
      subst e1; subst e2
      rcases Nat.le_total (fwB g k x y (8 * x + y)) (fwB g k x y (8 * x + k) + fwB g k x y (8 * k + y)) with c | c
      · rw [Nat.min_eq_left c] at hlt ⊢; exact ih x y hx hy hlt
      · rw [Nat.min_eq_right c] at hlt ⊢
        exact (ih x k hx hk (by omega)).app (ih k y hk hy (by omega))
    · rename_i e
      rw [if_neg e] at hlt
      exact ih x y hx hy hlt
theorem fwA_snd {g : Nat → Nat} {k : Nat} (hk : k < 8) (h : Snd fa fb D 99 g) : ∀ a, a ≤ 8 → Snd fa fb D 99 (fwA g k a)
  | 0, _ => h
  | a + 1, ha => fwB_snd hk (by omega) (fwA_snd hk h a (by omega)) 8 (by omega)
theorem fwA_cpv {g : Nat → Nat} {k : Nat} (hk : k < 8) (h : Cpv fa fb D k g) : Cpv fa fb D (k + 1) (fwA g k 8) := fun l a b ha hb hw => by
  rcases hw.split with q | ⟨l1, l2, q1, q2, q3⟩
  · exact Nat.le_trans (fwA_mono 8 _) (h l a b ha hb q)
  · have h1 := fwA_step (g := g) (k := k) 8 a b ha hb
    have h2 := h l1 a k ha hk q2
    have h3 := h l2 k b hk hb q3
    omega
theorem fwK_ok {g : Nat → Nat} (h1 : Snd fa fb D 99 g) (h2 : Cpv fa fb D 0 g) : ∀ k, k ≤ 8 → Snd fa fb D 99 (fwK g k) ∧ Cpv fa fb D k (fwK g k)
  | 0, _ => ⟨h1, h2⟩
  | k + 1, hk => by
    obtain ⟨q1, q2⟩ := fwK_ok h1 h2 k (by omega)
    exact ⟨fwA_snd (by omega) q1 8 (by omega), fwA_cpv (by omega) q2⟩
theorem f0N_at {a b : Nat} (ha : a < 8) (hb : b < 8) : f0N (8 * a + b) = if a = b then 0 else 99 := by
  unfold f0N
  by_cases e : a = b
  · subst e; rw [if_pos (by omega), if_pos rfl]
  · rw [if_neg (by omega), if_neg e]
theorem feN_at (h9 : ∀ d, d < D → fa d < 8 ∧ fb d < 8 ∧ fa d ≠ fb d) {a b : Nat} (ha : a < 8) (hb : b < 8) : ∀ k, k ≤ D → (feN fa fb k (8 * a + b) = 1 ∧ ∃ d, d < k ∧ fa d = a ∧ fb d = b) ∨ (feN fa fb k (8 * a + b) = (if a = b then 0 else 99) ∧ ∀ d, d < k → ¬ (fa d = a ∧ fb d = b))
  | 0, _ => Or.inr ⟨f0N_at ha hb, fun d h => by omega⟩
  | k + 1, hk => by
    obtain ⟨q1, q2, q3⟩ := h9 k (by omega)
    rw [feN]
    unfold gup
    by_cases e : 8 * a + b = 8 * fa k + fb k
    · rw [if_pos e]; exact Or.inl ⟨rfl, k, by omega, by omega, by omega⟩
    · rw [if_neg e]
      rcases feN_at h9 ha hb k (by omega) with ⟨h1, d, h2, h3⟩ | ⟨h1, h2⟩
      · exact Or.inl ⟨h1, d, by omega, h3⟩
      · refine Or.inr ⟨h1, fun d hd hq => ?_⟩
        by_cases e2 : d = k
        · subst e2; omega
        · exact h2 d (by omega) hq
theorem frT_ok (h9 : ∀ d, d < D → fa d < 8 ∧ fb d < 8 ∧ fa d ≠ fb d) : Snd fa fb D 99 (frT fa fb D) ∧ ∀ l a b, a < 8 → b < 8 → Wk fa fb D l a b → frT fa fb D (8 * a + b) ≤ l := by
  have q := fwK_ok (fa := fa) (fb := fb) (D := D) (g := feN fa fb D) (fun a b ha hb hlt => ?_) (fun l a b ha hb hw => ?_) 8 (by omega)
  · exact ⟨q.1, fun l a b ha hb hw => q.2 l a b ha hb (hw |> Wv.of (fun d hd => (h9 d hd).2.1))⟩
  · rcases feN_at h9 ha hb D (Nat.le_refl _) with ⟨h1, d, h2, h3, h4⟩ | ⟨h1, -⟩
    · rw [h1]; exact ⟨d, h2, h3, h4⟩
    · rw [h1] at hlt ⊢
      by_cases e : a = b
      · rw [if_pos e]; exact e
      · rw [if_neg e] at hlt; omega
  · match l, hw with
    | 0, hw =>
      have hw : a = b := hw
      rcases feN_at h9 ha hb D (Nat.le_refl _) with ⟨h1, d, h2, h3, h4⟩ | ⟨h1, -⟩
      · exact absurd (h3.trans (hw.trans h4.symm)) (h9 d h2).2.2
      · rw [h1, if_pos hw]; exact Nat.le_refl _
    | l + 1, hw =>
      obtain ⟨d, hd, e, hw⟩ := hw
      rcases hw with ⟨h1, h2⟩ | ⟨h1, -⟩
      · rcases feN_at h9 ha hb D (Nat.le_refl _) with ⟨q1, -⟩ | ⟨-, q2⟩
        · omega
        · exact absurd ⟨e, h2⟩ (q2 d hd)
      · omega
/-- both measures of ways say the same -/
theorem wy_fr (h9 : ∀ d, d < D → fa d < 8 ∧ fb d < 8 ∧ fa d ≠ fb d) {a b : Nat} (ha : a < 8) (hb : b < 8) : (frT fa fb D (8 * a + b) ≤ 7 ∧ wyT fa fb D (a * 8 + b) = frT fa fb D (8 * a + b)) ∨ (frT fa fb D (8 * a + b) = 99 ∧ wyT fa fb D (a * 8 + b) = 1000) := by
  obtain ⟨s1, c1⟩ := wyT_ok (fun d hd => (h9 d hd).1) (fun d hd => (h9 d hd).2.1)
  obtain ⟨s2, c2⟩ := frT_ok h9
  rw [show a * 8 + b = 8 * a + b by omega]
  have l1 := wyT_le (fa := fa) (fb := fb) (D := D) (8 * a + b)
  have l2 := frT_le (fa := fa) (fb := fb) (D := D) (8 * a + b)
  by_cases hw : ∃ l, Wk fa fb D l a b
  · obtain ⟨l, hw⟩ := hw
    obtain ⟨l', e1, -, hw'⟩ := Wk.short (fun d hd => (h9 d hd).2.1) ha l l (Nat.le_refl _) hw
    have q1 := c1 l' a b e1 ha hb hw'
    have q2 := c2 l' a b ha hb hw'
    have w1 := s1 a b ha hb (by omega)
    have w2 := s2 a b ha hb (by omega)
    have q3 := c1 _ a b (by omega) ha hb w2
    have q4 := c2 _ a b ha hb w1
    exact Or.inl ⟨by omega, by omega⟩
  · refine Or.inr ⟨?_, ?_⟩
    · rcases Nat.lt_or_ge (frT fa fb D (8 * a + b)) 99 with c | c
      · exact absurd ⟨_, s2 a b ha hb c⟩ hw
      · omega
    · rcases Nat.lt_or_ge (wyT fa fb D (8 * a + b)) 1000 with c | c
      · exact absurd ⟨_, s1 a b ha hb c⟩ hw
      · omega
end WAYS
