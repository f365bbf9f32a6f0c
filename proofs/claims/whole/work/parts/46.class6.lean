/-! one who is away: removed from the row, or marked as gone -/
def sg (p j : Nat) : Nat := if j < p then j else j + 1
theorem sg_lt {p j : Nat} (h : j < p) : sg p j = j := if_pos h
theorem sg_ge {p j : Nat} (h : ¬ j < p) : sg p j = j + 1 := if_neg h
theorem sg_ne {p j : Nat} : sg p j ≠ p := by unfold sg; split <;> omega
theorem sg_inj {p j i : Nat} (h : sg p j = sg p i) : j = i := by unfold sg at h; split at h <;> split at h <;> omega
theorem sg_le {p j N : Nat} (h : j < N) : sg p j < N + 1 := by unfold sg; split <;> omega
theorem sg_fold {α β : Type} {R : α → β → Prop} {G : Nat → α} {F : Nat → β} {p N : Nat} (h0 : R (G 0) (F 0)) (hp : F (p + 1) = F p) (hs : ∀ k, k < N → R (G k) (F (sg p k)) → R (G (k + 1)) (F (sg p k + 1))) : ∀ k, k ≤ N → R (G k) (F (sg p k))
  | 0, _ => by
    by_cases h : 0 < p
    · rw [sg_lt h]; exact h0
    · have e : p = 0 := by omega
      subst e
      rw [sg_ge (by omega), hp]; exact h0
  | k + 1, hk => by
    have ih := hs k (by omega) (sg_fold h0 hp hs k (by omega))
    by_cases h1 : k + 1 < p
    · rw [sg_lt h1]; rw [sg_lt (by omega)] at ih; exact ih
    · rw [sg_ge h1]
      by_cases h2 : k + 1 = p
      · rw [sg_lt (by omega)] at ih
        rw [h2, hp, ← h2]; exact ih
      · rw [sg_ge (by omega)] at ih; exact ih
def Aw (p N : Nat) (c m : Nat → Int32) : Prop := (∀ i, i < 50 → i ≠ 1 → i ≠ 4 → c i = m i) ∧ (∀ j, j < N → c (50 + 3 * j) = m (50 + 3 * sg p j) ∧ c (51 + 3 * j) = m (51 + 3 * sg p j) ∧ c (52 + 3 * j) = m (52 + 3 * sg p j)) ∧ c 4 = 0 ∧ m 4 = 1 <<< (nI p &&& 31)
section AWAY
variable {p N D : Nat} {g : Nat → Nat} {c m : Nat → Int32}
theorem Aw.gnk (h : Aw p N c m) (hp : p < 8) {k : Nat} (hk : k < 8) : gn m k = decide (k = p) := by
  show hasB (m 4) (nI k) = decide (k = p)
  rw [h.2.2.2, one_sh (by omega), hasB_nI (Nat.pow_lt_pow_right (by omega) (by omega)) (by omega), Nat.testBit_two_pow]
  exact decide_eq_decide.mpr ⟨fun q => q.symm, fun q => q.symm⟩
theorem Aw.hp (h : Aw p N c m) (hp : p ≤ N) (hN : N ≤ 6) (x : Int32) {j : Nat} (hj : j < N) : hpM c x (nI j) N = hpM m x (nI (sg p j)) (N + 1) ∧ mdM c x (nI j) N = mdM m x (nI (sg p j)) (N + 1) := by
  have hsk : skM m (nI (sg p j)) p = true := by unfold skM; rw [h.gnk (by omega) (by omega), decide_eq_true rfl, Bool.or_true]
  have hst : ∀ k, k < N → skM c (nI j) k = skM m (nI (sg p j)) (sg p k) := fun k hk => by
    unfold skM
    rw [gn_0 h.2.2.1 (by omega), h.gnk (by omega) (by have := sg_le (p := p) hk; omega), decide_eq_false (sg_ne), Bool.or_false, Bool.or_false]
    have l1 := sg_le (p := p) hk
    have l2 := sg_le (p := p) hj
    refine decide_eq_decide.mpr ⟨fun q => ?_, fun q => ?_⟩
    · rw [(nI_eq (by omega) (by omega)).mp q]
    · rw [sg_inj ((nI_eq (by omega) (by omega)).mp q)]
  have e : sg p N = N + 1 := sg_ge (by omega)
  constructor
  · have := sg_fold (R := Eq) (G := fun k => hpM c x (nI j) k) (F := fun k => hpM m x (nI (sg p j)) k) (p := p) (N := N) rfl (by
      show hpM m x (nI (sg p j)) (p + 1) = hpM m x (nI (sg p j)) p
      rw [hpM, if_neg (fun q => by rw [hsk] at q; exact absurd q.1 (by decide))]) (fun k hk ih => by
      have ih : hpM c x (nI j) k = hpM m x (nI (sg p j)) (sg p k) := ih
      show hpM c x (nI j) (k + 1) = hpM m x (nI (sg p j)) (sg p k + 1)
      rw [hpM, hpM, hst k hk, (h.2.1 k hk).1, ih]) N (Nat.le_refl _)
    have this : hpM c x (nI j) N = hpM m x (nI (sg p j)) (sg p N) := this
    rw [this, e]
  · have := sg_fold (R := Eq) (G := fun k => mdM c x (nI j) k) (F := fun k => mdM m x (nI (sg p j)) k) (p := p) (N := N) rfl (by
      show mdM m x (nI (sg p j)) (p + 1) = mdM m x (nI (sg p j)) p
      rw [mdM, if_neg (fun q => by rw [hsk] at q; exact absurd q.1 (by decide))]) (fun k hk ih => by
      have ih : mdM c x (nI j) k = mdM m x (nI (sg p j)) (sg p k) := ih
      show mdM c x (nI j) (k + 1) = mdM m x (nI (sg p j)) (sg p k + 1)
      rw [mdM, mdM, hst k hk, (h.2.1 k hk).1, (h.2.1 k hk).2.2, ih]) N (Nat.le_refl _)
    have this : mdM c x (nI j) N = mdM m x (nI (sg p j)) (sg p N) := this
    rw [this, e]
theorem Aw.door (h : Aw p N c m) (hp : p ≤ N) (hN : N ≤ 6) (hD : D ≤ 9) {j : Nat} (hj : j < N) (hr : Int32) : doorM c g D N j hr = doorM m g D (N + 1) (sg p j) hr :=
  dfS_congr D 0 (fun d _ hd => by
    have e : ∀ i, 5 ≤ i → i < 50 → c i = m i := fun i h1 h2 => h.1 i h2 (by omega) (by omega)
    obtain ⟨a1, a2, a3⟩ := h.2.1 j hj
    unfold tM onM opM fB
    rw [a1, a2, e (7 + 5 * d) (by omega) (by omega), e (8 + 5 * d) (by omega) (by omega), e (9 + 5 * d) (by omega) (by omega), e (5 + 5 * d) (by omega) (by omega), e (6 + 5 * d) (by omega) (by omega), (h.hp hp hN _ hj).1, (h.hp hp hN _ hj).2])
theorem Aw.sc (h : Aw p N c m) {i : Nat} {v : Int32} (h1 : i < 50) (h2 : i ≠ 1) (h3 : i ≠ 4) : Aw p N (upd c i v) (upd m i v) := by
  refine ⟨fun k k1 k2 k3 => ?_, fun j hj => ?_, ?_, ?_⟩
  · by_cases e : k = i
    · subst e; rw [upd_eq, upd_eq]
    · rw [upd_ne e, upd_ne e]; exact h.1 k k1 k2 k3
  · rw [upd_ne (by omega), upd_ne (by omega), upd_ne (by omega), upd_ne (by omega), upd_ne (by omega), upd_ne (by omega)]; exact h.2.1 j hj
  · rw [upd_ne (by omega)]; exact h.2.2.1
  · rw [upd_ne (by omega)]; exact h.2.2.2
theorem Aw.room (h : Aw p N c m) {j : Nat} {v : Int32} : Aw p N (upd c (50 + 3 * j) v) (upd m (50 + 3 * sg p j) v) := by
  refine ⟨fun k k1 k2 k3 => by rw [upd_ne (by omega), upd_ne (by omega)]; exact h.1 k k1 k2 k3, fun i hi => ?_, by rw [upd_ne (by omega)]; exact h.2.2.1, by rw [upd_ne (by omega)]; exact h.2.2.2⟩
  obtain ⟨a1, a2, a3⟩ := h.2.1 i hi
  by_cases e : i = j
  · subst e
    rw [upd_eq, upd_eq, upd_ne (by omega), upd_ne (by omega), upd_ne (by omega), upd_ne (by omega)]; exact ⟨rfl, a2, a3⟩
  · have e2 : sg p i ≠ sg p j := fun q => e (sg_inj q)
    rw [upd_ne (by omega), upd_ne (by omega), upd_ne (by omega), upd_ne (by omega), upd_ne (by omega), upd_ne (by omega)]; exact ⟨a1, a2, a3⟩
theorem Aw.mood (h : Aw p N c m) {j : Nat} {v : Int32} : Aw p N (upd c (52 + 3 * j) v) (upd m (52 + 3 * sg p j) v) := by
  refine ⟨fun k k1 k2 k3 => by rw [upd_ne (by omega), upd_ne (by omega)]; exact h.1 k k1 k2 k3, fun i hi => ?_, by rw [upd_ne (by omega)]; exact h.2.2.1, by rw [upd_ne (by omega)]; exact h.2.2.2⟩
  obtain ⟨a1, a2, a3⟩ := h.2.1 i hi
  by_cases e : i = j
  · subst e
    rw [upd_eq, upd_eq, upd_ne (by omega), upd_ne (by omega), upd_ne (by omega), upd_ne (by omega)]; exact ⟨a1, a2, rfl⟩
  · have e2 : sg p i ≠ sg p j := fun q => e (sg_inj q)
    rw [upd_ne (by omega), upd_ne (by omega), upd_ne (by omega), upd_ne (by omega), upd_ne (by omega), upd_ne (by omega)]; exact ⟨a1, a2, a3⟩
theorem Aw.pstep (h : Aw p N c m) (hp : p ≤ N) (hN : N ≤ 6) (hD : D ≤ 9) {j : Nat} (hj : j < N) {h0 : Nat} (hmd : MOk m D (N + 1) h0) : Aw p N (pstepM g D N c j) (pstepM g D (N + 1) m (sg p j)) := by
  obtain ⟨a1, a2, a3⟩ := h.2.1 j hj
  have hl := sg_le (p := p) hj
  have e2 : c 2 = m 2 := h.1 2 (by omega) (by omega) (by omega)
  have e3 : c 3 = m 3 := h.1 3 (by omega) (by omega) (by omega)
  unfold pstepM
  rw [gn_0 h.2.2.1 (by omega), h.gnk (by omega) (by omega), decide_eq_false sg_ne, a1, a2, a3, e2, e3, h.door hp hN hD hj]
  by_cases q1 : false = true ∨ m (50 + 3 * sg p j) = m (51 + 3 * sg p j)
  · rw [if_pos q1, if_pos q1]; exact h
  · rw [if_neg q1, if_neg q1]
    by_cases q2 : doorM m g D (N + 1) (sg p j) (m 2) < 0
    · rw [if_pos q2, if_pos q2]
      by_cases q3 : m (52 + 3 * sg p j) ≤ 0
      · rw [if_pos q3, if_pos q3]; exact h
      · rw [if_neg q3, if_neg q3]; exact h.mood
    · rw [if_neg q2, if_neg q2]
      obtain ⟨d, hd, ed⟩ := doorM_yes q2
      rw [ed, cN_nI (by omega), h.1 (8 + 5 * d) (by omega) (by omega) (by omega)]
      exact h.room.sc (by omega) (by omega) (by omega)
theorem Aw.hstep (h : Aw p N c m) (hp : p ≤ N) (hN : N ≤ 6) (hD : D ≤ 9) {h0 : Nat} (hmd : MOk m D (N + 1) h0) : Aw p N (hstepM g D N c N) (hstepM g D (N + 1) m (N + 1)) := by
  have := sg_fold (R := fun a b => Aw p N a b ∧ MOk b D (N + 1) h0) (G := fun k => hstepM g D N c k) (F := fun k => hstepM g D (N + 1) m k) (p := p) (N := N) ⟨h, hmd⟩ (by
    show hstepM g D (N + 1) m (p + 1) = hstepM g D (N + 1) m p
    have e4 : hstepM g D (N + 1) m p 4 = m 4 := hstepM_ne (by omega) p (fun q hq => by omega)
    have e5 : gn (hstepM g D (N + 1) m p) p = true := by
      have q : hasB (m 4) (nI p) = decide (p = p) := h.gnk (by omega) (show p < 8 by omega)
      show hasB (hstepM g D (N + 1) m p 4) (nI p) = true
      rw [e4, q, decide_eq_true rfl]
    rw [hstepM]
    show pstepM g D (N + 1) (hstepM g D (N + 1) m p) p = _
    unfold pstepM
    rw [if_pos (Or.inl e5)]) (fun k hk ih => ⟨ih.1.pstep hp hN hD hk ih.2, ih.2.pstep (sg_le hk)⟩) N (Nat.le_refl _)
  have this : Aw p N (hstepM g D N c N) (hstepM g D (N + 1) m (sg p N)) := this.1
  rwa [sg_ge (by omega)] at this
theorem Aw.hours (h : Aw p N c m) (hp : p ≤ N) (hN : N ≤ 6) (hD : D ≤ 9) {h0 : Nat} (hmd : MOk m D (N + 1) h0) : ∀ n, Aw p N (hoursM g D N c n) (hoursM g D (N + 1) m n)
  | 0 => h
  | n + 1 => by
    have ih := Aw.hours h hp hN hD hmd n
    have hm := hmd.hours (g := g) n
    rw [hoursM, hoursM, hourM, hourM, ih.1 2 (by omega) (by omega) (by omega)]
    exact (ih.sc (by omega) (by omega) (by omega)).hstep hp hN hD hm.hour
end AWAY
def hkN (r : Nat → Int32) : Nat → Nat
  | 0 => 0
  | k + 1 => if gn r k = false ∧ r (50 + 3 * k) = r (51 + 3 * k) then hkN r k + 1 else hkN r k
theorem hkN_le {r : Nat → Int32} : ∀ k, hkN r k ≤ k
  | 0 => Nat.le_refl _
  | k + 1 => by
    have := hkN_le (r := r) k
    rw [hkN]; split <;> omega
theorem bit_or : ∀ n, n < 7 → ∀ h, h < 64 → h < 2 ^ n → bitsM (nI (h ||| 2 ^ n)) 9 = bitsM (nI h) 9 + 1 := by decide +kernel
theorem hk_bits {r : Nat → Int32} : ∀ n, n ≤ 7 → ∃ h, h < 2 ^ n ∧ homeM r n = nI h ∧ bitsM (nI h) 9 = nI (hkN r n)
  | 0, _ => ⟨0, Nat.one_pos, rfl, show bitsM (nI 0) 9 = nI 0 by decide⟩
  | n + 1, hn => by
    obtain ⟨h, h1, h2, h3⟩ := hk_bits (r := r) n (by omega)
    have l1 : 2 ^ n < 2 ^ (n + 1) := Nat.pow_lt_pow_right (by omega) (by omega)
    have l2 : 2 ^ n ≤ 2 ^ 6 := Nat.pow_le_pow_right (by omega) (by omega)
    rw [homeM, hkN, h2]
    split
    · exact ⟨h ||| 2 ^ n, or_lt (by omega) (by omega), by rw [one_sh (by omega), nI_or], by rw [bit_or n (by omega) h (by omega) h1, h3, nI_1]⟩
    · exact ⟨h, by omega, by rw [Int32.or_zero], h3⟩
theorem hk_eq {r : Nat → Int32} {n : Nat} (hn : n ≤ 7) : bitsM (homeM r n) 9 = nI (hkN r n) := by
  obtain ⟨h, h1, h2, h3⟩ := hk_bits (r := r) n hn
  rw [h2, h3]
theorem Aw.home {p N : Nat} {c m : Nat → Int32} (h : Aw p N c m) (hp : p ≤ N) (hN : N ≤ 6) : bitsM (homeM c N) 9 = bitsM (homeM m (N + 1)) 9 := by
  rw [hk_eq (by omega), hk_eq (by omega)]
  have := sg_fold (R := Eq) (G := fun k => hkN c k) (F := fun k => hkN m k) (p := p) (N := N) rfl (by
      show hkN m (p + 1) = hkN m p
      rw [hkN, if_neg (fun q => by rw [h.gnk (by omega) (by omega), decide_eq_true rfl] at q; exact absurd q.1 (by decide))]) (fun k hk ih => by
      have ih : hkN c k = hkN m (sg p k) := ih
      show hkN c (k + 1) = hkN m (sg p k + 1)
      have l1 := sg_le (p := p) hk
      rw [hkN, hkN, gn_0 h.2.2.1 (by omega), h.gnk (by omega) (by omega), decide_eq_false sg_ne, (h.2.1 k hk).1, (h.2.1 k hk).2.1, ih]) N (Nat.le_refl _)
  have this : hkN c N = hkN m (sg p N) := this
  rw [this, sg_ge (by omega)]
-- the row with one taken out
theorem shR_lo {r : Nat → Int32} {j i : Nat} (h : i < 50) : shR r j i = r i := by unfold shR; rw [upd_ne (by omega), upd_ne (by omega), upd_ne (by omega)]
theorem shR_ne {r : Nat → Int32} {j i : Nat} (h : i ≠ j) : shR r j (50 + 3 * i) = r (50 + 3 * i) ∧ shR r j (51 + 3 * i) = r (51 + 3 * i) ∧ shR r j (52 + 3 * i) = r (52 + 3 * i) := by
  unfold shR
  refine ⟨?_, ?_, ?_⟩ <;> rw [upd_ne (by omega), upd_ne (by omega), upd_ne (by omega)]
theorem shR_eq {r : Nat → Int32} {j : Nat} : shR r j (50 + 3 * j) = r (50 + 3 * (j + 1)) ∧ shR r j (51 + 3 * j) = r (51 + 3 * (j + 1)) ∧ shR r j (52 + 3 * j) = r (52 + 3 * (j + 1)) := by
  unfold shR
  refine ⟨?_, ?_, ?_⟩
  · rw [upd_ne (by omega), upd_ne (by omega), upd_eq]
  · rw [upd_ne (by omega), upd_eq]
  · rw [upd_eq]
theorem remL_lo : ∀ (q j : Nat) (r : Nat → Int32) (i : Nat), i < 50 → remL q j r i = r i
  | 0, j, r, i, h => rfl
  | q + 1, j, r, i, h => by rw [remL, remL_lo q (j + 1) _ i h, shR_lo h]
theorem remL_at : ∀ (q j : Nat) (r : Nat → Int32) (i : Nat), i < j + q → remL q j r (50 + 3 * i) = r (50 + 3 * sg j i) ∧ remL q j r (51 + 3 * i) = r (51 + 3 * sg j i) ∧ remL q j r (52 + 3 * i) = r (52 + 3 * sg j i)
  | 0, j, r, i, h => by rw [remL, sg_lt (by omega)]; exact ⟨rfl, rfl, rfl⟩
  | q + 1, j, r, i, h => by
    rw [remL]
    obtain ⟨a1, a2, a3⟩ := remL_at q (j + 1) (shR r j) i (by omega)
    rw [a1, a2, a3]
    by_cases h1 : i < j
    · rw [sg_lt (by omega), sg_lt h1]; exact shR_ne (by omega)
    · rw [sg_ge h1]
      by_cases h2 : i = j
      · subst h2; rw [sg_lt (by omega)]; exact shR_eq
      · rw [sg_ge (by omega)]; exact shR_ne (by omega)
theorem rm_aw {r : Nat → Int32} (hS : SOk r) {p N : Nat} (hN : nN r = N + 1) (hp : p ≤ N) : Aw p N (rmP r (nN r) p) (upd r 4 (1 <<< (nI p &&& 31))) := by
  have h6 := hS.n6
  refine ⟨fun i h1 h2 h3 => ?_, fun j hj => ?_, ?_, upd_eq⟩ <;> unfold rmP
  · rw [upd_ne h2, remL_lo _ _ _ _ h1, upd_ne h3]
  · obtain ⟨a1, a2, a3⟩ := remL_at (nN r - 1 - p) p r j (by omega)
    refine ⟨?_, ?_, ?_⟩
    · rw [upd_ne (by omega), a1, upd_ne (by omega)]
    · rw [upd_ne (by omega), a2, upd_ne (by omega)]
    · rw [upd_ne (by omega), a3, upd_ne (by omega)]
  · rw [upd_ne (by omega), remL_lo _ _ _ _ (by omega)]; exact hS.e4
theorem rm_ok {r : Nat → Int32} (hS : SOk r) {p N : Nat} (hN : nN r = N + 1) (hp : p ≤ N) : ROk (rmP r (nN r) p) (dN r) N (cN (r 2)) := by
  have h6 := hS.n6
  have h9 := hS.d9
  have hA := rm_aw hS hN hp
  have e : ∀ i, i < 50 → i ≠ 1 → i ≠ 4 → rmP r (nN r) p i = r i := fun i h1 h2 h3 => by rw [hA.1 i h1 h2 h3, upd_ne h3]
  have e1 : rmP r (nN r) p 1 = nI N := by unfold rmP; rw [upd_eq, hN]; rfl
  refine ⟨⟨⟨by rw [e 0 (by omega) (by omega) (by omega)]; exact hS.e0, h9, e1, by omega, fun j hj => ?_, fun d hd => ?_⟩, fun d hd => ?_, by rw [e 2 (by omega) (by omega) (by omega)]; exact hS.e2⟩, fun d hd => ?_, fun j hj => ?_, hA.2.2.1⟩
  · obtain ⟨a1, a2, a3⟩ := hA.2.1 j hj
    have l := sg_le (p := p) hj
    rw [a1, a2, upd_ne (by omega), upd_ne (by omega)]
    exact hS.1.1.2.2.2.2.1 _ (by omega)
  · rw [e _ (by omega) (by omega) (by omega), e _ (by omega) (by omega) (by omega)]; exact hS.1.1.2.2.2.2.2 d hd
  · rw [e _ (by omega) (by omega) (by omega), e _ (by omega) (by omega) (by omega)]; exact hS.1.2.1 d hd
  · rw [e _ (by omega) (by omega) (by omega), e _ (by omega) (by omega) (by omega)]; exact (hS.dd hd).1
  · obtain ⟨a1, a2, a3⟩ := hA.2.1 j hj
    have l := sg_le (p := p) hj
    rw [a3, upd_ne (by omega)]
    exact hS.pm (by omega)
theorem rm_sd {r : Nat → Int32} (hS : SOk r) {p N : Nat} (hN : nN r = N + 1) (hp : p ≤ N) : SD r (rmP r (nN r) p) := by
  have h9 := hS.d9
  have hA := rm_aw hS hN hp
  have e : ∀ i, i < 50 → i ≠ 1 → i ≠ 4 → rmP r (nN r) p i = r i := fun i h1 h2 h3 => by rw [hA.1 i h1 h2 h3, upd_ne h3]
  exact ⟨e 0 (by omega) (by omega) (by omega), fun d hd => ⟨e _ (by omega) (by omega) (by omega), e _ (by omega) (by omega) (by omega)⟩⟩
theorem rm_val {r : Nat → Int32} (hS : SOk r) {p N n : Nat} (hN : nN r = N + 1) (hp : p ≤ N) : bitsM (homeM (hrs (rmP r (nN r) p) n) N) 9 = hdV r n p := by
  have h6 := hS.n6
  have h9 := hS.d9
  have hsd2 : SD r (upd r 4 (1 <<< (nI p &&& 31))) := ⟨upd_ne (by omega), fun d hd => ⟨upd_ne (by omega), upd_ne (by omega)⟩⟩
  have e1 : nN (upd r 4 (1 <<< (nI p &&& 31))) = N + 1 := by unfold nN; rw [upd_ne (by omega)]; exact hN
  have hM : MOk (upd r 4 (1 <<< (nI p &&& 31))) (dN r) (N + 1) (cN (r 2)) := by rw [← hN]; exact hS.1.gone
  have hA := (rm_aw hS hN hp).hours (g := farOf r) (D := dN r) hp (by omega) h9 hM n
  have hv := hA.home hp (by omega)
  unfold hdV hmV hrs
  rw [(rm_sd hS hN hp).all.2.2, (rm_sd hS hN hp).e0, (rm_ok hS hN hp).e1, hsd2.all.2.2, hsd2.e0, e1]
  exact hv
def hlC (v : Nat → Int32) : Nat → Int32 × Int32
  | 0 => (-9, -9)
  | k + 1 => if (hlC v k).1 = -9 ∨ v k < (hlC v k).2 then (nI k, v k) else hlC v k
theorem hl_bl {v : Nat → Int32} (hv : ∀ j, v j < 1000000000) : ∀ k, k < 100 → hlC v (k + 1) = blS v (k + 1) ∧ ∃ j, j < 100 ∧ (blS v (k + 1)).1 = nI j
  | 0, _ => by
    refine ⟨?_, 0, by omega, ?_⟩
    · show (if (-9 : Int32) = -9 ∨ v 0 < -9 then (nI 0, v 0) else ((-9 : Int32), (-9 : Int32))) = (if v 0 < 1000000000 then (nI 0, v 0) else ((-9 : Int32), (1000000000 : Int32)))
      rw [if_pos (Or.inl rfl), if_pos (hv 0)]
    · show (if v 0 < 1000000000 then (nI 0, v 0) else ((-9 : Int32), (1000000000 : Int32))).1 = nI 0
      rw [if_pos (hv 0)]
  | k + 1, hk => by
    obtain ⟨h1, j, hj, h2⟩ := hl_bl hv k (by omega)
    rw [hlC, blS, h1]
    have e : ((blS v (k + 1)).1 = -9 ∨ v (k + 1) < (blS v (k + 1)).2) ↔ v (k + 1) < (blS v (k + 1)).2 := ⟨fun q => q.resolve_left (by rw [h2]; exact nI_m9 hj), Or.inr⟩
    by_cases c : v (k + 1) < (blS v (k + 1)).2
    · rw [if_pos (e.mpr c), if_pos c]; exact ⟨rfl, k + 1, hk, rfl⟩
    · rw [if_neg (fun q => c (e.mp q)), if_neg c]; exact ⟨rfl, j, hj, h2⟩
theorem hl_fin {v : Nat → Int32} {N : Nat} {w : Int32} (hv : ∀ j, v j < 1000000000) (hN : N ≤ 6) : (if w = 0 then (hlC v N).1 else (hlC v N).2) = (if (blS v N).1 < 0 ∨ w = 0 then (blS v N).1 else (blS v N).2) := by
  cases N with
  | zero =>
    show (if w = 0 then (-9 : Int32) else -9) = (if (-9 : Int32) < 0 ∨ w = 0 then (-9 : Int32) else 1000000000)
    rw [if_pos (Or.inl m9_neg), ite_self]
  | succ k =>
    obtain ⟨h1, j, hj, h2⟩ := hl_bl hv k (by omega)
    rw [h1]
    have e : ¬ (blS v (k + 1)).1 < 0 := by rw [h2]; exact nI_pos (by omega)
    by_cases c : w = 0
    · rw [if_pos c, if_pos (Or.inr c)]
    · rw [if_neg c, if_neg (fun q => by rcases q with q | q; exact e q; exact c q)]
theorem hd_lt {r : Nat → Int32} (hS : SOk r) {n p : Nat} : hdV r n p < 1000000000 := by
  have h6 := hS.n6
  have e1 : nN (upd r 4 (1 <<< (nI p &&& 31))) = nN r := by unfold nN; rw [upd_ne (by omega)]
  unfold hdV hmV
  rw [e1, hk_eq (by omega)]
  have := hkN_le (r := hrs (upd r 4 (1 <<< (nI p &&& 31))) n) (nN r)
  exact (nI_ltI (b := 1000000000) (by omega) (by omega)).mpr (by omega)
theorem lX4_holds {r im lt rw rf ga : Nat → Int32} {hi : Int32} {L R : Nat} (hS : SOk r) {n : Nat} {w : Int32} (hn : n ≤ 30) : ∀ (q k : Nat) (m mw mf : Nat → Int32), nN r - k < q → k ≤ nN r → Ok mX4_holds none 40 [some (.ref 0), some (.int (nI n)), some (.int w), some (.int (hlC (hdV r n) k).1), some (.int (hlC (hdV r n) k).2), some (.int (nI k))] [] (xW r (wsO r) (fsO r) m mw mf im (wsO im) (fsO im) lt rw rf ga hi (nI L) (nI R)) 0 0 (fun v w2 => v = some (.int (if (blS (hdV r n) (nN r)).1 < 0 ∨ w = 0 then (blS (hdV r n) (nN r)).1 else (blS (hdV r n) (nN r)).2)) ∧ ∃ m2 mw2 mf2, w2 = xW r (wsO r) (fsO r) m2 mw2 mf2 im (wsO im) (fsO im) lt rw rf ga hi (nI L) (nI R)) := by
  intro q
  induction q with
  | zero => intro k m mw mf hq hk; omega
  | succ q ih =>
  intro k m mw mf hq hk
  have h6 := hS.n6
  refine o_iload dX4_holds_40 rfl ?_
  refine o_aload_n dX4_holds_42 rfl rfl ?_
  refine o_getf (j := 0) dX4_holds_43 rfl hcX4 inX4 (Nat.le_of_ble_eq_true rfl) wd204 rfl rfl ?_
  refine o_getf (j := 4) dX4_holds_46 rfl hcX3 inX3 (Nat.le_of_ble_eq_true rfl) wd150 rfl rfl ?_
  refine o_eqs (by rw [hS.e1]) ?_
  refine o_icmp_ge (tgt := 118) dX4_holds_49 (by decide) (fun c_49 => ?_) (fun c_49 => ?_)
  · have hkN : k = nN r := Nat.le_antisymm hk (geI (by omega) (by omega) c_49)
    rw [hkN]
    refine o_iload_n dX4_holds_118 rfl rfl ?_
    refine o_if_ne (tgt := 126) dX4_holds_119 (by decide) (fun c_119 => ?_) (fun c_119 => ?_)
    · skip
      refine o_iload dX4_holds_126 rfl ?_
      refine o_iret dX4_holds_128 rfl (vp_nar_int _) (Nat.le_of_ble_eq_true rfl) (Nat.le_of_ble_eq_true rfl) ?_
      exact ⟨by rw [← hl_fin (fun j => hd_lt hS) h6, if_neg c_119], _, _, _, rfl⟩
    · skip
      refine o_iload_n dX4_holds_122 rfl rfl ?_
      refine o_goto (tgt := 128) dX4_holds_123 (by decide) ?_
      refine o_iret dX4_holds_128 rfl (vp_nar_int _) (Nat.le_of_ble_eq_true rfl) (Nat.le_of_ble_eq_true rfl) ?_
      exact ⟨by rw [← hl_fin (fun j => hd_lt hS) h6, if_pos c_119], _, _, _, rfl⟩
  · have hkN : k < nN r := ltI (by omega) (by omega) c_49
    obtain ⟨N, hN⟩ : ∃ N, nN r = N + 1 := ⟨nN r - 1, by omega⟩
    have hR := rm_ok hS hN (p := k) (by omega)
    have ev := rm_val hS (n := n) hN (p := k) (by omega)
    refine o_aload_n dX4_holds_52 rfl rfl ?_
    refine o_getf (j := 1) dX4_holds_53 rfl hcX4 inX4 (Nat.le_of_ble_eq_true rfl) wd205 rfl rfl ?_
    refine o_aload_n dX4_holds_56 rfl rfl ?_
    refine o_getf (j := 0) dX4_holds_57 rfl hcX4 inX4 (Nat.le_of_ble_eq_true rfl) wd204 rfl rfl ?_
    refine o_callVd (w2 := xW r (wsO r) (fsO r) r (wsO r) (fsO r) im (wsO im) (fsO im) lt rw rf ga hi (nI L) (nI R)) (is := [14, 15, 16, 17, 18, 19, 20, 21, 22, 23, 24, 25, 2, 3, 4, 5, 6, 7, 8, 9, 10, 11, 12, 13]) (tX3_become) ⟨rfl, rfl⟩ dX4_holds_60 wd273 cvX3_become rfl ⟨(Nat.le_of_ble_eq_true rfl), (Nat.le_of_ble_eq_true rfl)⟩ hcX3 rfl rfl rfl rfl (Nat.le_of_ble_eq_true rfl) (Nat.le_of_ble_eq_true rfl) (Nat.le_of_ble_eq_true rfl) (pb_two (w1 := xW r (wsO r) (fsO r) r (wsO r) (fsO r) im (wsO im) (fsO im) lt rw rf ga hi (nI L) (nI R)) 12 14 2 12 rfl rfl (Nat.le_of_ble_eq_true rfl) rfl rfl rfl (Nat.le_of_ble_eq_true rfl) rfl rfl rfl) ?_
    refine o_aload_n dX4_holds_63 rfl rfl ?_
    refine o_getf (j := 1) dX4_holds_64 rfl hcX4 inX4 (Nat.le_of_ble_eq_true rfl) wd205 rfl rfl ?_
    refine o_iload dX4_holds_67 rfl ?_
    refine o_callVd (w2 := xW r (wsO r) (fsO r) (rmP r (nN r) k) (wsO r) (fsO r) im (wsO im) (fsO im) lt rw rf ga hi (nI L) (nI R)) (is := [14, 15, 16, 17, 18, 19, 20, 21, 22, 23, 24, 25]) (tX3_removePerson (by omega) hS.e1 hkN) ⟨rfl, rfl⟩ dX4_holds_69 wd539 cvX3_removePerson rfl ⟨(Nat.le_of_ble_eq_true rfl), (Nat.le_of_ble_eq_true rfl)⟩ hcX3 rfl rfl rfl rfl (Nat.le_of_ble_eq_true rfl) (Nat.le_of_ble_eq_true rfl) (Nat.le_of_ble_eq_true rfl) (pb_seg 14 (Nat.le_of_ble_eq_true rfl) rfl rfl rfl) ?_
    refine o_aload_n dX4_holds_72 rfl rfl ?_
    refine o_getf (j := 1) dX4_holds_73 rfl hcX4 inX4 (Nat.le_of_ble_eq_true rfl) wd205 rfl rfl ?_
    refine o_iload_n dX4_holds_76 rfl rfl ?_
    refine o_iconst dX4_holds_77 ic_0 ?_
    refine o_callVd (w2 := xW r (wsO r) (fsO r) (hrs (rmP r (nN r) k) n) (wsO r) (fsO r) im (wsO im) (fsO im) lt rw rf ga hi (nI L) (nI R)) (is := [14, 15, 16, 17, 18, 19, 20, 21, 22, 23, 24, 25]) (goM hS hR (rm_sd hS hN (by omega)) (by omega)) ⟨rfl, rfl⟩ dX4_holds_78 wd424 cvX3_goHours rfl ⟨(Nat.le_of_ble_eq_true rfl), (Nat.le_of_ble_eq_true rfl)⟩ hcX3 rfl rfl rfl rfl (Nat.le_of_ble_eq_true rfl) (Nat.le_of_ble_eq_true rfl) (Nat.le_of_ble_eq_true rfl) (pb_seg 14 (Nat.le_of_ble_eq_true rfl) rfl rfl rfl) ?_
    refine o_pop dX4_holds_81 rfl ?_
    refine o_iload_n dX4_holds_82 rfl rfl ?_
    refine o_bipush dX4_holds_83 bp_m9 ?_
    refine o_icmp_eq (tgt := 100) dX4_holds_85 (by decide) (fun c_85 => ?_) (fun c_85 => ?_)
    · skip
      refine o_aload_n dX4_holds_100 rfl rfl ?_
      refine o_getf (j := 1) dX4_holds_101 rfl hcX4 inX4 (Nat.le_of_ble_eq_true rfl) wd205 rfl rfl ?_
      refine o_callVr (is := [14, 15, 16, 17, 18, 19, 20, 21, 22, 23, 24, 25]) (hcM hR) ⟨rfl, rfl⟩ dX4_holds_104 wd425 cvX3_homeCount rfl ⟨(Nat.le_of_ble_eq_true rfl), (Nat.le_of_ble_eq_true rfl)⟩ hcX3 rfl rfl rfl rfl (Nat.le_of_ble_eq_true rfl) (Nat.le_of_ble_eq_true rfl) (Nat.le_of_ble_eq_true rfl) ?_
      refine o_istg_4 dX4_holds_107 rfl (Nat.le_of_ble_eq_true rfl) ?_
      refine o_iload dX4_holds_109 rfl ?_
      refine o_istn_3 dX4_holds_111 rfl rfl (Nat.le_of_ble_eq_true rfl) ?_
      refine o_inc_5 dX4_holds_112 rfl ic_1 (Nat.le_of_ble_eq_true rfl) ?_
      refine o_goto (tgt := 40) dX4_holds_115 (by decide) ?_
      exact o_eqa (by rw [nI_1, hlC, if_pos (Or.inl c_85), ev]) rfl (ih (k + 1) _ _ _ (by omega) (by omega))
    · skip
      refine o_aload_n dX4_holds_88 rfl rfl ?_
      refine o_getf (j := 1) dX4_holds_89 rfl hcX4 inX4 (Nat.le_of_ble_eq_true rfl) wd205 rfl rfl ?_
      refine o_callVr (is := [14, 15, 16, 17, 18, 19, 20, 21, 22, 23, 24, 25]) (hcM hR) ⟨rfl, rfl⟩ dX4_holds_92 wd425 cvX3_homeCount rfl ⟨(Nat.le_of_ble_eq_true rfl), (Nat.le_of_ble_eq_true rfl)⟩ hcX3 rfl rfl rfl rfl (Nat.le_of_ble_eq_true rfl) (Nat.le_of_ble_eq_true rfl) (Nat.le_of_ble_eq_true rfl) ?_
      refine o_iload dX4_holds_95 rfl ?_
      refine o_icmp_ge (tgt := 112) dX4_holds_97 (by decide) (fun c_97 => ?_) (fun c_97 => ?_)
      · rw [ev] at c_97
        refine o_inc_5 dX4_holds_112 rfl ic_1 (Nat.le_of_ble_eq_true rfl) ?_
        refine o_goto (tgt := 40) dX4_holds_115 (by decide) ?_
        exact o_eqa (by rw [nI_1, hlC, if_neg (fun q => by rcases q with q | q; exact c_85 q; exact absurd q (Int32.not_lt.mpr c_97))]) rfl (ih (k + 1) _ _ _ (by omega) (by omega))
      · rw [ev] at c_97
        refine o_aload_n dX4_holds_100 rfl rfl ?_
        refine o_getf (j := 1) dX4_holds_101 rfl hcX4 inX4 (Nat.le_of_ble_eq_true rfl) wd205 rfl rfl ?_
        refine o_callVr (is := [14, 15, 16, 17, 18, 19, 20, 21, 22, 23, 24, 25]) (hcM hR) ⟨rfl, rfl⟩ dX4_holds_104 wd425 cvX3_homeCount rfl ⟨(Nat.le_of_ble_eq_true rfl), (Nat.le_of_ble_eq_true rfl)⟩ hcX3 rfl rfl rfl rfl (Nat.le_of_ble_eq_true rfl) (Nat.le_of_ble_eq_true rfl) (Nat.le_of_ble_eq_true rfl) ?_
        refine o_istg_4 dX4_holds_107 rfl (Nat.le_of_ble_eq_true rfl) ?_
        refine o_iload dX4_holds_109 rfl ?_
        refine o_istn_3 dX4_holds_111 rfl rfl (Nat.le_of_ble_eq_true rfl) ?_
        refine o_inc_5 dX4_holds_112 rfl ic_1 (Nat.le_of_ble_eq_true rfl) ?_
        refine o_goto (tgt := 40) dX4_holds_115 (by decide) ?_
        exact o_eqa (by rw [nI_1, hlC, if_pos (Or.inr (Int32.not_le.mp c_97)), ev]) rfl (ih (k + 1) _ _ _ (by omega) (by omega))
theorem tX4_holds {r m mw mf im lt rw rf ga : Nat → Int32} {hi : Int32} {L R : Nat} (hS : SOk r) {x w : Int32} : PM mX4_holds [.ref 0, .int x, .int w] (xW r (wsO r) (fsO r) m mw mf im (wsO im) (fsO im) lt rw rf ga hi (nI L) (nI R)) (CP (s_holds x w (r, im, hi, lt, L, rw, R, rf))) := by
  refine PM.ofp 3 (by decide) (Nat.le_of_ble_eq_true rfl) ?_
  show Ok mX4_holds none 0 [some (.ref 0), some (.int x), some (.int w), none, none, none] [] (xW r (wsO r) (fsO r) m mw mf im (wsO im) (fsO im) lt rw rf ga hi (nI L) (nI R)) 0 0 _
  refine o_iload_n dX4_holds_0 rfl rfl ?_
  refine o_if_lt (tgt := 10) dX4_holds_1 (by decide) (fun c_1 => ?_) (fun c_1 => ?_)
  · skip
    refine o_aload_n dX4_holds_10 rfl rfl ?_
    refine o_iload_n dX4_holds_11 rfl rfl ?_
    refine o_callVd (w2 := xW r (wsO r) (fsO r) m mw mf im (wsO im) (fsO im) lt rw (rfu rf 4) ga hi (nI L) (nI R)) (is := [0, 1, 2, 3, 4, 5, 6, 7, 8, 9, 10, 11, 12, 13, 14, 15, 16, 17, 18, 19, 20, 21, 22, 23, 24, 25, 26, 27, 28, 29, 30, 31, 32, 33, 34, 35, 36, 37, 38, 39, 40, 41, 42, 43]) (rfn_lo c_1) ⟨rfl, rfl⟩ dX4_holds_12 wd412 cvX4_refusedNumber rfl ⟨(Nat.le_of_ble_eq_true rfl), (Nat.le_of_ble_eq_true rfl)⟩ hcX4 rfl rfl rfl rfl (Nat.le_of_ble_eq_true rfl) (Nat.le_of_ble_eq_true rfl) (Nat.le_of_ble_eq_true rfl) (pb_seg 0 (Nat.le_of_ble_eq_true rfl) rfl rfl rfl) ?_
    refine o_iret dX4_holds_15 rfl (vp_nar_int _) (Nat.le_of_ble_eq_true rfl) (Nat.le_of_ble_eq_true rfl) ?_
    exact CP.mk (by simp only [s_holds, wrB, if_pos c_1]; rfl)
  · skip
    refine o_iload_n dX4_holds_4 rfl rfl ?_
    refine o_bipush dX4_holds_5 bp_30 ?_
    refine o_icmp_le (tgt := 16) dX4_holds_7 (by decide) (fun c_7 => ?_) (fun c_7 => ?_)
    · have q2 : ¬ nI 30 < x := Int32.not_lt.mpr c_7
      obtain ⟨q, hq, rfl⟩ := rng (b := 30) (by omega) c_1 q2
      have eq := cN_nI (d := q) (by omega)
      refine o_iload_n dX4_holds_16 rfl rfl ?_
      refine o_callSr (is := []) (tX4_isHalf) ⟨rfl, rfl⟩ dX4_holds_17 wd443 csX4_isHalf rfl ⟨(Nat.le_of_ble_eq_true rfl), (Nat.le_of_ble_eq_true rfl)⟩ rfl rfl rfl (Nat.le_of_ble_eq_true rfl) (Nat.le_of_ble_eq_true rfl) (Nat.le_of_ble_eq_true rfl) ?_
      refine o_if_ne (tgt := 30) dX4_holds_20 (by decide) (fun c_20 => ?_) (fun c_20 => ?_)
      · have hww : inR 2 w = true := by rw [← isHalf_eq]; exact bI_ne c_20
        refine o_bipush dX4_holds_30 bp_m9 ?_
        refine o_istn_3 dX4_holds_32 rfl rfl (Nat.le_of_ble_eq_true rfl) ?_
        refine o_bipush dX4_holds_33 bp_m9 ?_
        refine o_istg_4 dX4_holds_35 rfl (Nat.le_of_ble_eq_true rfl) ?_
        refine o_iconst dX4_holds_37 ic_0 ?_
        refine o_istg_5 dX4_holds_38 rfl (Nat.le_of_ble_eq_true rfl) ?_
        refine o_post (fun v w2 h => ?_) (o_eqa (by rw [nI_0]; rfl) rfl (lX4_holds (w := w) hS hq (nN r + 1) 0 _ _ _ (by omega) (by omega)))
        obtain ⟨rfl, m2, mw2, mf2, rfl⟩ := h
        exact CP.mk (by simp only [s_holds, wrB, if_neg c_1, if_neg q2, hww, if_true, eq])
      · have hww : inR 2 w = false := by rw [← isHalf_eq]; exact bI_0.mp c_20
        refine o_aload_n dX4_holds_23 rfl rfl ?_
        refine o_bipush dX4_holds_24 bp_m2 ?_
        refine o_callVd (w2 := xW r (wsO r) (fsO r) m mw mf im (wsO im) (fsO im) lt rw (rfu rf 2) ga hi (nI L) (nI R)) (is := [0, 1, 2, 3, 4, 5, 6, 7, 8, 9, 10, 11, 12, 13, 14, 15, 16, 17, 18, 19, 20, 21, 22, 23, 24, 25, 26, 27, 28, 29, 30, 31, 32, 33, 34, 35, 36, 37, 38, 39, 40, 41, 42, 43]) (tX4_refused (c := 2) rfl (by decide)) ⟨rfl, rfl⟩ dX4_holds_26 wd233 cvX4_refused rfl ⟨(Nat.le_of_ble_eq_true rfl), (Nat.le_of_ble_eq_true rfl)⟩ hcX4 rfl rfl rfl rfl (Nat.le_of_ble_eq_true rfl) (Nat.le_of_ble_eq_true rfl) (Nat.le_of_ble_eq_true rfl) (pb_seg 0 (Nat.le_of_ble_eq_true rfl) rfl rfl rfl) ?_
        refine o_iret dX4_holds_29 rfl (vp_nar_int _) (Nat.le_of_ble_eq_true rfl) (Nat.le_of_ble_eq_true rfl) ?_
        exact CP.mk (by simp only [s_holds, wrB, if_neg c_1, if_neg q2, hww]; rfl)
    · have q2 : nI 30 < x := Int32.not_le.mp c_7
      refine o_aload_n dX4_holds_10 rfl rfl ?_
      refine o_iload_n dX4_holds_11 rfl rfl ?_
      refine o_callVd (w2 := xW r (wsO r) (fsO r) m mw mf im (wsO im) (fsO im) lt rw (rfu rf 6) ga hi (nI L) (nI R)) (is := [0, 1, 2, 3, 4, 5, 6, 7, 8, 9, 10, 11, 12, 13, 14, 15, 16, 17, 18, 19, 20, 21, 22, 23, 24, 25, 26, 27, 28, 29, 30, 31, 32, 33, 34, 35, 36, 37, 38, 39, 40, 41, 42, 43]) (rfn_hi c_1) ⟨rfl, rfl⟩ dX4_holds_12 wd412 cvX4_refusedNumber rfl ⟨(Nat.le_of_ble_eq_true rfl), (Nat.le_of_ble_eq_true rfl)⟩ hcX4 rfl rfl rfl rfl (Nat.le_of_ble_eq_true rfl) (Nat.le_of_ble_eq_true rfl) (Nat.le_of_ble_eq_true rfl) (pb_seg 0 (Nat.le_of_ble_eq_true rfl) rfl rfl rfl) ?_
      refine o_iret dX4_holds_15 rfl (vp_nar_int _) (Nat.le_of_ble_eq_true rfl) (Nat.le_of_ble_eq_true rfl) ?_
      exact CP.mk (by simp only [s_holds, wrB, if_neg c_1, if_pos q2]; rfl)
