theorem SOk.of {r : Nat → Int32} {D N h : Nat} (hM : MOk r D N h) (hN : N ≤ 6) (hh : h ≤ 999) (hd : ∀ d, d < D → r (7 + 5 * d) ≠ r (8 + 5 * d) ∧ (r (9 + 5 * d) = 0 ∨ r (9 + 5 * d) = 1)) (hp : ∀ p, p < N → FgI (r (52 + 3 * p))) (h4 : r 4 = 0) : SOk r := by
  obtain ⟨h1, e1, e2, e3⟩ := hM.self (by omega)
  exact ⟨h1, by omega, by omega, fun d q => hd d (by omega), fun p q => hp p (by omega), h4⟩
theorem SOk.dd {r : Nat → Int32} (h : SOk r) {d : Nat} (hd : d < dN r) : r (7 + 5 * d) ≠ r (8 + 5 * d) ∧ (r (9 + 5 * d) = 0 ∨ r (9 + 5 * d) = 1) := h.2.2.2.1 d hd
theorem SOk.pm {r : Nat → Int32} (h : SOk r) {p : Nat} (hp : p < nN r) : FgI (r (52 + 3 * p)) := h.2.2.2.2.1 p hp
theorem SOk.e4 {r : Nat → Int32} (h : SOk r) : r 4 = 0 := h.2.2.2.2.2
theorem inR_RmI {x : Int32} (h : inR 8 x = true) : RmI x := inR_yes (by omega) h
theorem SOk.room {r : Nat → Int32} (h : SOk r) {p : Nat} {v : Int32} (hp : p < nN r) (hv : RmI v) : SOk (upd r (50 + 3 * p) v) := by
  have h6 := h.n6
  have h9 := h.d9
  exact SOk.of (h.1.room hp hv) h.n6 h.h9 (fun d hd => by rw [upd_ne (by omega), upd_ne (by omega), upd_ne (by omega)]; exact h.dd hd) (fun q hq => by rw [upd_ne (by omega)]; exact h.pm hq) (by rw [upd_ne (by omega)]; exact h.e4)
theorem SOk.goal {r : Nat → Int32} (h : SOk r) {p : Nat} {v : Int32} (hp : p < nN r) (hv : RmI v) : SOk (upd r (51 + 3 * p) v) := by
  have h6 := h.n6
  have h9 := h.d9
  exact SOk.of (h.1.goal hp hv) h.n6 h.h9 (fun d hd => by rw [upd_ne (by omega), upd_ne (by omega), upd_ne (by omega)]; exact h.dd hd) (fun q hq => by rw [upd_ne (by omega)]; exact h.pm hq) (by rw [upd_ne (by omega)]; exact h.e4)
theorem SOk.mood {r : Nat → Int32} (h : SOk r) {p : Nat} {v : Int32} (hv : FgI v) : SOk (upd r (52 + 3 * p) v) := by
  have h6 := h.n6
  have h9 := h.d9
  refine SOk.of h.1.mood h.n6 h.h9 (fun d hd => by rw [upd_ne (by omega), upd_ne (by omega), upd_ne (by omega)]; exact h.dd hd) (fun q hq => ?_) (by rw [upd_ne (by omega)]; exact h.e4)
  by_cases e : q = p
  · subst e; rw [upd_eq]; exact hv
  · rw [upd_ne (by omega)]; exact h.pm hq
theorem SOk.wedge {r : Nat → Int32} (h : SOk r) {d : Nat} {v : Int32} (hd : d < dN r) (hv : v = 0 ∨ v = 1) : SOk (upd r (9 + 5 * d) v) := by
  have h6 := h.n6
  have h9 := h.d9
  refine SOk.of (h.1.wedge (by omega)) h.n6 h.h9 (fun e he => ⟨by rw [upd_ne (by omega), upd_ne (by omega)]; exact (h.dd he).1, ?_⟩) (fun q hq => by rw [upd_ne (by omega)]; exact h.pm hq) (by rw [upd_ne (by omega)]; exact h.e4)
  by_cases q : e = d
  · subst q; rw [upd_eq]; exact hv
  · rw [upd_ne (by omega)]; exact (h.dd he).2
theorem SOk.turn {r : Nat → Int32} (h : SOk r) {d : Nat} (hd : d < dN r) : SOk (tnR r d) := by
  have h6 := h.n6
  have h9 := h.d9
  have ht : ∀ i, i ≠ 7 + 5 * d → i ≠ 8 + 5 * d → tnR r d i = r i := fun i h1 h2 => by unfold tnR; rw [upd_ne h2, upd_ne h1]
  refine SOk.of (h.1.turn hd) h.n6 h.h9 (fun e he => ⟨?_, by rw [ht _ (by omega) (by omega)]; exact (h.dd he).2⟩) (fun q hq => by rw [ht _ (by omega) (by omega)]; exact h.pm hq) (by rw [ht _ (by omega) (by omega)]; exact h.e4)
  by_cases q : e = d
  · subst q
    unfold tnR
    rw [upd_ne (by omega), upd_eq, upd_eq]
    exact fun z => (h.dd he).1 z.symm
  · rw [ht _ (by omega) (by omega), ht _ (by omega) (by omega)]; exact (h.dd he).1
theorem MOk.fig {r : Nat → Int32} {D N h d : Nat} {v : Int32} (hM : MOk r D N h) (hd : d < 9) (hv : FgI v) : MOk (upd r (6 + 5 * d) v) D N h := by
  have hN := hM.1.2.2.2.1
  have hD := hM.1.2.1
  refine ⟨hM.1.same (upd_ne (by omega)) (upd_ne (by omega)) (fun q hq => ⟨by rw [upd_ne (by omega)]; exact (hM.1.2.2.2.2.1 q hq).1, upd_ne (by omega)⟩) (fun d hd => ⟨upd_ne (by omega), upd_ne (by omega)⟩), fun e he => ⟨by rw [upd_ne (by omega)]; exact (hM.2.1 e he).1, ?_⟩, by rw [upd_ne (by omega)]; exact hM.2.2⟩
  by_cases q : e = d
  · subst q; rw [upd_eq]; exact hv
  · rw [upd_ne (by omega)]; exact (hM.2.1 e he).2
theorem SOk.kind {r : Nat → Int32} (h : SOk r) {d : Nat} {v : Int32} (hd : d < dN r) (hv : KdI v) : SOk (upd r (5 + 5 * d) v) := by
  have h6 := h.n6
  have h9 := h.d9
  exact SOk.of (h.1.kind (by omega) hv) h.n6 h.h9 (fun d hd => by rw [upd_ne (by omega), upd_ne (by omega), upd_ne (by omega)]; exact h.dd hd) (fun q hq => by rw [upd_ne (by omega)]; exact h.pm hq) (by rw [upd_ne (by omega)]; exact h.e4)
theorem SOk.fig {r : Nat → Int32} (h : SOk r) {d : Nat} {v : Int32} (hd : d < dN r) (hv : FgI v) : SOk (upd r (6 + 5 * d) v) := by
  have h6 := h.n6
  have h9 := h.d9
  exact SOk.of (h.1.fig (by omega) hv) h.n6 h.h9 (fun d hd => by rw [upd_ne (by omega), upd_ne (by omega), upd_ne (by omega)]; exact h.dd hd) (fun q hq => by rw [upd_ne (by omega)]; exact h.pm hq) (by rw [upd_ne (by omega)]; exact h.e4)
theorem SOk.addP {r : Nat → Int32} (h : SOk r) {a b c : Int32} (hN : nN r < 6) (ha : RmI a) (hb : RmI b) (hc : FgI c) : SOk (adP r (nN r) a b c) := by
  have h9 := h.d9
  have ht : ∀ i, i ≠ 1 → i < 50 + 3 * nN r → adP r (nN r) a b c i = r i := fun i h1 h2 => by unfold adP; rw [upd_ne h1, upd_ne (by omega), upd_ne (by omega), upd_ne (by omega)]
  refine SOk.of (h.1.add (by omega) ha hb) (by omega) h.h9 (fun d hd => by rw [ht _ (by omega) (by omega), ht _ (by omega) (by omega), ht _ (by omega) (by omega)]; exact h.dd hd) (fun q hq => ?_) (by rw [ht _ (by omega) (by omega)]; exact h.e4)
  by_cases e : q = nN r
  · rw [e]; unfold adP; rw [upd_ne (by omega), upd_eq]; exact hc
  · rw [ht _ (by omega) (by omega)]; exact h.pm (by omega)
def adL (r : Nat → Int32) (D : Nat) (nu : Nat → Int32) : Nat → (Nat → Int32)
  | 0 => r
  | k + 1 => upd (adL r D nu k) (5 + 5 * D + k) (nu k)
def adD (r : Nat → Int32) (D : Nat) (nu : Nat → Int32) : Nat → Int32 := upd (upd (adL r D nu 4) (9 + 5 * D) 0) 0 (nI (D + 1))
theorem adL_ne {r : Nat → Int32} {D : Nat} {nu : Nat → Int32} {i : Nat} (h : i < 5 + 5 * D ∨ 9 + 5 * D ≤ i) : ∀ k, k ≤ 4 → adL r D nu k i = r i
  | 0, _ => rfl
  | k + 1, hk => by rw [adL, upd_ne (by omega)]; exact adL_ne h k (by omega)
theorem adD_ne {r : Nat → Int32} {D : Nat} {nu : Nat → Int32} {i : Nat} (h : (i < 5 + 5 * D ∧ i ≠ 0) ∨ 10 + 5 * D ≤ i) : adD r D nu i = r i := by
  unfold adD; rw [upd_ne (by omega), upd_ne (by omega)]; exact adL_ne (by omega) 4 (by omega)
theorem adD_at {r : Nat → Int32} {D : Nat} {nu : Nat → Int32} : adD r D nu (5 + 5 * D) = nu 0 ∧ adD r D nu (6 + 5 * D) = nu 1 ∧ adD r D nu (7 + 5 * D) = nu 2 ∧ adD r D nu (8 + 5 * D) = nu 3 ∧ adD r D nu (9 + 5 * D) = 0 ∧ adD r D nu 0 = nI (D + 1) := by
  refine ⟨?_, ?_, ?_, ?_, ?_, ?_⟩ <;> unfold adD
  · rw [upd_ne (by omega), upd_ne (by omega), adL, upd_ne (by omega), adL, upd_ne (by omega), adL, upd_ne (by omega), adL]; exact upd_eq
  · rw [upd_ne (by omega), upd_ne (by omega), adL, upd_ne (by omega), adL, upd_ne (by omega), adL, show 5 + 5 * D + 1 = 6 + 5 * D by omega]; exact upd_eq
  · rw [upd_ne (by omega), upd_ne (by omega), adL, upd_ne (by omega), adL, show 5 + 5 * D + 2 = 7 + 5 * D by omega]; exact upd_eq
  · rw [upd_ne (by omega), upd_ne (by omega), adL, show 5 + 5 * D + 3 = 8 + 5 * D by omega]; exact upd_eq
  · rw [upd_ne (by omega)]; exact upd_eq
  · exact upd_eq
theorem SOk.addD {r : Nat → Int32} (h : SOk r) {nu : Nat → Int32} (hD : dN r < 9) (h0 : KdI (nu 0)) (h1 : FgI (nu 1)) (h2 : RmI (nu 2)) (h3 : RmI (nu 3)) (h4 : nu 2 ≠ nu 3) : SOk (adD r (dN r) nu) := by
  have h6 := h.n6
  obtain ⟨a0, a1, a2, a3, a4, a5⟩ := adD_at (r := r) (D := dN r) (nu := nu)
  have hM : MOk (adD r (dN r) nu) (dN r + 1) (nN r) (cN (r 2)) := by
    refine ⟨⟨a5, by omega, by rw [adD_ne (by omega)]; exact h.e1, by omega, fun p hp => by rw [adD_ne (by omega), adD_ne (by omega)]; exact h.1.1.2.2.2.2.1 p hp, fun d hd => ?_⟩, fun d hd => ?_, by rw [adD_ne (by omega)]; exact h.e2⟩
    · by_cases e : d = dN r
      · rw [e, a2, a3]; exact ⟨h2, h3⟩
      · rw [adD_ne (by omega), adD_ne (by omega)]; exact h.1.1.2.2.2.2.2 d (by omega)
    · by_cases e : d = dN r
      · rw [e, a0, a1]; exact ⟨h0, h1⟩
      · rw [adD_ne (by omega), adD_ne (by omega)]; exact h.1.2.1 d (by omega)
  refine SOk.of hM h.n6 h.h9 (fun d hd => ?_) (fun p hp => by rw [adD_ne (by omega)]; exact h.pm hp) (by rw [adD_ne (by omega)]; exact h.e4)
  by_cases e : d = dN r
  · rw [e, a2, a3, a4]; exact ⟨h4, Or.inl rfl⟩
  · rw [adD_ne (by omega), adD_ne (by omega), adD_ne (by omega)]; exact h.dd (by omega)
theorem pstepM_ne {g : Nat → Nat} {D N : Nat} {r : Nat → Int32} {p i : Nat} (h : i ≠ 50 + 3 * p) (h2 : i ≠ 52 + 3 * p) (h3 : i ≠ 3) : pstepM g D N r p i = r i := by
  unfold pstepM
  repeat' split
  · rfl
  · rfl
  · rw [upd_ne h2]
  · rw [upd_ne h3, upd_ne h]
theorem hstepM_ne {g : Nat → Nat} {D N : Nat} {r : Nat → Int32} {i : Nat} (h3 : i ≠ 3) : ∀ k, (∀ p, p < k → i ≠ 50 + 3 * p ∧ i ≠ 52 + 3 * p) → hstepM g D N r k i = r i
  | 0, _ => rfl
  | k + 1, h => by rw [hstepM, pstepM_ne (h k (by omega)).1 (h k (by omega)).2 h3]; exact hstepM_ne h3 k (fun p hp => h p (by omega))
theorem hoursM_ne {g : Nat → Nat} {D N : Nat} {r : Nat → Int32} {i : Nat} (h3 : i ≠ 3) (h2 : i ≠ 2) (h : ∀ p, p < N → i ≠ 50 + 3 * p ∧ i ≠ 52 + 3 * p) : ∀ k, hoursM g D N r k i = r i
  | 0 => rfl
  | k + 1 => by rw [hoursM, hourM, hstepM_ne h3 N h, upd_ne h2]; exact hoursM_ne h3 h2 h k
theorem FgI.pred {x : Int32} (h : FgI x) (hx : ¬ x ≤ 0) : FgI (x - 1) := by
  obtain ⟨a, ha, rfl⟩ := h
  match a, ha with
  | 0, _ => exact absurd (by decide) hx
  | a + 1, ha => exact ⟨a, by omega, nI_pred a⟩
theorem pstepM_mood {g : Nat → Nat} {D N : Nat} {r : Nat → Int32} {p q : Nat} (h : FgI (r (52 + 3 * q))) : FgI (pstepM g D N r p (52 + 3 * q)) := by
  unfold pstepM
  repeat' split
  · exact h
  · exact h
  · by_cases e : q = p
    · subst e; rw [upd_eq]; exact h.pred (by assumption)
    · rw [upd_ne (by omega)]; exact h
  · rw [upd_ne (by omega), upd_ne (by omega)]; exact h
theorem hstepM_mood {g : Nat → Nat} {D N : Nat} {r : Nat → Int32} {q : Nat} (h : FgI (r (52 + 3 * q))) : ∀ k, FgI (hstepM g D N r k (52 + 3 * q))
  | 0 => h
  | k + 1 => pstepM_mood (hstepM_mood h k)
theorem hoursM_mood {g : Nat → Nat} {D N : Nat} {r : Nat → Int32} {q : Nat} (h : FgI (r (52 + 3 * q))) : ∀ k, FgI (hoursM g D N r k (52 + 3 * q))
  | 0 => h
  | k + 1 => hstepM_mood (by rw [upd_ne (by omega)]; exact hoursM_mood h k) N
theorem SOk.hrsOk {r : Nat → Int32} (h : SOk r) {n : Nat} (hn : cN (r 2) + n ≤ 999) : SOk (hrs r n) := by
  have h6 := h.n6
  have h9 := h.d9
  have e : ∀ i, i < 50 → i ≠ 3 → i ≠ 2 → hrs r n i = r i := fun i h1 h2 h3 => hoursM_ne h2 h3 (fun p hp => by omega) n
  exact SOk.of (h.1.hours n) h.n6 hn (fun d hd => by rw [e _ (by omega) (by omega) (by omega), e _ (by omega) (by omega) (by omega), e _ (by omega) (by omega) (by omega)]; exact h.dd hd) (fun p hp => hoursM_mood (h.pm hp) n) (by rw [e _ (by omega) (by omega) (by omega)]; exact h.e4)
