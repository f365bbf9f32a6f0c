/-! WHAT STAYS: every call answers a number and leaves a town as a town must be -/
def Inv (σ : St) : Prop := SOk σ.1 ∧ SOk σ.2.1 ∧ σ.2.2.2.2.1 ≤ 96 ∧ σ.2.2.2.2.2.2.1 ≤ 16
def GI (res : Res) : Prop := (∃ v : Int32, res.1 = some (.int v)) ∧ Inv res.2
def GL (res : Res) : Prop := (∃ v : Int64, res.1 = some (.long v)) ∧ Inv res.2
theorem gi_no {σ : St} {k : Nat} (h : Inv σ) : GI (noR σ k) := by
  obtain ⟨r, im, hi, lt, L, rw, R, rf⟩ := σ
  exact ⟨⟨_, rfl⟩, h⟩
theorem gl_no {σ : St} {k : Nat} (h : Inv σ) : GL (noL σ k) := by
  obtain ⟨r, im, hi, lt, L, rw, R, rf⟩ := σ
  exact ⟨⟨_, rfl⟩, h⟩
theorem gi_same {σ : St} {v : Int32} (h : Inv σ) : GI (some (.int v), σ) := ⟨⟨_, rfl⟩, h⟩
theorem gl_same {σ : St} {v : Int64} (h : Inv σ) : GL (some (.long v), σ) := ⟨⟨_, rfl⟩, h⟩
theorem gi_r {σ : St} {v : Int32} {r : Nat → Int32} (h : Inv σ) (hr : SOk r) : GI (some (.int v), stR σ r) := ⟨⟨_, rfl⟩, hr, h.2⟩
theorem gi_wr {v : Int32} {M : Nat} {σ : St} {t : Res} (h : Inv σ) (ht : ¬ v < 0 → ¬ nI M < v → GI t) : GI (wrB v M σ t) := by
  unfold wrB
  split
  · exact gi_no h
  · split
    · exact gi_no h
    · exact ht (by assumption) (by assumption)
theorem g_door {d w : Int32} {σ : St} (h : Inv σ) : GI (s_door d w σ) := by
  unfold s_door
  (repeat' split) <;> first | exact gi_no h | exact gi_same h | exact gi_wr h (fun _ _ => by (repeat' split) <;> first | exact gi_no h | exact gi_same h)
theorem g_person {p w : Int32} {σ : St} (h : Inv σ) : GI (s_person p w σ) := by
  unfold s_person
  (repeat' split) <;> first | exact gi_no h | exact gi_same h | exact gi_wr h (fun _ _ => by (repeat' split) <;> first | exact gi_no h | exact gi_same h)
theorem g_personThen {p n w : Int32} {σ : St} (h : Inv σ) : GI (s_personThen p n w σ) := by
  unfold s_personThen
  (repeat' split) <;> first | exact gi_no h | exact gi_same h | exact gi_wr h (fun _ _ => by (repeat' split) <;> first | exact gi_no h | exact gi_same h)
theorem g_letThen {n : Int32} {σ : St} (h : Inv σ) : GI (s_letThen n σ) := by
  unfold s_letThen
  (repeat' split) <;> first | exact gi_no h | exact gi_same h | exact gi_wr h (fun _ _ => by (repeat' split) <;> first | exact gi_no h | exact gi_same h)
theorem g_comes {p x : Int32} {σ : St} (h : Inv σ) : GI (s_comes p x σ) := by
  unfold s_comes
  (repeat' split) <;> first | exact gi_no h | exact gi_same h | exact gi_wr h (fun _ _ => by (repeat' split) <;> first | exact gi_no h | exact gi_same h)
theorem g_home {p : Int32} {σ : St} (h : Inv σ) : GI (s_home p σ) := by
  unfold s_home
  (repeat' split) <;> first | exact gi_no h | exact gi_same h | exact gi_wr h (fun _ _ => by (repeat' split) <;> first | exact gi_no h | exact gi_same h)
theorem g_shutIn {σ : St} (h : Inv σ) : GI (s_shutIn  σ) := by
  unfold s_shutIn
  (repeat' split) <;> first | exact gi_no h | exact gi_same h | exact gi_wr h (fun _ _ => by (repeat' split) <;> first | exact gi_no h | exact gi_same h)
theorem g_stuck {σ : St} (h : Inv σ) : GI (s_stuck  σ) := by
  unfold s_stuck
  (repeat' split) <;> first | exact gi_no h | exact gi_same h | exact gi_wr h (fun _ _ => by (repeat' split) <;> first | exact gi_no h | exact gi_same h)
theorem g_way {x y w : Int32} {σ : St} (h : Inv σ) : GI (s_way x y w σ) := by
  unfold s_way
  (repeat' split) <;> first | exact gi_no h | exact gi_same h | exact gi_wr h (fun _ _ => by (repeat' split) <;> first | exact gi_no h | exact gi_same h)
theorem g_round {x : Int32} {σ : St} (h : Inv σ) : GI (s_round x σ) := by
  unfold s_round
  (repeat' split) <;> first | exact gi_no h | exact gi_same h | exact gi_wr h (fun _ _ => by (repeat' split) <;> first | exact gi_no h | exact gi_same h)
theorem g_reach {x : Int32} {σ : St} (h : Inv σ) : GI (s_reach x σ) := by
  unfold s_reach
  (repeat' split) <;> first | exact gi_no h | exact gi_same h | exact gi_wr h (fun _ _ => by (repeat' split) <;> first | exact gi_no h | exact gi_same h)
theorem g_open {σ : St} (h : Inv σ) : GI (s_open  σ) := by
  unfold s_open
  (repeat' split) <;> first | exact gi_no h | exact gi_same h | exact gi_wr h (fun _ _ => by (repeat' split) <;> first | exact gi_no h | exact gi_same h)
theorem g_helper {n w : Int32} {σ : St} (h : Inv σ) : GI (s_helper n w σ) := by
  unfold s_helper
  (repeat' split) <;> first | exact gi_no h | exact gi_same h | exact gi_wr h (fun _ _ => by (repeat' split) <;> first | exact gi_no h | exact gi_same h)
theorem g_fewest {p n : Int32} {σ : St} (h : Inv σ) : GI (s_fewest p n σ) := by
  unfold s_fewest
  (repeat' split) <;> first | exact gi_no h | exact gi_same h | exact gi_wr h (fun _ _ => by (repeat' split) <;> first | exact gi_no h | exact gi_same h)
theorem g_holds {n w : Int32} {σ : St} (h : Inv σ) : GI (s_holds n w σ) := by
  unfold s_holds
  (repeat' split) <;> first | exact gi_no h | exact gi_same h | exact gi_wr h (fun _ _ => by (repeat' split) <;> first | exact gi_no h | exact gi_same h)
theorem g_crowd {w : Int32} {σ : St} (h : Inv σ) : GI (s_crowd w σ) := by
  unfold s_crowd
  (repeat' split) <;> first | exact gi_no h | exact gi_same h | exact gi_wr h (fun _ _ => by (repeat' split) <;> first | exact gi_no h | exact gi_same h)
theorem g_handles {x : Int32} {σ : St} (h : Inv σ) : GI (s_handles x σ) := by
  unfold s_handles
  (repeat' split) <;> first | exact gi_no h | exact gi_same h | exact gi_wr h (fun _ _ => by (repeat' split) <;> first | exact gi_no h | exact gi_same h)
theorem g_two {x y n : Int32} {σ : St} (h : Inv σ) : GI (s_two x y n σ) := by
  unfold s_two
  (repeat' split) <;> first | exact gi_no h | exact gi_same h | exact gi_wr h (fun _ _ => by (repeat' split) <;> first | exact gi_no h | exact gi_same h)
theorem g_lots {n z w : Int32} {σ : St} (h : Inv σ) : GI (s_lots n z w σ) := by
  unfold s_lots
  (repeat' split) <;> first | exact gi_no h | exact gi_same h | exact gi_wr h (fun _ _ => by (repeat' split) <;> first | exact gi_no h | exact gi_same h)
theorem g_bestDoor {wg : Bool} {n : Int32} {σ : St} (h : Inv σ) : GI (s_bestDoor wg n σ) := by
  unfold s_bestDoor
  (repeat' split) <;> first | exact gi_no h | exact gi_same h | exact gi_wr h (fun _ _ => by (repeat' split) <;> first | exact gi_no h | exact gi_same h)
theorem g_whatIs {p d w : Int32} {σ : St} (h : Inv σ) : GI (s_whatIs p d w σ) := by
  obtain ⟨r, im, hi, lt, L, rw, R, rf⟩ := σ
  simp only [s_whatIs]
  (repeat' split) <;> first | exact gi_no h | exact gi_same h
theorem g_count {w : Int32} {σ : St} (h : Inv σ) : GI (s_count w σ) := by
  obtain ⟨r, im, hi, lt, L, rw, R, rf⟩ := σ
  simp only [s_count]
  (repeat' split) <;> first | exact gi_no h | exact gi_same h
theorem g_mean {p : Int32} {σ : St} (h : Inv σ) : GL (s_mean p σ) := by
  unfold s_mean
  split
  · exact gl_same h
  · exact gl_no h
theorem g_fire {p x n t w : Int32} {σ : St} (h : Inv σ) : GL (s_fire p x n t w σ) := by
  unfold s_fire
  split
  · split
    · exact gl_no h
    · split
      · exact gl_no h
      · split
        · exact gl_same h
        · exact gl_no h
  · exact gl_no h
theorem g_meet {w : Int32} {σ : St} (h : Inv σ) : GI (s_meet w σ) := by
  unfold s_meet
  split
  · exact gi_same h
  · exact gi_no h
theorem g_letter {c : Int32} {σ : St} (h : Inv σ) : GI (s_letter c σ) := by
  obtain ⟨r, im, hi, lt, L, rw, R, rf⟩ := σ
  simp only [s_letter]
  split
  · exact gi_no h
  · split
    · exact gi_no h
    · rename_i c1 c2
      have hL : L ≤ 96 := h.2.2.1
      have hne : ¬ L = 96 := fun e => c2 (Or.inr e)
      exact ⟨⟨_, rfl⟩, h.1, h.2.1, show L + 1 ≤ 96 by omega, h.2.2.2⟩
theorem g_row {v : Int32} {σ : St} (h : Inv σ) : GI (s_row v σ) := by
  obtain ⟨r, im, hi, lt, L, rw, R, rf⟩ := σ
  simp only [s_row]
  split
  · exact gi_no h
  · split
    · exact gi_no h
    · rename_i c1 c2
      have hL : R ≤ 16 := h.2.2.2
      have hne : ¬ R = 16 := fun e => c2 (Or.inr e)
      exact ⟨⟨_, rfl⟩, h.1, h.2.1, h.2.2.1, show R + 1 ≤ 16 by omega⟩
theorem g_judge {σ : St} (h : Inv σ) : GI (s_judge σ) := by
  obtain ⟨r, im, hi, lt, L, rw, R, rf⟩ := σ
  exact ⟨⟨_, rfl⟩, h.1, h.2.1, h.2.2.1, Nat.zero_le _⟩
theorem g_clear {σ : St} (h : Inv σ) : GI (s_clear σ) := by
  obtain ⟨r, im, hi, lt, L, rw, R, rf⟩ := σ
  exact ⟨⟨_, rfl⟩, h.1, h.2.1, h.2.2.1, Nat.zero_le _⟩
theorem g_image {σ : St} (h : Inv σ) : GI (s_image σ) := by
  obtain ⟨r, im, hi, lt, L, rw, R, rf⟩ := σ
  exact ⟨⟨_, rfl⟩, h.1, h.1, h.2.2⟩
theorem g_on {σ : St} (h : Inv σ) : GI (s_on σ) := by
  obtain ⟨r, im, hi, lt, L, rw, R, rf⟩ := σ
  simp only [s_on]
  split
  · exact gi_no h
  · exact ⟨⟨_, rfl⟩, h.2.1, h.2.1, h.2.2⟩
theorem xo1 {x : Int32} (h : x = 0 ∨ x = 1) : x ^^^ 1 = 0 ∨ x ^^^ 1 = 1 := by rcases h with h | h <;> subst h <;> decide
theorem g_wedges {d : Int32} {σ : St} (h : Inv σ) : GI (s_wedges d σ) := by
  unfold s_wedges
  split
  · rename_i c
    obtain ⟨d, hd, rfl⟩ := inR_yes (by have := h.1.d9; omega) c
    rw [cN_nI (by have := h.1.d9; omega)]
    exact gi_r h (h.1.wedge hd (xo1 (h.1.dd hd).2))
  · exact gi_no h
theorem g_turns {d : Int32} {σ : St} (h : Inv σ) : GI (s_turns d σ) := by
  unfold s_turns
  split
  · rename_i c
    obtain ⟨d, hd, rfl⟩ := inR_yes (by have := h.1.d9; omega) c
    rw [cN_nI (by have := h.1.d9; omega)]
    exact gi_r h (h.1.turn hd)
  · exact gi_no h
theorem g_stands {p x : Int32} {σ : St} (h : Inv σ) : GI (s_sets 50 p x σ) := by
  unfold s_sets
  split
  · rename_i c
    simp only [Bool.and_eq_true] at c
    obtain ⟨d, hd, rfl⟩ := inR_yes (by have := h.1.n6; omega) c.1
    rw [cN_nI (by have := h.1.n6; omega)]
    exact gi_r h (h.1.room hd (inR_RmI c.2))
  · exact gi_no h
theorem g_wants {p x : Int32} {σ : St} (h : Inv σ) : GI (s_sets 51 p x σ) := by
  unfold s_sets
  split
  · rename_i c
    simp only [Bool.and_eq_true] at c
    obtain ⟨d, hd, rfl⟩ := inR_yes (by have := h.1.n6; omega) c.1
    rw [cN_nI (by have := h.1.n6; omega)]
    exact gi_r h (h.1.goal hd (inR_RmI c.2))
  · exact gi_no h
theorem fg9 {v : Int32} (h1 : ¬ v < 0) (h2 : ¬ nI 9 < v) : FgI v := nI_of2 (M := nI 9) (n := 9) (nI_toInt (by omega)) h1 (Int32.not_lt.mp h2)
theorem g_moods {p v : Int32} {σ : St} (h : Inv σ) : GI (s_moods p v σ) := by
  unfold s_moods
  split
  · exact gi_wr h (fun h1 h2 => gi_r h (h.1.mood (fg9 h1 h2)))
  · exact gi_no h
theorem g_changes {d k f : Int32} {σ : St} (h : Inv σ) : GI (s_changes d k f σ) := by
  unfold s_changes
  split
  · rename_i c
    split
    · rename_i c2
      refine gi_wr h (fun h1 h2 => gi_r h ?_)
      obtain ⟨e, he, rfl⟩ := inR_yes (by have := h.1.d9; omega) c
      obtain ⟨a, ha, rfl⟩ := inR_yes (by omega) c2
      rw [cN_nI (by have := h.1.d9; omega)]
      exact (h.1.kind he ⟨a, by omega, rfl⟩).fig (by unfold dN; rw [upd_ne (by omega)]; exact he) (fg9 h1 h2)
    · exact gi_no h
  · exact gi_no h
theorem g_hours {n : Int32} {σ : St} (h : Inv σ) : GI (s_hours n σ) := by
  unfold s_hours
  split
  · exact gi_no h
  · split
    · exact gi_no h
    · rename_i c1 c2
      have hS := h.1
      refine gi_r h ?_
      obtain ⟨q, h1, h2, rfl⟩ := rng1 (b := 60) (by omega) c1 (fun z => c2 (Or.inl z))
      have h9 := hS.h9
      have hq : ¬ (999 : Int32) < σ.1 2 + nI q := fun z => c2 (Or.inr z)
      rw [hS.e2, nI_add] at hq
      rw [cN_nI (by omega)]
      exact hS.hrsOk (Nat.not_lt.mp (fun z => hq ((nI_ltI (a := 999) (by omega) (by omega)).mpr z)))
theorem dnQ_ok {lt : Nat → Int32} {L : Nat} : ∀ (q s : Nat) (r : Nat → Int32), SOk r → (s < L → ∃ q2 n2, L - s < q2 ∧ (shQ lt L q2 s n2).1 = none) → SOk (dnQ lt L q s r).2
  | 0, s, r, hS, _ => hS
  | q + 1, s, r, hS, hG => by
    rw [dnQ]
    split
    · rename_i hlt
      obtain ⟨q2, n2, hq2, hG2⟩ := hG hlt
      match q2, hq2, hG2 with
      | 0, hq2, _ => omega
      | q2 + 1, hq2, hG2 =>
        rw [shQ] at hG2
        have hb : gdB lt L s = true := by
          cases hb : gdB lt L s with
          | true => rfl
          | false => rw [hb] at hG2; simp at hG2
        rw [if_pos hb] at hG2
        obtain ⟨hl1, hl2⟩ := gd_len hb
        split
        · exact hS
        · rename_i r2 hr2
          refine dnQ_ok q _ r2 (dn_ok hS hb hr2) (fun h => ⟨q2, n2 + 1, tsub1 hq2 hlt hl2, ?_⟩)
          rw [if_pos h] at hG2; exact hG2
    · exact hS
theorem g_town {σ : St} (h : Inv σ) : GI (s_town σ) := by
  obtain ⟨r, im, hi, lt, L, rw, R, rf⟩ := σ
  simp only [s_town]
  split
  · exact ⟨⟨_, rfl⟩, h.1, h.2.1, Nat.zero_le _, h.2.2.2⟩
  · rename_i hn
    refine ⟨⟨_, rfl⟩, ?_, h.2.1, Nat.zero_le _, h.2.2.2⟩
    show SOk (dnW r (dnQ lt L 97 0 r))
    unfold dnW
    split
    · exact dnQ_ok 97 0 r h.1 (fun _ => ⟨97, 0, by have : L ≤ 96 := h.2.2.1; omega, hn⟩)
    · exact h.1
theorem SOk_z : SOk z0 := by
  refine SOk.of (D := 0) (N := 0) (h := 0) ⟨⟨rfl, by omega, rfl, by omega, fun p hp => by omega, fun d hd => by omega⟩, fun d hd => by omega, rfl⟩ (by omega) (by omega) (fun d hd => by omega) (fun p hp => by omega) rfl
theorem Inv_z : Inv (z0, z0, 0, z0, 0, z0, 0, z0) := ⟨SOk_z, SOk_z, Nat.zero_le _, Nat.zero_le _⟩
