theorem lenC_out {c : Int32} (h : c.toInt < 100 ∨ 119 < c.toInt) : lenC c = 0 := by
  unfold lenC
  rw [if_neg (sw_ne h 100 (by decide)), if_neg (sw_ne h 112 (by decide)), if_neg (fun e => by rcases e with e | e | e; exact sw_ne h 103 (by decide) e; exact sw_ne h 114 (by decide) e; exact sw_ne h 104 (by decide) e), if_neg (fun e => by rcases e with e | e; exact sw_ne h 119 (by decide) e; exact sw_ne h 116 (by decide) e)]
theorem lenC_ne1 (c : Int32) : ¬ lenC c = 1 := by
  unfold lenC
  (repeat' split) <;> decide
theorem ftB_m1 {c : Int32} {j : Nat} : ftB c j (-1) = false := by
  unfold ftB
  (repeat' split) <;> decide
theorem kd_nn {x : Int32} (h : ¬ kdF x = -9) : ¬ kdF x < 0 := by
  intro q
  apply h
  revert q
  unfold kdF
  (repeat' split) <;> decide
theorem gd_in {lt : Nat → Int32} {L s : Nat} (h : gdB lt L s = true) : ∀ j, 1 ≤ j → j < lenC (hrF lt L s) → s + j < L := fun j h1 h2 => by
  have q := gd_ft h j h1 h2
  by_cases c : s + j < L
  · exact c
  · rw [hrF_ge c, ftB_m1] at q; cases q
abbrev lG (lt : Nat → Int32) (lm : Int32) : PW := [.inr (1, [.ref 1]), .inr (2, [.ref 2, .int lm]), .inl (96, lt)]
def fsB (lt : Nat → Int32) (s j : Nat) : Bool := if j = 0 then !decide (lenC (lt s) = 0) else ftB (lt s) j (lt (s + j))
def sfV : Option Nat → Int32
  | none => -9
  | some f => nI f
/-- the first reading has come to statement s, letter j of it; V is what it will say -/
def SH (lt : Nat → Int32) (L : Nat) (V : Option Nat) (s j : Nat) : Prop := (s < L ∧ (∃ q n, L - s < q ∧ (shQ lt L q s n).1 = V) ∧ (j = 0 ∨ (j < lenC (lt s) ∧ bdJ lt L s = fjS lt L s (lt s) (lenC (lt s) - j) j))) ∨ (s = L ∧ j = 0 ∧ V = none ∧ L ≠ 0) ∨ (L = 0 ∧ s = 0 ∧ j = 0 ∧ V = some 0)
theorem SH.len {lt : Nat → Int32} {L s j : Nat} {V : Option Nat} (h : SH lt L V s j) : j = 0 ∨ 0 < lenC (lt s) := by
  rcases h with ⟨_, _, h | ⟨h, _⟩⟩ | ⟨_, h, _⟩ | ⟨_, _, h, _⟩
  · exact Or.inl h
  · exact Or.inr (by omega)
  · exact Or.inl h
  · exact Or.inl h
theorem fsB_0 {lt : Nat → Int32} {s : Nat} {b : Bool} (h : fsB lt s 0 = b) : (!decide (lenC (lt s) = 0)) = b := by
  rw [fsB, if_pos rfl] at h; exact h
theorem SH.bad {lt : Nat → Int32} {L s j : Nat} {V : Option Nat} (h : SH lt L V s j) (hlt : s + j < L) (hf : fsB lt s j = false) : V = some (s + j) := by
  rcases h with ⟨h1, ⟨q, n, hq, hV⟩, hj⟩ | ⟨h1, h2, _⟩ | ⟨h1, h2, h3, _⟩
  · have hc : hrF lt L s = lt s := hrF_lt h1
    match q, hq, hV with
    | 0, hq, _ => omega
    | q + 1, hq, hV =>
      have hb : bdJ lt L s = j ∧ gdB lt L s = false := by
        by_cases e : j = 0
        · subst e
          have e0 : lenC (lt s) = 0 := by simpa using fsB_0 hf
          exact ⟨by rw [bdJ, hc, if_pos e0], by rw [gdB, hc, decide_eq_true e0]; rfl⟩
        · rcases hj with hj | ⟨h3, h4⟩
          · exact absurd hj e
          · have hf2 : ftB (lt s) j (lt (s + j)) = false := by rwa [fsB, if_neg e] at hf
            have e2 : bdJ lt L s = j := by
              rw [h4, show lenC (lt s) - j = (lenC (lt s) - j - 1) + 1 by omega, fjS, hrF_lt hlt, hf2, if_neg (by decide)]
            exact ⟨e2, by rw [gdB, hc, e2, decide_eq_false (show ¬ j = lenC (lt s) by omega), Bool.and_false]⟩
      rw [shQ, hb.2, if_neg (by decide), hb.1] at hV
      exact hV.symm
  · omega
  · omega
theorem SH.next {lt : Nat → Int32} {L s j : Nat} {V : Option Nat} (h : SH lt L V s j) (hlt : s + j < L) (hf : fsB lt s j = true) (hne : ¬ j + 1 = lenC (lt s)) : SH lt L V s (j + 1) := by
  rcases h with ⟨h1, hq, hj⟩ | ⟨h1, h2, _⟩ | ⟨h1, h2, h3, _⟩
  · have hc : hrF lt L s = lt s := hrF_lt h1
    refine Or.inl ⟨h1, hq, Or.inr ?_⟩
    by_cases e : j = 0
    · subst e
      have e0 : ¬ lenC (lt s) = 0 := by simpa using fsB_0 hf
      exact ⟨by omega, by rw [bdJ, hc, if_neg e0]⟩
    · rcases hj with hj | ⟨h3, h4⟩
      · exact absurd hj e
      · have hf2 : ftB (lt s) j (lt (s + j)) = true := by rwa [fsB, if_neg e] at hf
        exact ⟨by omega, by rw [h4, show lenC (lt s) - j = (lenC (lt s) - (j + 1)) + 1 by omega, fjS, hrF_lt hlt, if_pos hf2]⟩
  · omega
  · omega
theorem SH.done {lt : Nat → Int32} {L s j : Nat} {V : Option Nat} (h : SH lt L V s j) (hlt : s + j < L) (hf : fsB lt s j = true) (he : j + 1 = lenC (lt s)) : SH lt L V (s + j + 1) 0 := by
  rcases h with ⟨h1, ⟨q, n, hq, hV⟩, hj⟩ | ⟨h1, h2, _⟩ | ⟨h1, h2, h3, _⟩
  · have hc : hrF lt L s = lt s := hrF_lt h1
    have e : ¬ j = 0 := fun e => lenC_ne1 (lt s) (by omega)
    rcases hj with hj | ⟨h3, h4⟩
    · exact absurd hj e
    · have hf2 : ftB (lt s) j (lt (s + j)) = true := by rwa [fsB, if_neg e] at hf
      have e2 : bdJ lt L s = lenC (lt s) := by
        rw [h4, show lenC (lt s) - j = 0 + 1 by omega, fjS, hrF_lt hlt, if_pos hf2, fjS, he]
      have hb : gdB lt L s = true := by rw [gdB, hc, e2, decide_eq_true rfl, decide_eq_false (show ¬ lenC (lt s) = 0 by omega)]; rfl
      match q, hq, hV with
      | 0, hq, _ => omega
      | q + 1, hq, hV =>
        rw [shQ, if_pos hb, hc] at hV
        by_cases hl : s + lenC (lt s) < L
        · rw [if_pos hl] at hV
          exact Or.inl ⟨by omega, ⟨q, n + 1, by omega, by rw [show s + j + 1 = s + lenC (lt s) by omega]; exact hV⟩, Or.inl rfl⟩
        · rw [if_neg hl] at hV
          exact Or.inr (Or.inl ⟨by omega, rfl, hV.symm, by omega⟩)
  · omega
  · omega
theorem SH.end0 {lt : Nat → Int32} {L s j : Nat} {V : Option Nat} (h : SH lt L V s j) (z : L = 0) : V = some 0 := by
  rcases h with ⟨h1, _, _⟩ | ⟨_, _, _, h⟩ | ⟨_, _, _, h⟩
  · omega
  · exact absurd z h
  · exact h
theorem SH.endS {lt : Nat → Int32} {L s j : Nat} {V : Option Nat} (h : SH lt L V s j) (z : ¬ L = 0) (g : L ≤ s) : V = none := by
  rcases h with ⟨h1, _, _⟩ | ⟨_, _, h, _⟩ | ⟨h, _, _, _⟩
  · omega
  · exact h
  · exact absurd h z
theorem SH.endI {lt : Nat → Int32} {L s j : Nat} {V : Option Nat} (h : SH lt L V s j) (e : s + j = L) (g : s < L) : V = some L := by
  rcases h with ⟨h1, ⟨q, n, hq, hV⟩, hj⟩ | ⟨h1, _, _⟩ | ⟨h1, _⟩
  · have hc : hrF lt L s = lt s := hrF_lt h1
    rcases hj with hj | ⟨h3, h4⟩
    · omega
    · have e2 : bdJ lt L s = j := by
        rw [h4, show lenC (lt s) - j = (lenC (lt s) - j - 1) + 1 by omega, fjS, hrF_ge (by omega), ftB_m1, if_neg (by decide)]
      have hb : gdB lt L s = false := by rw [gdB, hc, e2, decide_eq_false (show ¬ j = lenC (lt s) by omega), Bool.and_false]
      match q, hq, hV with
      | 0, hq, _ => omega
      | q + 1, hq, hV =>
        rw [shQ, hb, if_neg (by decide), e2, e] at hV
        exact hV.symm
  · omega
  · omega
theorem SH.begin {lt : Nat → Int32} {L : Nat} (hL : L ≤ 96) : SH lt L (shQ lt L 97 0 0).1 0 0 := by
  by_cases z : L = 0
  · refine Or.inr (Or.inr ⟨z, rfl, rfl, ?_⟩)
    subst z
    have hc : hrF lt 0 0 = -1 := hrF_ge (by omega)
    have hb : gdB lt 0 0 = false := by rw [gdB, hc]; rfl
    rw [shQ, hb, if_neg (by decide), bdJ, hc]; rfl
  · exact Or.inl ⟨by omega, ⟨97, 0, by omega, rfl⟩, Or.inl rfl⟩
theorem tX1_lengthAt {lt : Nat → Int32} {lm : Int32} {s : Nat} (hs : s < 96) : PD mX1_lengthAt [.ref 0, .int (nI s)] (lG lt lm) (some (.int (nI (lenC (lt s))))) (lG lt lm) := by
  refine PM.ofp 0 (by decide) (Nat.le_of_ble_eq_true rfl) ?_
  show Ok mX1_lengthAt none 0 [some (.ref 0), some (.int (nI s))] [] (lG lt lm) 0 0 _
  refine o_aload_n dX1_lengthAt_0 rfl rfl ?_
  refine o_getf (j := 0) dX1_lengthAt_1 rfl hcX1 inX1 (Nat.le_of_ble_eq_true rfl) wd197 rfl rfl ?_
  refine o_getf (j := 0) dX1_lengthAt_4 rfl hcX2 inX2 (Nat.le_of_ble_eq_true rfl) wd187 rfl rfl ?_
  refine o_iload_n dX1_lengthAt_7 rfl rfl ?_
  refine o_callSNr (is := [2]) (at_f (by decide) rfl hs) ⟨rfl, rfl⟩ dX1_lengthAt_8 wd265 csX4_at rfl ⟨(Nat.le_of_ble_eq_true rfl), (Nat.le_of_ble_eq_true rfl)⟩ rfl rfl rfl (Nat.le_of_ble_eq_true rfl) (Nat.le_of_ble_eq_true rfl) (Nat.le_of_ble_eq_true rfl) ?_
  refine o_sw (lo := 100) (hi := 119) 20 (by decide) (by decide) (by decide) (fun hsw => ?_) (fun j hj hsw => ?_)
  · refine o_tabOut (tgt := 113) dX1_lengthAt_11 hsw (by decide) ?_
    refine o_iconst dX1_lengthAt_113 ic_0 ?_
    refine o_iret dX1_lengthAt_114 rfl (vp_nar_int _) (Nat.le_of_ble_eq_true rfl) (Nat.le_of_ble_eq_true rfl) ?_
    first | exact ⟨by rw [hsw]; rfl, rfl⟩ | exact ⟨by rw [lenC_out hsw]; rfl, rfl⟩
  · match j, hj, hsw with
    | 0, _, hsw =>
      refine o_tabInE (tgt := 104) (off := 93) dX1_lengthAt_11 hsw (by decide) (by decide) (by decide) (by decide) ?_
      have hsw := sw_eq (l := 100) hsw (by decide)
      refine o_bipush dX1_lengthAt_104 bp_6 ?_
      refine o_iret dX1_lengthAt_106 rfl (vp_nar_int _) (Nat.le_of_ble_eq_true rfl) (Nat.le_of_ble_eq_true rfl) ?_
      first | exact ⟨by rw [hsw]; rfl, rfl⟩ | exact ⟨by rw [lenC_out hsw]; rfl, rfl⟩
    | 1, _, hsw =>
      refine o_tabInE (tgt := 113) (off := 102) dX1_lengthAt_11 hsw (by decide) (by decide) (by decide) (by decide) ?_
      have hsw := sw_eq (l := 101) hsw (by decide)
      refine o_iconst dX1_lengthAt_113 ic_0 ?_
      refine o_iret dX1_lengthAt_114 rfl (vp_nar_int _) (Nat.le_of_ble_eq_true rfl) (Nat.le_of_ble_eq_true rfl) ?_
      first | exact ⟨by rw [hsw]; rfl, rfl⟩ | exact ⟨by rw [lenC_out hsw]; rfl, rfl⟩
    | 2, _, hsw =>
      refine o_tabInE (tgt := 113) (off := 102) dX1_lengthAt_11 hsw (by decide) (by decide) (by decide) (by decide) ?_
      have hsw := sw_eq (l := 102) hsw (by decide)
      refine o_iconst dX1_lengthAt_113 ic_0 ?_
      refine o_iret dX1_lengthAt_114 rfl (vp_nar_int _) (Nat.le_of_ble_eq_true rfl) (Nat.le_of_ble_eq_true rfl) ?_
      first | exact ⟨by rw [hsw]; rfl, rfl⟩ | exact ⟨by rw [lenC_out hsw]; rfl, rfl⟩
    | 3, _, hsw =>
      refine o_tabInE (tgt := 109) (off := 98) dX1_lengthAt_11 hsw (by decide) (by decide) (by decide) (by decide) ?_
      have hsw := sw_eq (l := 103) hsw (by decide)
      refine o_iconst dX1_lengthAt_109 ic_4 ?_
      refine o_iret dX1_lengthAt_110 rfl (vp_nar_int _) (Nat.le_of_ble_eq_true rfl) (Nat.le_of_ble_eq_true rfl) ?_
      first | exact ⟨by rw [hsw]; rfl, rfl⟩ | exact ⟨by rw [lenC_out hsw]; rfl, rfl⟩
    | 4, _, hsw =>
      refine o_tabInE (tgt := 109) (off := 98) dX1_lengthAt_11 hsw (by decide) (by decide) (by decide) (by decide) ?_
      have hsw := sw_eq (l := 104) hsw (by decide)
      refine o_iconst dX1_lengthAt_109 ic_4 ?_
      refine o_iret dX1_lengthAt_110 rfl (vp_nar_int _) (Nat.le_of_ble_eq_true rfl) (Nat.le_of_ble_eq_true rfl) ?_
      first | exact ⟨by rw [hsw]; rfl, rfl⟩ | exact ⟨by rw [lenC_out hsw]; rfl, rfl⟩
    | 5, _, hsw =>
      refine o_tabInE (tgt := 113) (off := 102) dX1_lengthAt_11 hsw (by decide) (by decide) (by decide) (by decide) ?_
      have hsw := sw_eq (l := 105) hsw (by decide)
      refine o_iconst dX1_lengthAt_113 ic_0 ?_
      refine o_iret dX1_lengthAt_114 rfl (vp_nar_int _) (Nat.le_of_ble_eq_true rfl) (Nat.le_of_ble_eq_true rfl) ?_
      first | exact ⟨by rw [hsw]; rfl, rfl⟩ | exact ⟨by rw [lenC_out hsw]; rfl, rfl⟩
    | 6, _, hsw =>
      refine o_tabInE (tgt := 113) (off := 102) dX1_lengthAt_11 hsw (by decide) (by decide) (by decide) (by decide) ?_
      have hsw := sw_eq (l := 106) hsw (by decide)
      refine o_iconst dX1_lengthAt_113 ic_0 ?_
      refine o_iret dX1_lengthAt_114 rfl (vp_nar_int _) (Nat.le_of_ble_eq_true rfl) (Nat.le_of_ble_eq_true rfl) ?_
      first | exact ⟨by rw [hsw]; rfl, rfl⟩ | exact ⟨by rw [lenC_out hsw]; rfl, rfl⟩
    | 7, _, hsw =>
      refine o_tabInE (tgt := 113) (off := 102) dX1_lengthAt_11 hsw (by decide) (by decide) (by decide) (by decide) ?_
      have hsw := sw_eq (l := 107) hsw (by decide)
      refine o_iconst dX1_lengthAt_113 ic_0 ?_
      refine o_iret dX1_lengthAt_114 rfl (vp_nar_int _) (Nat.le_of_ble_eq_true rfl) (Nat.le_of_ble_eq_true rfl) ?_
      first | exact ⟨by rw [hsw]; rfl, rfl⟩ | exact ⟨by rw [lenC_out hsw]; rfl, rfl⟩
    | 8, _, hsw =>
      refine o_tabInE (tgt := 113) (off := 102) dX1_lengthAt_11 hsw (by decide) (by decide) (by decide) (by decide) ?_
      have hsw := sw_eq (l := 108) hsw (by decide)
      refine o_iconst dX1_lengthAt_113 ic_0 ?_
      refine o_iret dX1_lengthAt_114 rfl (vp_nar_int _) (Nat.le_of_ble_eq_true rfl) (Nat.le_of_ble_eq_true rfl) ?_
      first | exact ⟨by rw [hsw]; rfl, rfl⟩ | exact ⟨by rw [lenC_out hsw]; rfl, rfl⟩
    | 9, _, hsw =>
      refine o_tabInE (tgt := 113) (off := 102) dX1_lengthAt_11 hsw (by decide) (by decide) (by decide) (by decide) ?_
      have hsw := sw_eq (l := 109) hsw (by decide)
      refine o_iconst dX1_lengthAt_113 ic_0 ?_
      refine o_iret dX1_lengthAt_114 rfl (vp_nar_int _) (Nat.le_of_ble_eq_true rfl) (Nat.le_of_ble_eq_true rfl) ?_
      first | exact ⟨by rw [hsw]; rfl, rfl⟩ | exact ⟨by rw [lenC_out hsw]; rfl, rfl⟩
    | 10, _, hsw =>
      refine o_tabInE (tgt := 113) (off := 102) dX1_lengthAt_11 hsw (by decide) (by decide) (by decide) (by decide) ?_
      have hsw := sw_eq (l := 110) hsw (by decide)
      refine o_iconst dX1_lengthAt_113 ic_0 ?_
      refine o_iret dX1_lengthAt_114 rfl (vp_nar_int _) (Nat.le_of_ble_eq_true rfl) (Nat.le_of_ble_eq_true rfl) ?_
      first | exact ⟨by rw [hsw]; rfl, rfl⟩ | exact ⟨by rw [lenC_out hsw]; rfl, rfl⟩
    | 11, _, hsw =>
      refine o_tabInE (tgt := 113) (off := 102) dX1_lengthAt_11 hsw (by decide) (by decide) (by decide) (by decide) ?_
      have hsw := sw_eq (l := 111) hsw (by decide)
      refine o_iconst dX1_lengthAt_113 ic_0 ?_
      refine o_iret dX1_lengthAt_114 rfl (vp_nar_int _) (Nat.le_of_ble_eq_true rfl) (Nat.le_of_ble_eq_true rfl) ?_
      first | exact ⟨by rw [hsw]; rfl, rfl⟩ | exact ⟨by rw [lenC_out hsw]; rfl, rfl⟩
    | 12, _, hsw =>
      refine o_tabInE (tgt := 107) (off := 96) dX1_lengthAt_11 hsw (by decide) (by decide) (by decide) (by decide) ?_
      have hsw := sw_eq (l := 112) hsw (by decide)
      refine o_iconst dX1_lengthAt_107 ic_5 ?_
      refine o_iret dX1_lengthAt_108 rfl (vp_nar_int _) (Nat.le_of_ble_eq_true rfl) (Nat.le_of_ble_eq_true rfl) ?_
      first | exact ⟨by rw [hsw]; rfl, rfl⟩ | exact ⟨by rw [lenC_out hsw]; rfl, rfl⟩
    | 13, _, hsw =>
      refine o_tabInE (tgt := 113) (off := 102) dX1_lengthAt_11 hsw (by decide) (by decide) (by decide) (by decide) ?_
      have hsw := sw_eq (l := 113) hsw (by decide)
      refine o_iconst dX1_lengthAt_113 ic_0 ?_
      refine o_iret dX1_lengthAt_114 rfl (vp_nar_int _) (Nat.le_of_ble_eq_true rfl) (Nat.le_of_ble_eq_true rfl) ?_
      first | exact ⟨by rw [hsw]; rfl, rfl⟩ | exact ⟨by rw [lenC_out hsw]; rfl, rfl⟩
    | 14, _, hsw =>
      refine o_tabInE (tgt := 109) (off := 98) dX1_lengthAt_11 hsw (by decide) (by decide) (by decide) (by decide) ?_
      have hsw := sw_eq (l := 114) hsw (by decide)
      refine o_iconst dX1_lengthAt_109 ic_4 ?_
      refine o_iret dX1_lengthAt_110 rfl (vp_nar_int _) (Nat.le_of_ble_eq_true rfl) (Nat.le_of_ble_eq_true rfl) ?_
      first | exact ⟨by rw [hsw]; rfl, rfl⟩ | exact ⟨by rw [lenC_out hsw]; rfl, rfl⟩
    | 15, _, hsw =>
      refine o_tabInE (tgt := 113) (off := 102) dX1_lengthAt_11 hsw (by decide) (by decide) (by decide) (by decide) ?_
      have hsw := sw_eq (l := 115) hsw (by decide)
      refine o_iconst dX1_lengthAt_113 ic_0 ?_
      refine o_iret dX1_lengthAt_114 rfl (vp_nar_int _) (Nat.le_of_ble_eq_true rfl) (Nat.le_of_ble_eq_true rfl) ?_
      first | exact ⟨by rw [hsw]; rfl, rfl⟩ | exact ⟨by rw [lenC_out hsw]; rfl, rfl⟩
    | 16, _, hsw =>
      refine o_tabInE (tgt := 111) (off := 100) dX1_lengthAt_11 hsw (by decide) (by decide) (by decide) (by decide) ?_
      have hsw := sw_eq (l := 116) hsw (by decide)
      refine o_iconst dX1_lengthAt_111 ic_3 ?_
      refine o_iret dX1_lengthAt_112 rfl (vp_nar_int _) (Nat.le_of_ble_eq_true rfl) (Nat.le_of_ble_eq_true rfl) ?_
      first | exact ⟨by rw [hsw]; rfl, rfl⟩ | exact ⟨by rw [lenC_out hsw]; rfl, rfl⟩
    | 17, _, hsw =>
      refine o_tabInE (tgt := 113) (off := 102) dX1_lengthAt_11 hsw (by decide) (by decide) (by decide) (by decide) ?_
      have hsw := sw_eq (l := 117) hsw (by decide)
      refine o_iconst dX1_lengthAt_113 ic_0 ?_
      refine o_iret dX1_lengthAt_114 rfl (vp_nar_int _) (Nat.le_of_ble_eq_true rfl) (Nat.le_of_ble_eq_true rfl) ?_
      first | exact ⟨by rw [hsw]; rfl, rfl⟩ | exact ⟨by rw [lenC_out hsw]; rfl, rfl⟩
    | 18, _, hsw =>
      refine o_tabInE (tgt := 113) (off := 102) dX1_lengthAt_11 hsw (by decide) (by decide) (by decide) (by decide) ?_
      have hsw := sw_eq (l := 118) hsw (by decide)
      refine o_iconst dX1_lengthAt_113 ic_0 ?_
      refine o_iret dX1_lengthAt_114 rfl (vp_nar_int _) (Nat.le_of_ble_eq_true rfl) (Nat.le_of_ble_eq_true rfl) ?_
      first | exact ⟨by rw [hsw]; rfl, rfl⟩ | exact ⟨by rw [lenC_out hsw]; rfl, rfl⟩
    | 19, _, hsw =>
      refine o_tabInE (tgt := 111) (off := 100) dX1_lengthAt_11 hsw (by decide) (by decide) (by decide) (by decide) ?_
      have hsw := sw_eq (l := 119) hsw (by decide)
      refine o_iconst dX1_lengthAt_111 ic_3 ?_
      refine o_iret dX1_lengthAt_112 rfl (vp_nar_int _) (Nat.le_of_ble_eq_true rfl) (Nat.le_of_ble_eq_true rfl) ?_
      first | exact ⟨by rw [hsw]; rfl, rfl⟩ | exact ⟨by rw [lenC_out hsw]; rfl, rfl⟩
    | j + 20, hj, _ => exact absurd hj (by omega)
theorem tX1_kindOf {x : Int32} : PD mX1_kindOf [.int x] ([]) (some (.int (kdF x))) ([]) := by
  refine PM.ofp 0 (by decide) (Nat.le_of_ble_eq_true rfl) ?_
  show Ok mX1_kindOf none 0 [some (.int x)] [] ([]) 0 0 _
  refine o_iload_n dX1_kindOf_0 rfl rfl ?_
  refine o_sw (lo := 98) (hi := 115) 18 (by decide) (by decide) (by decide) (fun hsw => ?_) (fun j hj hsw => ?_)
  · refine o_tabOut (tgt := 100) dX1_kindOf_1 hsw (by decide) ?_
    refine o_bipush dX1_kindOf_100 bp_m9 ?_
    refine o_iret dX1_kindOf_102 rfl (vp_nar_int _) (Nat.le_of_ble_eq_true rfl) (Nat.le_of_ble_eq_true rfl) ?_
    first | exact ⟨by subst hsw; rfl, rfl⟩ | exact ⟨by rw [kdF, if_neg (sw_ne hsw 112 (by decide)), if_neg (sw_ne hsw 115 (by decide)), if_neg (sw_ne hsw 107 (by decide)), if_neg (sw_ne hsw 99 (by decide)), if_neg (sw_ne hsw 111 (by decide)), if_neg (sw_ne hsw 98 (by decide))], rfl⟩
  · match j, hj, hsw with
    | 0, _, hsw =>
      refine o_tabInE (tgt := 98) (off := 97) dX1_kindOf_1 hsw (by decide) (by decide) (by decide) (by decide) ?_
      have hsw := sw_eq (l := 98) hsw (by decide)
      refine o_iconst dX1_kindOf_98 ic_5 ?_
      refine o_iret dX1_kindOf_99 rfl (vp_nar_int _) (Nat.le_of_ble_eq_true rfl) (Nat.le_of_ble_eq_true rfl) ?_
      first | exact ⟨by subst hsw; rfl, rfl⟩ | exact ⟨by rw [kdF, if_neg (sw_ne hsw 112 (by decide)), if_neg (sw_ne hsw 115 (by decide)), if_neg (sw_ne hsw 107 (by decide)), if_neg (sw_ne hsw 99 (by decide)), if_neg (sw_ne hsw 111 (by decide)), if_neg (sw_ne hsw 98 (by decide))], rfl⟩
    | 1, _, hsw =>
      refine o_tabInE (tgt := 94) (off := 93) dX1_kindOf_1 hsw (by decide) (by decide) (by decide) (by decide) ?_
      have hsw := sw_eq (l := 99) hsw (by decide)
      refine o_iconst dX1_kindOf_94 ic_3 ?_
      refine o_iret dX1_kindOf_95 rfl (vp_nar_int _) (Nat.le_of_ble_eq_true rfl) (Nat.le_of_ble_eq_true rfl) ?_
      first | exact ⟨by subst hsw; rfl, rfl⟩ | exact ⟨by rw [kdF, if_neg (sw_ne hsw 112 (by decide)), if_neg (sw_ne hsw 115 (by decide)), if_neg (sw_ne hsw 107 (by decide)), if_neg (sw_ne hsw 99 (by decide)), if_neg (sw_ne hsw 111 (by decide)), if_neg (sw_ne hsw 98 (by decide))], rfl⟩
    | 2, _, hsw =>
      refine o_tabInE (tgt := 100) (off := 99) dX1_kindOf_1 hsw (by decide) (by decide) (by decide) (by decide) ?_
      have hsw := sw_eq (l := 100) hsw (by decide)
      refine o_bipush dX1_kindOf_100 bp_m9 ?_
      refine o_iret dX1_kindOf_102 rfl (vp_nar_int _) (Nat.le_of_ble_eq_true rfl) (Nat.le_of_ble_eq_true rfl) ?_
      first | exact ⟨by subst hsw; rfl, rfl⟩ | exact ⟨by rw [kdF, if_neg (sw_ne hsw 112 (by decide)), if_neg (sw_ne hsw 115 (by decide)), if_neg (sw_ne hsw 107 (by decide)), if_neg (sw_ne hsw 99 (by decide)), if_neg (sw_ne hsw 111 (by decide)), if_neg (sw_ne hsw 98 (by decide))], rfl⟩
    | 3, _, hsw =>
      refine o_tabInE (tgt := 100) (off := 99) dX1_kindOf_1 hsw (by decide) (by decide) (by decide) (by decide) ?_
      have hsw := sw_eq (l := 101) hsw (by decide)
      refine o_bipush dX1_kindOf_100 bp_m9 ?_
      refine o_iret dX1_kindOf_102 rfl (vp_nar_int _) (Nat.le_of_ble_eq_true rfl) (Nat.le_of_ble_eq_true rfl) ?_
      first | exact ⟨by subst hsw; rfl, rfl⟩ | exact ⟨by rw [kdF, if_neg (sw_ne hsw 112 (by decide)), if_neg (sw_ne hsw 115 (by decide)), if_neg (sw_ne hsw 107 (by decide)), if_neg (sw_ne hsw 99 (by decide)), if_neg (sw_ne hsw 111 (by decide)), if_neg (sw_ne hsw 98 (by decide))], rfl⟩
    | 4, _, hsw =>
      refine o_tabInE (tgt := 100) (off := 99) dX1_kindOf_1 hsw (by decide) (by decide) (by decide) (by decide) ?_
      have hsw := sw_eq (l := 102) hsw (by decide)
      refine o_bipush dX1_kindOf_100 bp_m9 ?_
      refine o_iret dX1_kindOf_102 rfl (vp_nar_int _) (Nat.le_of_ble_eq_true rfl) (Nat.le_of_ble_eq_true rfl) ?_
      first | exact ⟨by subst hsw; rfl, rfl⟩ | exact ⟨by rw [kdF, if_neg (sw_ne hsw 112 (by decide)), if_neg (sw_ne hsw 115 (by decide)), if_neg (sw_ne hsw 107 (by decide)), if_neg (sw_ne hsw 99 (by decide)), if_neg (sw_ne hsw 111 (by decide)), if_neg (sw_ne hsw 98 (by decide))], rfl⟩
    | 5, _, hsw =>
      refine o_tabInE (tgt := 100) (off := 99) dX1_kindOf_1 hsw (by decide) (by decide) (by decide) (by decide) ?_
      have hsw := sw_eq (l := 103) hsw (by decide)
      refine o_bipush dX1_kindOf_100 bp_m9 ?_
      refine o_iret dX1_kindOf_102 rfl (vp_nar_int _) (Nat.le_of_ble_eq_true rfl) (Nat.le_of_ble_eq_true rfl) ?_
      first | exact ⟨by subst hsw; rfl, rfl⟩ | exact ⟨by rw [kdF, if_neg (sw_ne hsw 112 (by decide)), if_neg (sw_ne hsw 115 (by decide)), if_neg (sw_ne hsw 107 (by decide)), if_neg (sw_ne hsw 99 (by decide)), if_neg (sw_ne hsw 111 (by decide)), if_neg (sw_ne hsw 98 (by decide))], rfl⟩
    | 6, _, hsw =>
      refine o_tabInE (tgt := 100) (off := 99) dX1_kindOf_1 hsw (by decide) (by decide) (by decide) (by decide) ?_
      have hsw := sw_eq (l := 104) hsw (by decide)
      refine o_bipush dX1_kindOf_100 bp_m9 ?_
      refine o_iret dX1_kindOf_102 rfl (vp_nar_int _) (Nat.le_of_ble_eq_true rfl) (Nat.le_of_ble_eq_true rfl) ?_
      first | exact ⟨by subst hsw; rfl, rfl⟩ | exact ⟨by rw [kdF, if_neg (sw_ne hsw 112 (by decide)), if_neg (sw_ne hsw 115 (by decide)), if_neg (sw_ne hsw 107 (by decide)), if_neg (sw_ne hsw 99 (by decide)), if_neg (sw_ne hsw 111 (by decide)), if_neg (sw_ne hsw 98 (by decide))], rfl⟩
    | 7, _, hsw =>
      refine o_tabInE (tgt := 100) (off := 99) dX1_kindOf_1 hsw (by decide) (by decide) (by decide) (by decide) ?_
      have hsw := sw_eq (l := 105) hsw (by decide)
      refine o_bipush dX1_kindOf_100 bp_m9 ?_
      refine o_iret dX1_kindOf_102 rfl (vp_nar_int _) (Nat.le_of_ble_eq_true rfl) (Nat.le_of_ble_eq_true rfl) ?_
      first | exact ⟨by subst hsw; rfl, rfl⟩ | exact ⟨by rw [kdF, if_neg (sw_ne hsw 112 (by decide)), if_neg (sw_ne hsw 115 (by decide)), if_neg (sw_ne hsw 107 (by decide)), if_neg (sw_ne hsw 99 (by decide)), if_neg (sw_ne hsw 111 (by decide)), if_neg (sw_ne hsw 98 (by decide))], rfl⟩
    | 8, _, hsw =>
      refine o_tabInE (tgt := 100) (off := 99) dX1_kindOf_1 hsw (by decide) (by decide) (by decide) (by decide) ?_
      have hsw := sw_eq (l := 106) hsw (by decide)
      refine o_bipush dX1_kindOf_100 bp_m9 ?_
      refine o_iret dX1_kindOf_102 rfl (vp_nar_int _) (Nat.le_of_ble_eq_true rfl) (Nat.le_of_ble_eq_true rfl) ?_
      first | exact ⟨by subst hsw; rfl, rfl⟩ | exact ⟨by rw [kdF, if_neg (sw_ne hsw 112 (by decide)), if_neg (sw_ne hsw 115 (by decide)), if_neg (sw_ne hsw 107 (by decide)), if_neg (sw_ne hsw 99 (by decide)), if_neg (sw_ne hsw 111 (by decide)), if_neg (sw_ne hsw 98 (by decide))], rfl⟩
    | 9, _, hsw =>
      refine o_tabInE (tgt := 92) (off := 91) dX1_kindOf_1 hsw (by decide) (by decide) (by decide) (by decide) ?_
      have hsw := sw_eq (l := 107) hsw (by decide)
      refine o_iconst dX1_kindOf_92 ic_2 ?_
      refine o_iret dX1_kindOf_93 rfl (vp_nar_int _) (Nat.le_of_ble_eq_true rfl) (Nat.le_of_ble_eq_true rfl) ?_
      first | exact ⟨by subst hsw; rfl, rfl⟩ | exact ⟨by rw [kdF, if_neg (sw_ne hsw 112 (by decide)), if_neg (sw_ne hsw 115 (by decide)), if_neg (sw_ne hsw 107 (by decide)), if_neg (sw_ne hsw 99 (by decide)), if_neg (sw_ne hsw 111 (by decide)), if_neg (sw_ne hsw 98 (by decide))], rfl⟩
    | 10, _, hsw =>
      refine o_tabInE (tgt := 100) (off := 99) dX1_kindOf_1 hsw (by decide) (by decide) (by decide) (by decide) ?_
      have hsw := sw_eq (l := 108) hsw (by decide)
      refine o_bipush dX1_kindOf_100 bp_m9 ?_
      refine o_iret dX1_kindOf_102 rfl (vp_nar_int _) (Nat.le_of_ble_eq_true rfl) (Nat.le_of_ble_eq_true rfl) ?_
      first | exact ⟨by subst hsw; rfl, rfl⟩ | exact ⟨by rw [kdF, if_neg (sw_ne hsw 112 (by decide)), if_neg (sw_ne hsw 115 (by decide)), if_neg (sw_ne hsw 107 (by decide)), if_neg (sw_ne hsw 99 (by decide)), if_neg (sw_ne hsw 111 (by decide)), if_neg (sw_ne hsw 98 (by decide))], rfl⟩
    | 11, _, hsw =>
      refine o_tabInE (tgt := 100) (off := 99) dX1_kindOf_1 hsw (by decide) (by decide) (by decide) (by decide) ?_
      have hsw := sw_eq (l := 109) hsw (by decide)
      refine o_bipush dX1_kindOf_100 bp_m9 ?_
      refine o_iret dX1_kindOf_102 rfl (vp_nar_int _) (Nat.le_of_ble_eq_true rfl) (Nat.le_of_ble_eq_true rfl) ?_
      first | exact ⟨by subst hsw; rfl, rfl⟩ | exact ⟨by rw [kdF, if_neg (sw_ne hsw 112 (by decide)), if_neg (sw_ne hsw 115 (by decide)), if_neg (sw_ne hsw 107 (by decide)), if_neg (sw_ne hsw 99 (by decide)), if_neg (sw_ne hsw 111 (by decide)), if_neg (sw_ne hsw 98 (by decide))], rfl⟩
    | 12, _, hsw =>
      refine o_tabInE (tgt := 100) (off := 99) dX1_kindOf_1 hsw (by decide) (by decide) (by decide) (by decide) ?_
      have hsw := sw_eq (l := 110) hsw (by decide)
      refine o_bipush dX1_kindOf_100 bp_m9 ?_
      refine o_iret dX1_kindOf_102 rfl (vp_nar_int _) (Nat.le_of_ble_eq_true rfl) (Nat.le_of_ble_eq_true rfl) ?_
      first | exact ⟨by subst hsw; rfl, rfl⟩ | exact ⟨by rw [kdF, if_neg (sw_ne hsw 112 (by decide)), if_neg (sw_ne hsw 115 (by decide)), if_neg (sw_ne hsw 107 (by decide)), if_neg (sw_ne hsw 99 (by decide)), if_neg (sw_ne hsw 111 (by decide)), if_neg (sw_ne hsw 98 (by decide))], rfl⟩
    | 13, _, hsw =>
      refine o_tabInE (tgt := 96) (off := 95) dX1_kindOf_1 hsw (by decide) (by decide) (by decide) (by decide) ?_
      have hsw := sw_eq (l := 111) hsw (by decide)
      refine o_iconst dX1_kindOf_96 ic_4 ?_
      refine o_iret dX1_kindOf_97 rfl (vp_nar_int _) (Nat.le_of_ble_eq_true rfl) (Nat.le_of_ble_eq_true rfl) ?_
      first | exact ⟨by subst hsw; rfl, rfl⟩ | exact ⟨by rw [kdF, if_neg (sw_ne hsw 112 (by decide)), if_neg (sw_ne hsw 115 (by decide)), if_neg (sw_ne hsw 107 (by decide)), if_neg (sw_ne hsw 99 (by decide)), if_neg (sw_ne hsw 111 (by decide)), if_neg (sw_ne hsw 98 (by decide))], rfl⟩
    | 14, _, hsw =>
      refine o_tabInE (tgt := 88) (off := 87) dX1_kindOf_1 hsw (by decide) (by decide) (by decide) (by decide) ?_
      have hsw := sw_eq (l := 112) hsw (by decide)
      refine o_iconst dX1_kindOf_88 ic_0 ?_
      refine o_iret dX1_kindOf_89 rfl (vp_nar_int _) (Nat.le_of_ble_eq_true rfl) (Nat.le_of_ble_eq_true rfl) ?_
      first | exact ⟨by subst hsw; rfl, rfl⟩ | exact ⟨by rw [kdF, if_neg (sw_ne hsw 112 (by decide)), if_neg (sw_ne hsw 115 (by decide)), if_neg (sw_ne hsw 107 (by decide)), if_neg (sw_ne hsw 99 (by decide)), if_neg (sw_ne hsw 111 (by decide)), if_neg (sw_ne hsw 98 (by decide))], rfl⟩
    | 15, _, hsw =>
      refine o_tabInE (tgt := 100) (off := 99) dX1_kindOf_1 hsw (by decide) (by decide) (by decide) (by decide) ?_
      have hsw := sw_eq (l := 113) hsw (by decide)
      refine o_bipush dX1_kindOf_100 bp_m9 ?_
      refine o_iret dX1_kindOf_102 rfl (vp_nar_int _) (Nat.le_of_ble_eq_true rfl) (Nat.le_of_ble_eq_true rfl) ?_
      first | exact ⟨by subst hsw; rfl, rfl⟩ | exact ⟨by rw [kdF, if_neg (sw_ne hsw 112 (by decide)), if_neg (sw_ne hsw 115 (by decide)), if_neg (sw_ne hsw 107 (by decide)), if_neg (sw_ne hsw 99 (by decide)), if_neg (sw_ne hsw 111 (by decide)), if_neg (sw_ne hsw 98 (by decide))], rfl⟩
    | 16, _, hsw =>
      refine o_tabInE (tgt := 100) (off := 99) dX1_kindOf_1 hsw (by decide) (by decide) (by decide) (by decide) ?_
      have hsw := sw_eq (l := 114) hsw (by decide)
      refine o_bipush dX1_kindOf_100 bp_m9 ?_
      refine o_iret dX1_kindOf_102 rfl (vp_nar_int _) (Nat.le_of_ble_eq_true rfl) (Nat.le_of_ble_eq_true rfl) ?_
      first | exact ⟨by subst hsw; rfl, rfl⟩ | exact ⟨by rw [kdF, if_neg (sw_ne hsw 112 (by decide)), if_neg (sw_ne hsw 115 (by decide)), if_neg (sw_ne hsw 107 (by decide)), if_neg (sw_ne hsw 99 (by decide)), if_neg (sw_ne hsw 111 (by decide)), if_neg (sw_ne hsw 98 (by decide))], rfl⟩
    | 17, _, hsw =>
      refine o_tabInE (tgt := 90) (off := 89) dX1_kindOf_1 hsw (by decide) (by decide) (by decide) (by decide) ?_
      have hsw := sw_eq (l := 115) hsw (by decide)
      refine o_iconst dX1_kindOf_90 ic_1 ?_
      refine o_iret dX1_kindOf_91 rfl (vp_nar_int _) (Nat.le_of_ble_eq_true rfl) (Nat.le_of_ble_eq_true rfl) ?_
      first | exact ⟨by subst hsw; rfl, rfl⟩ | exact ⟨by rw [kdF, if_neg (sw_ne hsw 112 (by decide)), if_neg (sw_ne hsw 115 (by decide)), if_neg (sw_ne hsw 107 (by decide)), if_neg (sw_ne hsw 99 (by decide)), if_neg (sw_ne hsw 111 (by decide)), if_neg (sw_ne hsw 98 (by decide))], rfl⟩
    | j + 18, hj, _ => exact absurd hj (by omega)
theorem tX1_digitAt {lt : Nat → Int32} {lm : Int32} {p : Int32} : PD mX1_digitAt [.ref 0, .int p] (lG lt lm) (some (.int (atF 96 lt p - 48))) (lG lt lm) := by
  refine PM.ofp 0 (by decide) (Nat.le_of_ble_eq_true rfl) ?_
  show Ok mX1_digitAt none 0 [some (.ref 0), some (.int p)] [] (lG lt lm) 0 0 _
  refine o_aload_n dX1_digitAt_0 rfl rfl ?_
  refine o_getf (j := 0) dX1_digitAt_1 rfl hcX1 inX1 (Nat.le_of_ble_eq_true rfl) wd197 rfl rfl ?_
  refine o_getf (j := 0) dX1_digitAt_4 rfl hcX2 inX2 (Nat.le_of_ble_eq_true rfl) wd187 rfl rfl ?_
  refine o_iload_n dX1_digitAt_7 rfl rfl ?_
  refine o_callSNr (is := [2]) (tX4_at (by decide)) ⟨rfl, rfl⟩ dX1_digitAt_8 wd265 csX4_at rfl ⟨(Nat.le_of_ble_eq_true rfl), (Nat.le_of_ble_eq_true rfl)⟩ rfl rfl rfl (Nat.le_of_ble_eq_true rfl) (Nat.le_of_ble_eq_true rfl) (Nat.le_of_ble_eq_true rfl) ?_
  refine o_bipush dX1_digitAt_11 bp_48 ?_
  refine o_isub dX1_digitAt_13 ?_
  refine o_iret dX1_digitAt_14 rfl (vp_nar_int _) (Nat.le_of_ble_eq_true rfl) (Nat.le_of_ble_eq_true rfl) ?_
  exact ⟨rfl, rfl⟩
theorem tX1_fitsShape {lt : Nat → Int32} {lm : Int32} {s j : Nat} (hs : s + j < 96) (hj : j = 0 ∨ 0 < lenC (lt s)) : PD mX1_fitsShape [.ref 0, .int (nI s), .int (nI (s + j))] (lG lt lm) (some (.int (bI (fsB lt s j)))) (lG lt lm) := by
  refine PM.ofp 2 (by decide) (Nat.le_of_ble_eq_true rfl) ?_
  show Ok mX1_fitsShape none 0 [some (.ref 0), some (.int (nI s)), some (.int (nI (s + j))), none, none] [] (lG lt lm) 0 0 _
  have hl6 := lenC_le (lt s)
  refine o_aload_n dX1_fitsShape_0 rfl rfl ?_
  refine o_iload_n dX1_fitsShape_1 rfl rfl ?_
  refine o_callVr (is := [0, 1, 2]) (tX1_lengthAt (by omega)) ⟨rfl, rfl⟩ dX1_fitsShape_2 wd261 cvX1_lengthAt rfl ⟨(Nat.le_of_ble_eq_true rfl), (Nat.le_of_ble_eq_true rfl)⟩ hcX1 rfl rfl rfl rfl (Nat.le_of_ble_eq_true rfl) (Nat.le_of_ble_eq_true rfl) (Nat.le_of_ble_eq_true rfl) ?_
  refine o_istn_3 dX1_fitsShape_5 rfl rfl (Nat.le_of_ble_eq_true rfl) ?_
  refine o_iload_n dX1_fitsShape_6 rfl rfl ?_
  refine o_iload_n dX1_fitsShape_7 rfl rfl ?_
  refine o_icmp_ne (tgt := 21) dX1_fitsShape_8 (by decide) (fun c_8 => ?_) (fun c_8 => ?_)
  · have q0 : ¬ j = 0 := fun e => c_8 (by rw [e]; rfl)
    have q1 : 0 < lenC (lt s) := by omega
    have el : nI (lenC (lt s)) - 1 = nI (lenC (lt s) - 1) := pk_sub (a := lenC (lt s)) (b := 1) (by omega)
    refine o_aload_n dX1_fitsShape_21 rfl rfl ?_
    refine o_getf (j := 0) dX1_fitsShape_22 rfl hcX1 inX1 (Nat.le_of_ble_eq_true rfl) wd197 rfl rfl ?_
    refine o_getf (j := 0) dX1_fitsShape_25 rfl hcX2 inX2 (Nat.le_of_ble_eq_true rfl) wd187 rfl rfl ?_
    refine o_iload_n dX1_fitsShape_28 rfl rfl ?_
    refine o_callSNr (is := [2]) (at_f (by decide) rfl (by omega)) ⟨rfl, rfl⟩ dX1_fitsShape_29 wd265 csX4_at rfl ⟨(Nat.le_of_ble_eq_true rfl), (Nat.le_of_ble_eq_true rfl)⟩ rfl rfl rfl (Nat.le_of_ble_eq_true rfl) (Nat.le_of_ble_eq_true rfl) (Nat.le_of_ble_eq_true rfl) ?_
    refine o_istg_4 dX1_fitsShape_32 rfl (Nat.le_of_ble_eq_true rfl) ?_
    refine o_iload_n dX1_fitsShape_34 rfl rfl ?_
    refine o_iload_n dX1_fitsShape_35 rfl rfl ?_
    refine o_isub dX1_fitsShape_36 ?_
    refine o_eqs (by rw [pk_sub (by omega), Nat.add_sub_cancel_left]) ?_
    refine o_iload_n dX1_fitsShape_37 rfl rfl ?_
    refine o_iconst dX1_fitsShape_38 ic_1 ?_
    refine o_isub dX1_fitsShape_39 ?_
    refine o_eqs (by rw [el]) ?_
    refine o_icmp_ne (tgt := 56) dX1_fitsShape_40 (by decide) (fun c_40 => ?_) (fun c_40 => ?_)
    · have q2 : ¬ j + 1 = lenC (lt s) := fun e => c_40 (congrArg nI (by omega))
      refine o_iload_n dX1_fitsShape_56 rfl rfl ?_
      refine o_iload_n dX1_fitsShape_57 rfl rfl ?_
      refine o_isub dX1_fitsShape_58 ?_
      refine o_eqs (by rw [pk_sub (by omega), Nat.add_sub_cancel_left]) ?_
      refine o_iconst dX1_fitsShape_59 ic_1 ?_
      refine o_icmp_ne (tgt := 95) dX1_fitsShape_60 (by decide) (fun c_60 => ?_) (fun c_60 => ?_)
      · have q3 : ¬ (j = 1 ∧ lt s = 100) := fun e => c_60 (by rw [e.1]; rfl)
        refine o_iload dX1_fitsShape_95 rfl ?_
        refine o_bipush dX1_fitsShape_97 bp_48 ?_
        refine o_icmp_lt (tgt := 113) dX1_fitsShape_99 (by decide) (fun c_99 => ?_) (fun c_99 => ?_)
        · skip
          refine o_iconst dX1_fitsShape_113 ic_0 ?_
          refine o_iret dX1_fitsShape_114 rfl (by first | exact nz_b _ | decide) (Nat.le_of_ble_eq_true rfl) (Nat.le_of_ble_eq_true rfl) ?_
          exact ⟨by rw [fsB, if_neg q0, ftB, if_neg q2, if_neg q3, dgB, isInB, decide_eq_true c_99]; rfl, rfl⟩
        · skip
          refine o_iload dX1_fitsShape_102 rfl ?_
          refine o_bipush dX1_fitsShape_104 bp_57 ?_
          refine o_icmp_gt (tgt := 113) dX1_fitsShape_106 (by decide) (fun c_106 => ?_) (fun c_106 => ?_)
          · skip
            refine o_iconst dX1_fitsShape_113 ic_0 ?_
            refine o_iret dX1_fitsShape_114 rfl (by first | exact nz_b _ | decide) (Nat.le_of_ble_eq_true rfl) (Nat.le_of_ble_eq_true rfl) ?_
            exact ⟨by rw [fsB, if_neg q0, ftB, if_neg q2, if_neg q3, dgB, isInB, decide_eq_false c_99, decide_eq_true c_106]; rfl, rfl⟩
          · skip
            refine o_iconst dX1_fitsShape_109 ic_1 ?_
            refine o_goto (tgt := 114) dX1_fitsShape_110 (by decide) ?_
            refine o_iret dX1_fitsShape_114 rfl (by first | exact nz_b _ | decide) (Nat.le_of_ble_eq_true rfl) (Nat.le_of_ble_eq_true rfl) ?_
            exact ⟨by rw [fsB, if_neg q0, ftB, if_neg q2, if_neg q3, dgB, isInB, decide_eq_false c_99, decide_eq_false c_106]; rfl, rfl⟩
      · have q4 : j = 1 := (nI_eq (b := 1) (by omega) (by omega)).mp c_60
        refine o_aload_n dX1_fitsShape_63 rfl rfl ?_
        refine o_getf (j := 0) dX1_fitsShape_64 rfl hcX1 inX1 (Nat.le_of_ble_eq_true rfl) wd197 rfl rfl ?_
        refine o_getf (j := 0) dX1_fitsShape_67 rfl hcX2 inX2 (Nat.le_of_ble_eq_true rfl) wd187 rfl rfl ?_
        refine o_iload_n dX1_fitsShape_70 rfl rfl ?_
        refine o_callSNr (is := [2]) (at_f (by decide) rfl (by omega)) ⟨rfl, rfl⟩ dX1_fitsShape_71 wd265 csX4_at rfl ⟨(Nat.le_of_ble_eq_true rfl), (Nat.le_of_ble_eq_true rfl)⟩ rfl rfl rfl (Nat.le_of_ble_eq_true rfl) (Nat.le_of_ble_eq_true rfl) (Nat.le_of_ble_eq_true rfl) ?_
        refine o_bipush dX1_fitsShape_74 bp_100 ?_
        refine o_icmp_ne (tgt := 95) dX1_fitsShape_76 (by decide) (fun c_76 => ?_) (fun c_76 => ?_)
        · have q3 : ¬ (j = 1 ∧ lt s = 100) := fun e => c_76 e.2
          refine o_iload dX1_fitsShape_95 rfl ?_
          refine o_bipush dX1_fitsShape_97 bp_48 ?_
          refine o_icmp_lt (tgt := 113) dX1_fitsShape_99 (by decide) (fun c_99 => ?_) (fun c_99 => ?_)
          · skip
            refine o_iconst dX1_fitsShape_113 ic_0 ?_
            refine o_iret dX1_fitsShape_114 rfl (by first | exact nz_b _ | decide) (Nat.le_of_ble_eq_true rfl) (Nat.le_of_ble_eq_true rfl) ?_
            exact ⟨by rw [fsB, if_neg q0, ftB, if_neg q2, if_neg q3, dgB, isInB, decide_eq_true c_99]; rfl, rfl⟩
          · skip
            refine o_iload dX1_fitsShape_102 rfl ?_
            refine o_bipush dX1_fitsShape_104 bp_57 ?_
            refine o_icmp_gt (tgt := 113) dX1_fitsShape_106 (by decide) (fun c_106 => ?_) (fun c_106 => ?_)
            · skip
              refine o_iconst dX1_fitsShape_113 ic_0 ?_
              refine o_iret dX1_fitsShape_114 rfl (by first | exact nz_b _ | decide) (Nat.le_of_ble_eq_true rfl) (Nat.le_of_ble_eq_true rfl) ?_
              exact ⟨by rw [fsB, if_neg q0, ftB, if_neg q2, if_neg q3, dgB, isInB, decide_eq_false c_99, decide_eq_true c_106]; rfl, rfl⟩
            · skip
              refine o_iconst dX1_fitsShape_109 ic_1 ?_
              refine o_goto (tgt := 114) dX1_fitsShape_110 (by decide) ?_
              refine o_iret dX1_fitsShape_114 rfl (by first | exact nz_b _ | decide) (Nat.le_of_ble_eq_true rfl) (Nat.le_of_ble_eq_true rfl) ?_
              exact ⟨by rw [fsB, if_neg q0, ftB, if_neg q2, if_neg q3, dgB, isInB, decide_eq_false c_99, decide_eq_false c_106]; rfl, rfl⟩
        · skip
          refine o_iload dX1_fitsShape_79 rfl ?_
          refine o_callSr (is := []) (tX1_kindOf) ⟨rfl, rfl⟩ dX1_fitsShape_81 wd266 csX1_kindOf rfl ⟨(Nat.le_of_ble_eq_true rfl), (Nat.le_of_ble_eq_true rfl)⟩ rfl rfl rfl (Nat.le_of_ble_eq_true rfl) (Nat.le_of_ble_eq_true rfl) (Nat.le_of_ble_eq_true rfl) ?_
          refine o_bipush dX1_fitsShape_84 bp_m9 ?_
          refine o_icmp_eq (tgt := 93) dX1_fitsShape_86 (by decide) (fun c_86 => ?_) (fun c_86 => ?_)
          · skip
            refine o_iconst dX1_fitsShape_93 ic_0 ?_
            refine o_iret dX1_fitsShape_94 rfl (by first | exact nz_b _ | decide) (Nat.le_of_ble_eq_true rfl) (Nat.le_of_ble_eq_true rfl) ?_
            exact ⟨by rw [fsB, if_neg q0, ftB, if_neg q2, if_pos ⟨q4, c_76⟩, c_86]; rfl, rfl⟩
          · skip
            refine o_iconst dX1_fitsShape_89 ic_1 ?_
            refine o_goto (tgt := 94) dX1_fitsShape_90 (by decide) ?_
            refine o_iret dX1_fitsShape_94 rfl (by first | exact nz_b _ | decide) (Nat.le_of_ble_eq_true rfl) (Nat.le_of_ble_eq_true rfl) ?_
            exact ⟨by rw [fsB, if_neg q0, ftB, if_neg q2, if_pos ⟨q4, c_76⟩, decide_eq_false (kd_nn c_86)]; rfl, rfl⟩
    · have q2 : j + 1 = lenC (lt s) := by have := (nI_eq (by omega) (by omega)).mp c_40; omega
      refine o_iload dX1_fitsShape_43 rfl ?_
      refine o_bipush dX1_fitsShape_45 bp_59 ?_
      refine o_icmp_ne (tgt := 54) dX1_fitsShape_47 (by decide) (fun c_47 => ?_) (fun c_47 => ?_)
      · skip
        refine o_iconst dX1_fitsShape_54 ic_0 ?_
        refine o_iret dX1_fitsShape_55 rfl (by first | exact nz_b _ | decide) (Nat.le_of_ble_eq_true rfl) (Nat.le_of_ble_eq_true rfl) ?_
        exact ⟨by rw [fsB, if_neg q0, ftB, if_pos q2, decide_eq_false c_47]; rfl, rfl⟩
      · skip
        refine o_iconst dX1_fitsShape_50 ic_1 ?_
        refine o_goto (tgt := 55) dX1_fitsShape_51 (by decide) ?_
        refine o_iret dX1_fitsShape_55 rfl (by first | exact nz_b _ | decide) (Nat.le_of_ble_eq_true rfl) (Nat.le_of_ble_eq_true rfl) ?_
        exact ⟨by rw [fsB, if_neg q0, ftB, if_pos q2, decide_eq_true c_47]; rfl, rfl⟩
  · have q0 : j = 0 := by have := (nI_eq (by omega) (by omega)).mp c_8; omega
    refine o_iload_n dX1_fitsShape_11 rfl rfl ?_
    refine o_if_le (tgt := 19) dX1_fitsShape_12 (by decide) (fun c_12 => ?_) (fun c_12 => ?_)
    · have q1 : lenC (lt s) = 0 := Nat.le_zero.mp (geI (a := 0) (by omega) (by omega) c_12)
      refine o_iconst dX1_fitsShape_19 ic_0 ?_
      refine o_iret dX1_fitsShape_20 rfl (by first | exact nz_b _ | decide) (Nat.le_of_ble_eq_true rfl) (Nat.le_of_ble_eq_true rfl) ?_
      exact ⟨by rw [fsB, if_pos q0, q1]; rfl, rfl⟩
    · have q1 : ¬ lenC (lt s) = 0 := fun e => c_12 (by rw [e]; exact Int32.le_refl _)
      refine o_iconst dX1_fitsShape_15 ic_1 ?_
      refine o_goto (tgt := 20) dX1_fitsShape_16 (by decide) ?_
      refine o_iret dX1_fitsShape_20 rfl (by first | exact nz_b _ | decide) (Nat.le_of_ble_eq_true rfl) (Nat.le_of_ble_eq_true rfl) ?_
      exact ⟨by rw [fsB, if_pos q0, decide_eq_false q1]; rfl, rfl⟩
theorem lX1_shapeFault {lt : Nat → Int32} {L : Nat} {V : Option Nat} (hL : L ≤ 96) : ∀ (t s j : Nat), L - (s + j) < t → s + j ≤ L → SH lt L V s j → Ok mX1_shapeFault none 4 [some (.ref 0), some (.int (nI s)), some (.int (nI (s + j)))] [] (lG lt (nI L)) 0 0 (fun a w => a = some (.int (sfV V)) ∧ w = lG lt (nI L)) := by
  intro t
  induction t with
  | zero => intro s j ht; omega
  | succ t ih =>
  intro s j ht hsj hH
  have hle := hH.len
  have hl6 := lenC_le (lt s)
  refine o_iload_n dX1_shapeFault_4 rfl rfl ?_
  refine o_aload_n dX1_shapeFault_5 rfl rfl ?_
  refine o_getf (j := 0) dX1_shapeFault_6 rfl hcX1 inX1 (Nat.le_of_ble_eq_true rfl) wd197 rfl rfl ?_
  refine o_getf (j := 1) dX1_shapeFault_9 rfl hcX2 inX2 (Nat.le_of_ble_eq_true rfl) wd190 rfl rfl ?_
  refine o_icmp_ge (tgt := 49) dX1_shapeFault_12 (by decide) (fun c_12 => ?_) (fun c_12 => ?_)
  · have e : s + j = L := Nat.le_antisymm hsj (geI (by omega) (by omega) c_12)
    refine o_aload_n dX1_shapeFault_49 rfl rfl ?_
    refine o_getf (j := 0) dX1_shapeFault_50 rfl hcX1 inX1 (Nat.le_of_ble_eq_true rfl) wd197 rfl rfl ?_
    refine o_getf (j := 1) dX1_shapeFault_53 rfl hcX2 inX2 (Nat.le_of_ble_eq_true rfl) wd190 rfl rfl ?_
    refine o_if_eq (tgt := 70) dX1_shapeFault_56 (by decide) (fun c_56 => ?_) (fun c_56 => ?_)
    · have z : L = 0 := (nI_eq (b := 0) (by omega) (by omega)).mp c_56
      refine o_aload_n dX1_shapeFault_70 rfl rfl ?_
      refine o_getf (j := 0) dX1_shapeFault_71 rfl hcX1 inX1 (Nat.le_of_ble_eq_true rfl) wd197 rfl rfl ?_
      refine o_getf (j := 1) dX1_shapeFault_74 rfl hcX2 inX2 (Nat.le_of_ble_eq_true rfl) wd190 rfl rfl ?_
      refine o_goto (tgt := 82) dX1_shapeFault_77 (by decide) ?_
      refine o_iret dX1_shapeFault_82 rfl (vp_nar_int _) (Nat.le_of_ble_eq_true rfl) (Nat.le_of_ble_eq_true rfl) ?_
      exact ⟨by rw [hH.end0 z, z]; rfl, rfl⟩
    · have z : ¬ L = 0 := fun q => c_56 (by rw [q]; rfl)
      refine o_iload_n dX1_shapeFault_59 rfl rfl ?_
      refine o_aload_n dX1_shapeFault_60 rfl rfl ?_
      refine o_getf (j := 0) dX1_shapeFault_61 rfl hcX1 inX1 (Nat.le_of_ble_eq_true rfl) wd197 rfl rfl ?_
      refine o_getf (j := 1) dX1_shapeFault_64 rfl hcX2 inX2 (Nat.le_of_ble_eq_true rfl) wd190 rfl rfl ?_
      refine o_icmp_ge (tgt := 80) dX1_shapeFault_67 (by decide) (fun c_67 => ?_) (fun c_67 => ?_)
      · have g : L ≤ s := geI (by omega) (by omega) c_67
        refine o_bipush dX1_shapeFault_80 bp_m9 ?_
        refine o_iret dX1_shapeFault_82 rfl (vp_nar_int _) (Nat.le_of_ble_eq_true rfl) (Nat.le_of_ble_eq_true rfl) ?_
        exact ⟨by rw [hH.endS z g]; rfl, rfl⟩
      · have g : s < L := ltI (by omega) (by omega) c_67
        refine o_aload_n dX1_shapeFault_70 rfl rfl ?_
        refine o_getf (j := 0) dX1_shapeFault_71 rfl hcX1 inX1 (Nat.le_of_ble_eq_true rfl) wd197 rfl rfl ?_
        refine o_getf (j := 1) dX1_shapeFault_74 rfl hcX2 inX2 (Nat.le_of_ble_eq_true rfl) wd190 rfl rfl ?_
        refine o_goto (tgt := 82) dX1_shapeFault_77 (by decide) ?_
        refine o_iret dX1_shapeFault_82 rfl (vp_nar_int _) (Nat.le_of_ble_eq_true rfl) (Nat.le_of_ble_eq_true rfl) ?_
        exact ⟨by rw [hH.endI e g]; rfl, rfl⟩
  · have hlt : s + j < L := ltI (by omega) (by omega) c_12
    refine o_aload_n dX1_shapeFault_15 rfl rfl ?_
    refine o_iload_n dX1_shapeFault_16 rfl rfl ?_
    refine o_iload_n dX1_shapeFault_17 rfl rfl ?_
    refine o_callVr (is := [0, 1, 2]) (tX1_fitsShape (by omega) hle) ⟨rfl, rfl⟩ dX1_shapeFault_18 wd257 cvX1_fitsShape rfl ⟨(Nat.le_of_ble_eq_true rfl), (Nat.le_of_ble_eq_true rfl)⟩ hcX1 rfl rfl rfl rfl (Nat.le_of_ble_eq_true rfl) (Nat.le_of_ble_eq_true rfl) (Nat.le_of_ble_eq_true rfl) ?_
    refine o_if_ne (tgt := 26) dX1_shapeFault_21 (by decide) (fun c_21 => ?_) (fun c_21 => ?_)
    · have hf : fsB lt s j = true := bI_ne c_21
      refine o_iload_n dX1_shapeFault_26 rfl rfl ?_
      refine o_iload_n dX1_shapeFault_27 rfl rfl ?_
      refine o_isub dX1_shapeFault_28 ?_
      refine o_eqs (by rw [pk_sub (by omega), Nat.add_sub_cancel_left]) ?_
      refine o_iconst dX1_shapeFault_29 ic_1 ?_
      refine o_iadd dX1_shapeFault_30 ?_
      refine o_eqs (by rw [nI_1]) ?_
      refine o_aload_n dX1_shapeFault_31 rfl rfl ?_
      refine o_iload_n dX1_shapeFault_32 rfl rfl ?_
      refine o_callVr (is := [0, 1, 2]) (tX1_lengthAt (by omega)) ⟨rfl, rfl⟩ dX1_shapeFault_33 wd261 cvX1_lengthAt rfl ⟨(Nat.le_of_ble_eq_true rfl), (Nat.le_of_ble_eq_true rfl)⟩ hcX1 rfl rfl rfl rfl (Nat.le_of_ble_eq_true rfl) (Nat.le_of_ble_eq_true rfl) (Nat.le_of_ble_eq_true rfl) ?_
      refine o_icmp_ne (tgt := 43) dX1_shapeFault_36 (by decide) (fun c_36 => ?_) (fun c_36 => ?_)
      · have hne : ¬ j + 1 = lenC (lt s) := fun e => c_36 (congrArg nI e)
        refine o_inc_2 dX1_shapeFault_43 rfl ic_1 (Nat.le_of_ble_eq_true rfl) ?_
        refine o_goto (tgt := 4) dX1_shapeFault_46 (by decide) ?_
        exact o_eqa (by rw [nI_1]; first | done | rfl) rfl (ih s (j + 1) (by omega) (by omega) (hH.next hlt hf hne))
      · have he : j + 1 = lenC (lt s) := (nI_eq (by omega) (by omega)).mp c_36
        refine o_iload_n dX1_shapeFault_39 rfl rfl ?_
        refine o_iconst dX1_shapeFault_40 ic_1 ?_
        refine o_iadd dX1_shapeFault_41 ?_
        refine o_istn_1 dX1_shapeFault_42 rfl rfl (Nat.le_of_ble_eq_true rfl) ?_
        refine o_inc_2 dX1_shapeFault_43 rfl ic_1 (Nat.le_of_ble_eq_true rfl) ?_
        refine o_goto (tgt := 4) dX1_shapeFault_46 (by decide) ?_
        exact o_eqa (by rw [nI_1]; first | done | rfl) rfl (ih (s + j + 1) 0 (by omega) (by omega) (hH.done hlt hf he))
    · have hf : fsB lt s j = false := bI_0.mp c_21
      refine o_iload_n dX1_shapeFault_24 rfl rfl ?_
      refine o_iret dX1_shapeFault_25 rfl (vp_nar_int _) (Nat.le_of_ble_eq_true rfl) (Nat.le_of_ble_eq_true rfl) ?_
      exact ⟨by rw [hH.bad hlt hf]; rfl, rfl⟩
theorem tX1_shapeFault {lt : Nat → Int32} {L : Nat} (hL : L ≤ 96) : PD mX1_shapeFault [.ref 0] (lG lt (nI L)) (some (.int (sfV (shQ lt L 97 0 0).1))) (lG lt (nI L)) := by
  refine PM.ofp 2 (by decide) (Nat.le_of_ble_eq_true rfl) ?_
  show Ok mX1_shapeFault none 0 [some (.ref 0), none, none] [] (lG lt (nI L)) 0 0 _
  refine o_iconst dX1_shapeFault_0 ic_0 ?_
  refine o_istn_1 dX1_shapeFault_1 rfl rfl (Nat.le_of_ble_eq_true rfl) ?_
  refine o_iconst dX1_shapeFault_2 ic_0 ?_
  refine o_istn_2 dX1_shapeFault_3 rfl rfl (Nat.le_of_ble_eq_true rfl) ?_
  exact o_eqa (by rw [nI_0]; first | done | rfl) rfl (lX1_shapeFault hL (L + 1) 0 0 (by omega) (by omega) (SH.begin hL))
