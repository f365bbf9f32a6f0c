theorem dn_100 {nu r : Nat → Int32} : dnS 100 nu r = if inR 8 (nu 2) && inR 8 (nu 3) && !decide (nu 2 = nu 3) && !decide (dN r = 9) then some (adD r (dN r) nu) else none := by rw [dnS, if_pos rfl]
theorem dn_112 {nu r : Nat → Int32} : dnS 112 nu r = if inR 8 (nu 0) && inR 8 (nu 1) && !decide (nN r = 6) then some (adP r (nN r) (nu 0) (nu 1) (nu 2)) else none := by rw [dnS, if_neg (by decide), if_pos rfl]
theorem dn_103 {nu r : Nat → Int32} : dnS 103 nu r = if inR (nN r) (nu 0) && inR 8 (nu 1) then some (upd r (51 + 3 * cN (nu 0)) (nu 1)) else none := by rw [dnS, if_neg (by decide), if_neg (by decide), if_pos rfl]
theorem dn_114 {nu r : Nat → Int32} : dnS 114 nu r = if inR (nN r) (nu 0) && inR 8 (nu 1) then some (upd r (50 + 3 * cN (nu 0)) (nu 1)) else none := by rw [dnS, if_neg (by decide), if_neg (by decide), if_neg (by decide), if_pos rfl]
theorem dn_119 {nu r : Nat → Int32} : dnS 119 nu r = if inR (dN r) (nu 0) then some (upd r (9 + 5 * cN (nu 0)) (r (9 + 5 * cN (nu 0)) ^^^ 1)) else none := by rw [dnS, if_neg (by decide), if_neg (by decide), if_neg (by decide), if_neg (by decide), if_pos rfl]
theorem dn_116 {nu r : Nat → Int32} : dnS 116 nu r = if inR (dN r) (nu 0) then some (tnR r (cN (nu 0))) else none := by rw [dnS, if_neg (by decide), if_neg (by decide), if_neg (by decide), if_neg (by decide), if_neg (by decide), if_pos rfl]
theorem dn_104 {nu r : Nat → Int32} : dnS 104 nu r = if isInB (nu 0) 1 60 && !decide (999 < r 2 + nu 0) then some (hrs r (cN (nu 0))) else none := by rw [dnS, if_neg (by decide), if_neg (by decide), if_neg (by decide), if_neg (by decide), if_neg (by decide), if_neg (by decide)]
theorem at_hr {lt : Nat → Int32} {s k : Nat} (h : s + k < 96) : atF 96 lt (nI s + nI k) = hrF lt 96 (s + k) := by rw [nI_add, atF_nI h (by decide), hrF_lt h]
theorem at_h1 {lt : Nat → Int32} {s : Nat} (h : s + 1 < 96) : atF 96 lt (nI s + 1) = hrF lt 96 (s + 1) := at_hr (k := 1) h
theorem at_h2 {lt : Nat → Int32} {s : Nat} (h : s + 2 < 96) : atF 96 lt (nI s + 2) = hrF lt 96 (s + 2) := at_hr (k := 2) h
theorem at_h3 {lt : Nat → Int32} {s : Nat} (h : s + 3 < 96) : atF 96 lt (nI s + 3) = hrF lt 96 (s + 3) := at_hr (k := 3) h
theorem at_h4 {lt : Nat → Int32} {s : Nat} (h : s + 4 < 96) : atF 96 lt (nI s + 4) = hrF lt 96 (s + 4) := at_hr (k := 4) h
theorem nu_d {lt : Nat → Int32} {s : Nat} (hs : s + 6 ≤ 96) (e : lt s = 100) : kdF (atF 96 lt (nI s + 1)) = nuV lt 96 s 0 ∧ atF 96 lt (nI s + 2) - 48 = nuV lt 96 s 1 ∧ atF 96 lt (nI s + 3) - 48 = nuV lt 96 s 2 ∧ atF 96 lt (nI s + 4) - 48 = nuV lt 96 s 3 := by
  have ec : hrF lt 96 s = 100 := by rw [hrF_lt (by omega), e]
  rw [at_h1 (by omega), at_h2 (by omega), at_h3 (by omega), at_h4 (by omega), nuV, nuV, nuV, nuV, if_pos ec, if_pos ec, if_pos ec, if_pos ec]
  exact ⟨rfl, rfl, rfl, rfl⟩
theorem nu_h {lt : Nat → Int32} {s : Nat} (hs : s + 4 ≤ 96) (e : lt s = 104) : 10 * (atF 96 lt (nI s + 1) - 48) + (atF 96 lt (nI s + 2) - 48) = nuV lt 96 s 0 := by
  have ec : hrF lt 96 s = 104 := by rw [hrF_lt (by omega), e]
  rw [at_h1 (by omega), at_h2 (by omega), nuV, if_neg (by rw [ec]; decide), if_pos ec, Int32.sub_eq_add_neg (10 * (hrF lt 96 (s + 1) - 48) + hrF lt 96 (s + 2)) 48, Int32.add_assoc, ← Int32.sub_eq_add_neg]
theorem nu_x {lt : Nat → Int32} {s j : Nat} (h1 : ¬ lt s = 100) (h2 : ¬ lt s = 104) (hs : s < 96) (hj : s + 1 + j < 96) : nuV lt 96 s j = hrF lt 96 (s + 1 + j) - 48 := by
  rw [nuV, hrF_lt hs, if_neg h1, if_neg h2]
theorem nu_1 {lt : Nat → Int32} {s : Nat} (hs : s + 1 < 96) (h1 : ¬ lt s = 100) (h2 : ¬ lt s = 104) : atF 96 lt (nI s + 1) - 48 = nuV lt 96 s 0 := by rw [at_h1 hs, nu_x h1 h2 (by omega) (by omega)]
theorem nu_2 {lt : Nat → Int32} {s : Nat} (hs : s + 2 < 96) (h1 : ¬ lt s = 100) (h2 : ¬ lt s = 104) : atF 96 lt (nI s + 2) - 48 = nuV lt 96 s 1 := by rw [at_h2 hs, nu_x h1 h2 (by omega) (by omega)]
theorem nu_3 {lt : Nat → Int32} {s : Nat} (hs : s + 3 < 96) (h1 : ¬ lt s = 100) (h2 : ¬ lt s = 104) : atF 96 lt (nI s + 3) - 48 = nuV lt 96 s 2 := by rw [at_h3 hs, nu_x h1 h2 (by omega) (by omega)]
theorem dN_adD {r nu : Nat → Int32} (h9 : dN r ≤ 9) : dN (adD r (dN r) nu) = dN r + 1 := by
  unfold dN
  rw [adD_at.2.2.2.2.2, cN_nI (by unfold dN at h9; omega)]
theorem tadd_yes {r ws fs nu : Nat → Int32} (hS : SOk r) (hD : dN r < 9) (h1 : inR 8 (nu 2) = true) (h2 : inR 8 (nu 3) = true) (h3 : ¬ nu 2 = nu 3) (hO : SOk (adD r (dN r) nu)) : PD mX0_addDoor [.ref 1, .int (nu 0), .int (nu 1), .int (nu 2), .int (nu 3)] (tW r ws fs) (some (.int 1)) (tW (adD r (dN r) nu) (wsO (adD r (dN r) nu)) (fsO (adD r (dN r) nu))) := by
  have e := dN_adD (nu := nu) hS.d9
  have hT := hO.T
  rw [e] at hT
  have q := tt_add_yes (ws := ws) (fs := fs) hD hS.e0 h1 h2 h3 hT
  unfold wsO fsO
  rw [e]
  exact q
theorem tadd_no {r ws fs nu : Nat → Int32} (hS : SOk r) (hno : (inR 8 (nu 2) && inR 8 (nu 3) && !decide (nu 2 = nu 3) && !decide (dN r = 9)) = false) : PD mX0_addDoor [.ref 1, .int (nu 0), .int (nu 1), .int (nu 2), .int (nu 3)] (tW r ws fs) (some (.int 0)) (tW r ws fs) := by
  have h9 := hS.d9
  refine tt_add_no h9 hS.e0 ?_
  rw [show decide (dN r < 9) = !decide (dN r = 9) from by by_cases c : dN r = 9; rw [decide_eq_true c, decide_eq_false (show ¬ dN r < 9 by omega)]; rfl; rw [decide_eq_false c, decide_eq_true (show dN r < 9 by omega)]; rfl]
  revert hno
  cases inR 8 (nu 2) <;> cases inR 8 (nu 3) <;> cases decide (nu 2 = nu 3) <;> cases decide (dN r = 9) <;> decide
theorem go0 {r ws : Nat → Int32} (hS : SOk r) : PD mX3_goHours [.ref 0, .int 0, .int 0] (tW r ws (fsO r)) (some (.int (wentC (fsO r) (dN r) (nN r) false r 0))) (tW r ws (fsO r)) := goS (n := 0) hS (by omega)
abbrev ltW (lt : Nat → Int32) (lm : Int32) (r ws fs : Nat → Int32) : PW := [.inr (1, [.ref 1]), .inr (2, [.ref 2, .int lm]), .inl (96, lt), .inr (3, [.ref 4, .ref 12, .ref 13, .ref 14, .int (r 1), .int (r 2), .int (r 3)]), .inr (0, [.ref 5, .ref 6, .ref 7, .ref 8, .ref 9, .ref 10, .ref 11, .int (r 0)]), .inl (9, kdO r), .inl (9, fgO r), .inl (9, frO r), .inl (9, inO r), .inl (9, wdO r), .inl (64, ws), .inl (64, fs), .inl (7, rmO r), .inl (7, glO r), .inl (7, mdO r)]
theorem tl_no {lt : Nat → Int32} {lm : Int32} {r : Nat → Int32} {o : Option (Nat → Int32)} (h : o = none) : (some (.int 0) : Option Value) = some (.int (bI o.isSome)) ∧ ltW lt lm r (wsO r) (fsO r) = ltW lt lm (o.getD r) (wsO (o.getD r)) (fsO (o.getD r)) := by subst h; exact ⟨rfl, rfl⟩
theorem tl_yes {lt : Nat → Int32} {lm : Int32} {r r2 ws fs : Nat → Int32} {o : Option (Nat → Int32)} (h : o = some r2) (h1 : ws = wsO r2 := by rfl) (h2 : fs = fsO r2 := by rfl) : (some (.int 1) : Option Value) = some (.int (bI o.isSome)) ∧ ltW lt lm r2 ws fs = ltW lt lm (o.getD r) (wsO (o.getD r)) (fsO (o.getD r)) := by subst h; subst h1; subst h2; exact ⟨rfl, rfl⟩
theorem tp_no {r ws fs : Nat → Int32} {a b c : Int32} (hS : SOk r) (hno : (inR 8 a && inR 8 b && !decide (nN r = 6)) = false) : PD mX1_tellPerson [.ref 0, .int a, .int b, .int c] (tW r ws fs) (some (.int 0)) (tW r ws fs) := by
  refine PM.ofp 0 (by decide) (Nat.le_of_ble_eq_true rfl) ?_
  show Ok mX1_tellPerson none 0 [some (.ref 0), some (.int a), some (.int b), some (.int c)] [] (tW r ws fs) 0 0 _
  refine o_aload_n dX1_tellPerson_0 rfl rfl ?_
  refine o_getf (j := 4) dX1_tellPerson_1 rfl hcX3 inX3 (Nat.le_of_ble_eq_true rfl) wd149 rfl rfl ?_
  refine o_eqs (by rw [hS.e1]) ?_
  refine o_bipush dX1_tellPerson_4 bp_6 ?_
  refine o_icmp_ge (tgt := 23) dX1_tellPerson_6 (by decide) (fun c_6 => ?_) (fun c_6 => ?_)
  · skip
    refine o_iconst dX1_tellPerson_23 ic_0 ?_
    refine o_iret dX1_tellPerson_24 rfl (by first | exact nz_b _ | decide) (Nat.le_of_ble_eq_true rfl) (Nat.le_of_ble_eq_true rfl) ?_
    exact ⟨rfl, rfl⟩
  · have q0 : ¬ nN r = 6 := fun e => c_6 (by rw [e]; exact Int32.le_refl _)
    refine o_iload_n dX1_tellPerson_9 rfl rfl ?_
    refine o_callSNr (is := []) (tX4_isRoom) ⟨rfl, rfl⟩ dX1_tellPerson_10 wd309 csX4_isRoom rfl ⟨(Nat.le_of_ble_eq_true rfl), (Nat.le_of_ble_eq_true rfl)⟩ rfl rfl rfl (Nat.le_of_ble_eq_true rfl) (Nat.le_of_ble_eq_true rfl) (Nat.le_of_ble_eq_true rfl) ?_
    refine o_if_eq (tgt := 23) dX1_tellPerson_13 (by decide) (fun c_13 => ?_) (fun c_13 => ?_)
    · skip
      refine o_iconst dX1_tellPerson_23 ic_0 ?_
      refine o_iret dX1_tellPerson_24 rfl (by first | exact nz_b _ | decide) (Nat.le_of_ble_eq_true rfl) (Nat.le_of_ble_eq_true rfl) ?_
      exact ⟨rfl, rfl⟩
    · have q1 : inR 8 a = true := bI_ne c_13
      refine o_iload_n dX1_tellPerson_16 rfl rfl ?_
      refine o_callSNr (is := []) (tX4_isRoom) ⟨rfl, rfl⟩ dX1_tellPerson_17 wd309 csX4_isRoom rfl ⟨(Nat.le_of_ble_eq_true rfl), (Nat.le_of_ble_eq_true rfl)⟩ rfl rfl rfl (Nat.le_of_ble_eq_true rfl) (Nat.le_of_ble_eq_true rfl) (Nat.le_of_ble_eq_true rfl) ?_
      refine o_if_ne (tgt := 25) dX1_tellPerson_20 (by decide) (fun c_20 => ?_) (fun c_20 => ?_)
      · have q2 : inR 8 b = true := bI_ne c_20
        exact absurd hno (by rw [q1, q2, decide_eq_false q0]; decide)
      · skip
        refine o_iconst dX1_tellPerson_23 ic_0 ?_
        refine o_iret dX1_tellPerson_24 rfl (by first | exact nz_b _ | decide) (Nat.le_of_ble_eq_true rfl) (Nat.le_of_ble_eq_true rfl) ?_
        exact ⟨rfl, rfl⟩
theorem tp_yes {r ws fs : Nat → Int32} {a b c : Int32} (hS : SOk r) (h1 : inR 8 a = true) (h2 : inR 8 b = true) (h3 : ¬ nN r = 6) : PD mX1_tellPerson [.ref 0, .int a, .int b, .int c] (tW r ws fs) (some (.int 1)) (tW (adP r (nN r) a b c) ws fs) := by
  refine PM.ofp 0 (by decide) (Nat.le_of_ble_eq_true rfl) ?_
  show Ok mX1_tellPerson none 0 [some (.ref 0), some (.int a), some (.int b), some (.int c)] [] (tW r ws fs) 0 0 _
  have h6 := hS.n6
  refine o_aload_n dX1_tellPerson_0 rfl rfl ?_
  refine o_getf (j := 4) dX1_tellPerson_1 rfl hcX3 inX3 (Nat.le_of_ble_eq_true rfl) wd149 rfl rfl ?_
  refine o_eqs (by rw [hS.e1]) ?_
  refine o_bipush dX1_tellPerson_4 bp_6 ?_
  refine o_icmp_ge (tgt := 23) dX1_tellPerson_6 (by decide) (fun c_6 => ?_) (fun c_6 => ?_)
  · exact absurd (geI (b := 6) (by omega) (by omega) c_6) (by omega)
  · skip
    refine o_iload_n dX1_tellPerson_9 rfl rfl ?_
    refine o_callSNr (is := []) (tX4_isRoom) ⟨rfl, rfl⟩ dX1_tellPerson_10 wd309 csX4_isRoom rfl ⟨(Nat.le_of_ble_eq_true rfl), (Nat.le_of_ble_eq_true rfl)⟩ rfl rfl rfl (Nat.le_of_ble_eq_true rfl) (Nat.le_of_ble_eq_true rfl) (Nat.le_of_ble_eq_true rfl) ?_
    refine o_if_eq (tgt := 23) dX1_tellPerson_13 (by decide) (fun c_13 => ?_) (fun c_13 => ?_)
    · exact absurd (bI_0.mp c_13) (by rw [show isRoomB a = inR 8 a from rfl, h1]; decide)
    · skip
      refine o_iload_n dX1_tellPerson_16 rfl rfl ?_
      refine o_callSNr (is := []) (tX4_isRoom) ⟨rfl, rfl⟩ dX1_tellPerson_17 wd309 csX4_isRoom rfl ⟨(Nat.le_of_ble_eq_true rfl), (Nat.le_of_ble_eq_true rfl)⟩ rfl rfl rfl (Nat.le_of_ble_eq_true rfl) (Nat.le_of_ble_eq_true rfl) (Nat.le_of_ble_eq_true rfl) ?_
      refine o_if_ne (tgt := 25) dX1_tellPerson_20 (by decide) (fun c_20 => ?_) (fun c_20 => ?_)
      · skip
        refine o_aload_n dX1_tellPerson_25 rfl rfl ?_
        refine o_iload_n dX1_tellPerson_26 rfl rfl ?_
        refine o_iload_n dX1_tellPerson_27 rfl rfl ?_
        refine o_iload_n dX1_tellPerson_28 rfl rfl ?_
        refine o_callVd (w2 := tW (adP r (nN r) a b c) ws fs) (is := [0, 1, 2, 3, 4, 5, 6, 7, 8, 9, 10, 11]) (tX3_addPerson (N := nN r) (by omega) hS.e1) ⟨rfl, rfl⟩ dX1_tellPerson_29 wd310 cvX3_addPerson rfl ⟨(Nat.le_of_ble_eq_true rfl), (Nat.le_of_ble_eq_true rfl)⟩ hcX3 rfl rfl rfl rfl (Nat.le_of_ble_eq_true rfl) (Nat.le_of_ble_eq_true rfl) (Nat.le_of_ble_eq_true rfl) rfl ?_
        refine o_iconst dX1_tellPerson_32 ic_1 ?_
        refine o_iret dX1_tellPerson_33 rfl (by first | exact nz_b _ | decide) (Nat.le_of_ble_eq_true rfl) (Nat.le_of_ble_eq_true rfl) ?_
        exact ⟨rfl, rfl⟩
      · exact absurd (bI_0.mp c_20) (by rw [show isRoomB b = inR 8 b from rfl, h2]; decide)
theorem tr_no_gl {r ws fs : Nat → Int32} {x y : Int32} (hS : SOk r) (hno : (inR (nN r) x && inR 8 y) = false) : PD mX1_tellRoom [.ref 0, .ref 10, .int x, .int y] (tW r ws fs) (some (.int 0)) (tW r ws fs) := by
  refine PM.ofp 0 (by decide) (Nat.le_of_ble_eq_true rfl) ?_
  show Ok mX1_tellRoom none 0 [some (.ref 0), some (.ref 10), some (.int x), some (.int y)] [] (tW r ws fs) 0 0 _
  refine o_aload_n dX1_tellRoom_0 rfl rfl ?_
  refine o_iload_n dX1_tellRoom_1 rfl rfl ?_
  refine o_callVr (is := [0, 1, 2, 3, 4, 5, 6, 7, 8, 9, 10, 11]) (xhas hS) ⟨rfl, rfl⟩ dX1_tellRoom_2 wd318 cvX3_has rfl ⟨(Nat.le_of_ble_eq_true rfl), (Nat.le_of_ble_eq_true rfl)⟩ hcX3 rfl rfl rfl rfl (Nat.le_of_ble_eq_true rfl) (Nat.le_of_ble_eq_true rfl) (Nat.le_of_ble_eq_true rfl) ?_
  refine o_if_eq (tgt := 15) dX1_tellRoom_5 (by decide) (fun c_5 => ?_) (fun c_5 => ?_)
  · skip
    refine o_iconst dX1_tellRoom_15 ic_0 ?_
    refine o_iret dX1_tellRoom_16 rfl (by first | exact nz_b _ | decide) (Nat.le_of_ble_eq_true rfl) (Nat.le_of_ble_eq_true rfl) ?_
    exact ⟨rfl, rfl⟩
  · have q1 : inR (nN r) x = true := bI_ne c_5
    refine o_iload_n dX1_tellRoom_8 rfl rfl ?_
    refine o_callSNr (is := []) (tX4_isRoom) ⟨rfl, rfl⟩ dX1_tellRoom_9 wd309 csX4_isRoom rfl ⟨(Nat.le_of_ble_eq_true rfl), (Nat.le_of_ble_eq_true rfl)⟩ rfl rfl rfl (Nat.le_of_ble_eq_true rfl) (Nat.le_of_ble_eq_true rfl) (Nat.le_of_ble_eq_true rfl) ?_
    refine o_if_ne (tgt := 17) dX1_tellRoom_12 (by decide) (fun c_12 => ?_) (fun c_12 => ?_)
    · have q2 : inR 8 y = true := bI_ne c_12
      exact absurd hno (by rw [q1, q2]; decide)
    · skip
      refine o_iconst dX1_tellRoom_15 ic_0 ?_
      refine o_iret dX1_tellRoom_16 rfl (by first | exact nz_b _ | decide) (Nat.le_of_ble_eq_true rfl) (Nat.le_of_ble_eq_true rfl) ?_
      exact ⟨rfl, rfl⟩
theorem tr_yes_gl {r ws fs : Nat → Int32} {p : Nat} {y : Int32} (hS : SOk r) (hp : p < nN r) (h2 : inR 8 y = true) : PD mX1_tellRoom [.ref 0, .ref 10, .int (nI p), .int y] (tW r ws fs) (some (.int 1)) (tW (upd r (51 + 3 * p) y) ws fs) := by
  refine PM.ofp 0 (by decide) (Nat.le_of_ble_eq_true rfl) ?_
  show Ok mX1_tellRoom none 0 [some (.ref 0), some (.ref 10), some (.int (nI p)), some (.int y)] [] (tW r ws fs) 0 0 _
  have h6 := hS.n6
  refine o_aload_n dX1_tellRoom_0 rfl rfl ?_
  refine o_iload_n dX1_tellRoom_1 rfl rfl ?_
  refine o_callVr (is := [0, 1, 2, 3, 4, 5, 6, 7, 8, 9, 10, 11]) (xhas hS) ⟨rfl, rfl⟩ dX1_tellRoom_2 wd318 cvX3_has rfl ⟨(Nat.le_of_ble_eq_true rfl), (Nat.le_of_ble_eq_true rfl)⟩ hcX3 rfl rfl rfl rfl (Nat.le_of_ble_eq_true rfl) (Nat.le_of_ble_eq_true rfl) (Nat.le_of_ble_eq_true rfl) ?_
  refine o_if_eq (tgt := 15) dX1_tellRoom_5 (by decide) (fun c_5 => ?_) (fun c_5 => ?_)
  · exact absurd (bI_0.mp c_5) (by rw [inR_nI (by omega) hp]; decide)
  · skip
    refine o_iload_n dX1_tellRoom_8 rfl rfl ?_
    refine o_callSNr (is := []) (tX4_isRoom) ⟨rfl, rfl⟩ dX1_tellRoom_9 wd309 csX4_isRoom rfl ⟨(Nat.le_of_ble_eq_true rfl), (Nat.le_of_ble_eq_true rfl)⟩ rfl rfl rfl (Nat.le_of_ble_eq_true rfl) (Nat.le_of_ble_eq_true rfl) (Nat.le_of_ble_eq_true rfl) ?_
    refine o_if_ne (tgt := 17) dX1_tellRoom_12 (by decide) (fun c_12 => ?_) (fun c_12 => ?_)
    · skip
      refine o_aload_n dX1_tellRoom_17 rfl rfl ?_
      refine o_iload_n dX1_tellRoom_18 rfl rfl ?_
      refine o_iload_n dX1_tellRoom_19 rfl rfl ?_
      refine o_callSNd (w2 := tW (upd r (51 + 3 * p) y) ws fs) (is := [0, 1, 2, 3, 4, 5, 6, 7, 8, 9, 10, 11]) (tput_gl (by omega)) ⟨rfl, rfl⟩ dX1_tellRoom_20 wd322 csX4_put rfl ⟨(Nat.le_of_ble_eq_true rfl), (Nat.le_of_ble_eq_true rfl)⟩ rfl rfl rfl (Nat.le_of_ble_eq_true rfl) (Nat.le_of_ble_eq_true rfl) (Nat.le_of_ble_eq_true rfl) rfl ?_
      refine o_iconst dX1_tellRoom_23 ic_1 ?_
      refine o_iret dX1_tellRoom_24 rfl (by first | exact nz_b _ | decide) (Nat.le_of_ble_eq_true rfl) (Nat.le_of_ble_eq_true rfl) ?_
      exact ⟨rfl, rfl⟩
    · exact absurd (bI_0.mp c_12) (by rw [show isRoomB y = inR 8 y from rfl, h2]; decide)
theorem tr_no_rm {r ws fs : Nat → Int32} {x y : Int32} (hS : SOk r) (hno : (inR (nN r) x && inR 8 y) = false) : PD mX1_tellRoom [.ref 0, .ref 9, .int x, .int y] (tW r ws fs) (some (.int 0)) (tW r ws fs) := by
  refine PM.ofp 0 (by decide) (Nat.le_of_ble_eq_true rfl) ?_
  show Ok mX1_tellRoom none 0 [some (.ref 0), some (.ref 9), some (.int x), some (.int y)] [] (tW r ws fs) 0 0 _
  refine o_aload_n dX1_tellRoom_0 rfl rfl ?_
  refine o_iload_n dX1_tellRoom_1 rfl rfl ?_
  refine o_callVr (is := [0, 1, 2, 3, 4, 5, 6, 7, 8, 9, 10, 11]) (xhas hS) ⟨rfl, rfl⟩ dX1_tellRoom_2 wd318 cvX3_has rfl ⟨(Nat.le_of_ble_eq_true rfl), (Nat.le_of_ble_eq_true rfl)⟩ hcX3 rfl rfl rfl rfl (Nat.le_of_ble_eq_true rfl) (Nat.le_of_ble_eq_true rfl) (Nat.le_of_ble_eq_true rfl) ?_
  refine o_if_eq (tgt := 15) dX1_tellRoom_5 (by decide) (fun c_5 => ?_) (fun c_5 => ?_)
  · skip
    refine o_iconst dX1_tellRoom_15 ic_0 ?_
    refine o_iret dX1_tellRoom_16 rfl (by first | exact nz_b _ | decide) (Nat.le_of_ble_eq_true rfl) (Nat.le_of_ble_eq_true rfl) ?_
    exact ⟨rfl, rfl⟩
  · have q1 : inR (nN r) x = true := bI_ne c_5
    refine o_iload_n dX1_tellRoom_8 rfl rfl ?_
    refine o_callSNr (is := []) (tX4_isRoom) ⟨rfl, rfl⟩ dX1_tellRoom_9 wd309 csX4_isRoom rfl ⟨(Nat.le_of_ble_eq_true rfl), (Nat.le_of_ble_eq_true rfl)⟩ rfl rfl rfl (Nat.le_of_ble_eq_true rfl) (Nat.le_of_ble_eq_true rfl) (Nat.le_of_ble_eq_true rfl) ?_
    refine o_if_ne (tgt := 17) dX1_tellRoom_12 (by decide) (fun c_12 => ?_) (fun c_12 => ?_)
    · have q2 : inR 8 y = true := bI_ne c_12
      exact absurd hno (by rw [q1, q2]; decide)
    · skip
      refine o_iconst dX1_tellRoom_15 ic_0 ?_
      refine o_iret dX1_tellRoom_16 rfl (by first | exact nz_b _ | decide) (Nat.le_of_ble_eq_true rfl) (Nat.le_of_ble_eq_true rfl) ?_
      exact ⟨rfl, rfl⟩
theorem tr_yes_rm {r ws fs : Nat → Int32} {p : Nat} {y : Int32} (hS : SOk r) (hp : p < nN r) (h2 : inR 8 y = true) : PD mX1_tellRoom [.ref 0, .ref 9, .int (nI p), .int y] (tW r ws fs) (some (.int 1)) (tW (upd r (50 + 3 * p) y) ws fs) := by
  refine PM.ofp 0 (by decide) (Nat.le_of_ble_eq_true rfl) ?_
  show Ok mX1_tellRoom none 0 [some (.ref 0), some (.ref 9), some (.int (nI p)), some (.int y)] [] (tW r ws fs) 0 0 _
  have h6 := hS.n6
  refine o_aload_n dX1_tellRoom_0 rfl rfl ?_
  refine o_iload_n dX1_tellRoom_1 rfl rfl ?_
  refine o_callVr (is := [0, 1, 2, 3, 4, 5, 6, 7, 8, 9, 10, 11]) (xhas hS) ⟨rfl, rfl⟩ dX1_tellRoom_2 wd318 cvX3_has rfl ⟨(Nat.le_of_ble_eq_true rfl), (Nat.le_of_ble_eq_true rfl)⟩ hcX3 rfl rfl rfl rfl (Nat.le_of_ble_eq_true rfl) (Nat.le_of_ble_eq_true rfl) (Nat.le_of_ble_eq_true rfl) ?_
  refine o_if_eq (tgt := 15) dX1_tellRoom_5 (by decide) (fun c_5 => ?_) (fun c_5 => ?_)
  · exact absurd (bI_0.mp c_5) (by rw [inR_nI (by omega) hp]; decide)
  · skip
    refine o_iload_n dX1_tellRoom_8 rfl rfl ?_
    refine o_callSNr (is := []) (tX4_isRoom) ⟨rfl, rfl⟩ dX1_tellRoom_9 wd309 csX4_isRoom rfl ⟨(Nat.le_of_ble_eq_true rfl), (Nat.le_of_ble_eq_true rfl)⟩ rfl rfl rfl (Nat.le_of_ble_eq_true rfl) (Nat.le_of_ble_eq_true rfl) (Nat.le_of_ble_eq_true rfl) ?_
    refine o_if_ne (tgt := 17) dX1_tellRoom_12 (by decide) (fun c_12 => ?_) (fun c_12 => ?_)
    · skip
      refine o_aload_n dX1_tellRoom_17 rfl rfl ?_
      refine o_iload_n dX1_tellRoom_18 rfl rfl ?_
      refine o_iload_n dX1_tellRoom_19 rfl rfl ?_
      refine o_callSNd (w2 := tW (upd r (50 + 3 * p) y) ws fs) (is := [0, 1, 2, 3, 4, 5, 6, 7, 8, 9, 10, 11]) (tput_rm (by omega)) ⟨rfl, rfl⟩ dX1_tellRoom_20 wd322 csX4_put rfl ⟨(Nat.le_of_ble_eq_true rfl), (Nat.le_of_ble_eq_true rfl)⟩ rfl rfl rfl (Nat.le_of_ble_eq_true rfl) (Nat.le_of_ble_eq_true rfl) (Nat.le_of_ble_eq_true rfl) rfl ?_
      refine o_iconst dX1_tellRoom_23 ic_1 ?_
      refine o_iret dX1_tellRoom_24 rfl (by first | exact nz_b _ | decide) (Nat.le_of_ble_eq_true rfl) (Nat.le_of_ble_eq_true rfl) ?_
      exact ⟨rfl, rfl⟩
    · exact absurd (bI_0.mp c_12) (by rw [show isRoomB y = inR 8 y from rfl, h2]; decide)
theorem td_no {r ws fs : Nat → Int32} {x b : Int32} (hS : SOk r) (hno : inR (dN r) x = false) : PD mX1_tellDoor [.ref 0, .int x, .int b] (tW r ws fs) (some (.int 0)) (tW r ws fs) := by
  refine PM.ofp 0 (by decide) (Nat.le_of_ble_eq_true rfl) ?_
  show Ok mX1_tellDoor none 0 [some (.ref 0), some (.int x), some (.int b)] [] (tW r ws fs) 0 0 _
  refine o_aload_n dX1_tellDoor_0 rfl rfl ?_
  refine o_getf (j := 0) dX1_tellDoor_1 rfl hcX3 inX3 (Nat.le_of_ble_eq_true rfl) wd139 rfl rfl ?_
  refine o_iload_n dX1_tellDoor_4 rfl rfl ?_
  refine o_callVr (is := [1, 2, 3, 4, 5, 6, 7, 8]) (dhas hS) ⟨rfl, rfl⟩ dX1_tellDoor_5 wd326 cvX0_has rfl ⟨(Nat.le_of_ble_eq_true rfl), (Nat.le_of_ble_eq_true rfl)⟩ hcX0 rfl rfl rfl rfl (Nat.le_of_ble_eq_true rfl) (Nat.le_of_ble_eq_true rfl) (Nat.le_of_ble_eq_true rfl) ?_
  refine o_if_ne (tgt := 13) dX1_tellDoor_8 (by decide) (fun c_8 => ?_) (fun c_8 => ?_)
  · exact absurd (bI_ne c_8) (by rw [hno]; decide)
  · skip
    refine o_iconst dX1_tellDoor_11 ic_0 ?_
    refine o_iret dX1_tellDoor_12 rfl (by first | exact nz_b _ | decide) (Nat.le_of_ble_eq_true rfl) (Nat.le_of_ble_eq_true rfl) ?_
    exact ⟨rfl, rfl⟩
theorem td_turn {r ws fs : Nat → Int32} {d : Nat} (hS : SOk r) (hd : d < dN r) : PD mX1_tellDoor [.ref 0, .int (nI d), .int 1] (tW r ws fs) (some (.int 1)) (tW (tnR r d) (wsO (tnR r d)) (fsO (tnR r d))) := by
  refine PM.ofp 0 (by decide) (Nat.le_of_ble_eq_true rfl) ?_
  show Ok mX1_tellDoor none 0 [some (.ref 0), some (.int (nI d)), some (.int 1)] [] (tW r ws fs) 0 0 _
  have h9 := hS.d9
  refine o_aload_n dX1_tellDoor_0 rfl rfl ?_
  refine o_getf (j := 0) dX1_tellDoor_1 rfl hcX3 inX3 (Nat.le_of_ble_eq_true rfl) wd139 rfl rfl ?_
  refine o_iload_n dX1_tellDoor_4 rfl rfl ?_
  refine o_callVr (is := [1, 2, 3, 4, 5, 6, 7, 8]) (dhas hS) ⟨rfl, rfl⟩ dX1_tellDoor_5 wd326 cvX0_has rfl ⟨(Nat.le_of_ble_eq_true rfl), (Nat.le_of_ble_eq_true rfl)⟩ hcX0 rfl rfl rfl rfl (Nat.le_of_ble_eq_true rfl) (Nat.le_of_ble_eq_true rfl) (Nat.le_of_ble_eq_true rfl) ?_
  refine o_if_ne (tgt := 13) dX1_tellDoor_8 (by decide) (fun c_8 => ?_) (fun c_8 => ?_)
  · skip
    refine o_iload_n dX1_tellDoor_13 rfl rfl ?_
    refine o_if_eq (tgt := 29) dX1_tellDoor_14 (by decide) (fun cq => absurd cq (by decide)) (fun _ => ?_)
    refine o_aload_n dX1_tellDoor_17 rfl rfl ?_
    refine o_getf (j := 0) dX1_tellDoor_18 rfl hcX3 inX3 (Nat.le_of_ble_eq_true rfl) wd139 rfl rfl ?_
    refine o_iload_n dX1_tellDoor_21 rfl rfl ?_
    refine o_callVd (w2 := tW (tnR r d) (wsO (tnR r d)) (fsO (tnR r d))) (is := [0, 1, 2, 3, 4, 5, 6, 7, 8, 9, 10, 11]) (tt_turn (by omega) (hS.turn hd).T) ⟨rfl, rfl⟩ dX1_tellDoor_22 wd330 cvX0_changeSides rfl ⟨(Nat.le_of_ble_eq_true rfl), (Nat.le_of_ble_eq_true rfl)⟩ hcX0 rfl rfl rfl rfl (Nat.le_of_ble_eq_true rfl) (Nat.le_of_ble_eq_true rfl) (Nat.le_of_ble_eq_true rfl) rfl ?_
    refine o_pop dX1_tellDoor_25 rfl ?_
    refine o_goto (tgt := 38) dX1_tellDoor_26 (by decide) ?_
    refine o_iconst dX1_tellDoor_38 ic_1 ?_
    refine o_iret dX1_tellDoor_39 rfl (by first | exact nz_b _ | decide) (Nat.le_of_ble_eq_true rfl) (Nat.le_of_ble_eq_true rfl) ?_
    exact ⟨rfl, rfl⟩
  · exact absurd (bI_0.mp c_8) (by rw [inR_nI (by omega) hd]; decide)
theorem td_wedge {r ws fs : Nat → Int32} {d : Nat} (hS : SOk r) (hd : d < dN r) : PD mX1_tellDoor [.ref 0, .int (nI d), .int 0] (tW r ws fs) (some (.int 1)) (tW (upd r (9 + 5 * d) (1 - r (9 + 5 * d))) ws fs) := by
  refine PM.ofp 0 (by decide) (Nat.le_of_ble_eq_true rfl) ?_
  show Ok mX1_tellDoor none 0 [some (.ref 0), some (.int (nI d)), some (.int 0)] [] (tW r ws fs) 0 0 _
  have h9 := hS.d9
  refine o_aload_n dX1_tellDoor_0 rfl rfl ?_
  refine o_getf (j := 0) dX1_tellDoor_1 rfl hcX3 inX3 (Nat.le_of_ble_eq_true rfl) wd139 rfl rfl ?_
  refine o_iload_n dX1_tellDoor_4 rfl rfl ?_
  refine o_callVr (is := [1, 2, 3, 4, 5, 6, 7, 8]) (dhas hS) ⟨rfl, rfl⟩ dX1_tellDoor_5 wd326 cvX0_has rfl ⟨(Nat.le_of_ble_eq_true rfl), (Nat.le_of_ble_eq_true rfl)⟩ hcX0 rfl rfl rfl rfl (Nat.le_of_ble_eq_true rfl) (Nat.le_of_ble_eq_true rfl) (Nat.le_of_ble_eq_true rfl) ?_
  refine o_if_ne (tgt := 13) dX1_tellDoor_8 (by decide) (fun c_8 => ?_) (fun c_8 => ?_)
  · skip
    refine o_iload_n dX1_tellDoor_13 rfl rfl ?_
    refine o_if_eq (tgt := 29) dX1_tellDoor_14 (by decide) (fun _ => ?_) (fun cq => absurd (by decide) cq)
    refine o_aload_n dX1_tellDoor_29 rfl rfl ?_
    refine o_getf (j := 0) dX1_tellDoor_30 rfl hcX3 inX3 (Nat.le_of_ble_eq_true rfl) wd139 rfl rfl ?_
    refine o_iload_n dX1_tellDoor_33 rfl rfl ?_
    refine o_callVd (w2 := tW (upd r (9 + 5 * d) (1 - r (9 + 5 * d))) ws fs) (is := [0, 1, 2, 3, 4, 5, 6, 7, 8, 9, 10, 11]) (tt_wedge (by omega)) ⟨rfl, rfl⟩ dX1_tellDoor_34 wd334 cvX0_wedgeOrNot rfl ⟨(Nat.le_of_ble_eq_true rfl), (Nat.le_of_ble_eq_true rfl)⟩ hcX0 rfl rfl rfl rfl (Nat.le_of_ble_eq_true rfl) (Nat.le_of_ble_eq_true rfl) (Nat.le_of_ble_eq_true rfl) rfl ?_
    refine o_pop dX1_tellDoor_37 rfl ?_
    refine o_iconst dX1_tellDoor_38 ic_1 ?_
    refine o_iret dX1_tellDoor_39 rfl (by first | exact nz_b _ | decide) (Nat.le_of_ble_eq_true rfl) (Nat.le_of_ble_eq_true rfl) ?_
    exact ⟨rfl, rfl⟩
  · exact absurd (bI_0.mp c_8) (by rw [inR_nI (by omega) hd]; decide)
theorem tX1_tell {lt : Nat → Int32} {lm : Int32} {r : Nat → Int32} {s : Nat} (hS : SOk r) (hs : s + lenC (lt s) ≤ 96) (hl : 0 < lenC (lt s)) (hok : ∀ r2, dnS (lt s) (nuV lt 96 s) r = some r2 → SOk r2) : PD mX1_tell [.ref 0, .int (nI s), .ref 3] (ltW lt lm r (wsO r) (fsO r)) (some (.int (bI (dnS (lt s) (nuV lt 96 s) r).isSome))) (ltW lt lm ((dnS (lt s) (nuV lt 96 s) r).getD r) (wsO ((dnS (lt s) (nuV lt 96 s) r).getD r)) (fsO ((dnS (lt s) (nuV lt 96 s) r).getD r))) := by
  refine PM.ofp 5 (by decide) (Nat.le_of_ble_eq_true rfl) ?_
  show Ok mX1_tell none 0 [some (.ref 0), some (.int (nI s)), some (.ref 3), none, none, none, none, none] [] (ltW lt lm r (wsO r) (fsO r)) 0 0 _
  refine o_aload_n dX1_tell_0 rfl rfl ?_
  refine o_iload_n dX1_tell_1 rfl rfl ?_
  refine o_iconst dX1_tell_2 ic_1 ?_
  refine o_iadd dX1_tell_3 ?_
  refine o_callVr (is := [0, 1, 2]) (tX1_digitAt) ⟨rfl, rfl⟩ dX1_tell_4 wd295 cvX1_digitAt rfl ⟨(Nat.le_of_ble_eq_true rfl), (Nat.le_of_ble_eq_true rfl)⟩ hcX1 rfl rfl rfl rfl (Nat.le_of_ble_eq_true rfl) (Nat.le_of_ble_eq_true rfl) (Nat.le_of_ble_eq_true rfl) ?_
  refine o_istn_3 dX1_tell_7 rfl rfl (Nat.le_of_ble_eq_true rfl) ?_
  refine o_aload_n dX1_tell_8 rfl rfl ?_
  refine o_iload_n dX1_tell_9 rfl rfl ?_
  refine o_iconst dX1_tell_10 ic_2 ?_
  refine o_iadd dX1_tell_11 ?_
  refine o_callVr (is := [0, 1, 2]) (tX1_digitAt) ⟨rfl, rfl⟩ dX1_tell_12 wd295 cvX1_digitAt rfl ⟨(Nat.le_of_ble_eq_true rfl), (Nat.le_of_ble_eq_true rfl)⟩ hcX1 rfl rfl rfl rfl (Nat.le_of_ble_eq_true rfl) (Nat.le_of_ble_eq_true rfl) (Nat.le_of_ble_eq_true rfl) ?_
  refine o_istg_4 dX1_tell_15 rfl (Nat.le_of_ble_eq_true rfl) ?_
  refine o_aload_n dX1_tell_17 rfl rfl ?_
  refine o_iload_n dX1_tell_18 rfl rfl ?_
  refine o_iconst dX1_tell_19 ic_3 ?_
  refine o_iadd dX1_tell_20 ?_
  refine o_callVr (is := [0, 1, 2]) (tX1_digitAt) ⟨rfl, rfl⟩ dX1_tell_21 wd295 cvX1_digitAt rfl ⟨(Nat.le_of_ble_eq_true rfl), (Nat.le_of_ble_eq_true rfl)⟩ hcX1 rfl rfl rfl rfl (Nat.le_of_ble_eq_true rfl) (Nat.le_of_ble_eq_true rfl) (Nat.le_of_ble_eq_true rfl) ?_
  refine o_istg_5 dX1_tell_24 rfl (Nat.le_of_ble_eq_true rfl) ?_
  refine o_aload_n dX1_tell_26 rfl rfl ?_
  refine o_getf (j := 0) dX1_tell_27 rfl hcX1 inX1 (Nat.le_of_ble_eq_true rfl) wd197 rfl rfl ?_
  refine o_getf (j := 0) dX1_tell_30 rfl hcX2 inX2 (Nat.le_of_ble_eq_true rfl) wd187 rfl rfl ?_
  refine o_iload_n dX1_tell_33 rfl rfl ?_
  refine o_callSNr (is := [2]) (at_f (by decide) rfl (by omega)) ⟨rfl, rfl⟩ dX1_tell_34 wd265 csX4_at rfl ⟨(Nat.le_of_ble_eq_true rfl), (Nat.le_of_ble_eq_true rfl)⟩ rfl rfl rfl (Nat.le_of_ble_eq_true rfl) (Nat.le_of_ble_eq_true rfl) (Nat.le_of_ble_eq_true rfl) ?_
  refine o_sw (lo := 100) (hi := 119) 20 (by decide) (by decide) (by decide) (fun hsw => ?_) (fun j hj hsw => ?_)
  · refine o_tabOut (tgt := 290) dX1_tell_37 hsw (by decide) ?_
    refine o_iconst dX1_tell_290 ic_0 ?_
    refine o_iret dX1_tell_291 rfl (by first | exact nz_b _ | decide) (Nat.le_of_ble_eq_true rfl) (Nat.le_of_ble_eq_true rfl) ?_
    first | exact absurd hl (by rw [hsw]; decide) | exact absurd hl (by rw [lenC_out hsw]; decide)
  · match j, hj, hsw with
    | 0, _, hsw =>
      refine o_tabInE (tgt := 132) (off := 95) dX1_tell_37 hsw (by decide) (by decide) (by decide) (by decide) ?_
      have hsw := sw_eq (l := 100) hsw (by decide)
      refine Decidable.byCases (p := (inR 8 (nuV lt 96 s 2) && inR 8 (nuV lt 96 s 3) && !decide (nuV lt 96 s 2 = nuV lt 96 s 3) && !decide (dN r = 9)) = true) (fun hb => ?_) (fun hb => ?_)
      · have hl6 : s + 6 ≤ 96 := by rw [hsw] at hs; exact hs
        obtain ⟨d0, d1, d2, d3⟩ := nu_d hl6 hsw
        have hd : dnS (lt s) (nuV lt 96 s) r = some (adD r (dN r) (nuV lt 96 s)) := by rw [hsw, dn_100, if_pos hb]
        have hO := hok _ hd
        simp only [Bool.and_eq_true, Bool.not_eq_true', decide_eq_false_iff_not] at hb
        refine o_aload_n dX1_tell_132 rfl rfl ?_
        refine o_getf (j := 0) dX1_tell_133 rfl hcX3 inX3 (Nat.le_of_ble_eq_true rfl) wd139 rfl rfl ?_
        refine o_aload_n dX1_tell_136 rfl rfl ?_
        refine o_getf (j := 0) dX1_tell_137 rfl hcX1 inX1 (Nat.le_of_ble_eq_true rfl) wd197 rfl rfl ?_
        refine o_getf (j := 0) dX1_tell_140 rfl hcX2 inX2 (Nat.le_of_ble_eq_true rfl) wd187 rfl rfl ?_
        refine o_iload_n dX1_tell_143 rfl rfl ?_
        refine o_iconst dX1_tell_144 ic_1 ?_
        refine o_iadd dX1_tell_145 ?_
        refine o_callSNr (is := [2]) (tX4_at (by decide)) ⟨rfl, rfl⟩ dX1_tell_146 wd265 csX4_at rfl ⟨(Nat.le_of_ble_eq_true rfl), (Nat.le_of_ble_eq_true rfl)⟩ rfl rfl rfl (Nat.le_of_ble_eq_true rfl) (Nat.le_of_ble_eq_true rfl) (Nat.le_of_ble_eq_true rfl) ?_
        refine o_callSr (is := []) (tX1_kindOf) ⟨rfl, rfl⟩ dX1_tell_149 wd266 csX1_kindOf rfl ⟨(Nat.le_of_ble_eq_true rfl), (Nat.le_of_ble_eq_true rfl)⟩ rfl rfl rfl (Nat.le_of_ble_eq_true rfl) (Nat.le_of_ble_eq_true rfl) (Nat.le_of_ble_eq_true rfl) ?_
        refine o_iload dX1_tell_152 rfl ?_
        refine o_iload dX1_tell_154 rfl ?_
        refine o_aload_n dX1_tell_156 rfl rfl ?_
        refine o_iload_n dX1_tell_157 rfl rfl ?_
        refine o_iconst dX1_tell_158 ic_4 ?_
        refine o_iadd dX1_tell_159 ?_
        refine o_callVr (is := [0, 1, 2]) (tX1_digitAt) ⟨rfl, rfl⟩ dX1_tell_160 wd295 cvX1_digitAt rfl ⟨(Nat.le_of_ble_eq_true rfl), (Nat.le_of_ble_eq_true rfl)⟩ hcX1 rfl rfl rfl rfl (Nat.le_of_ble_eq_true rfl) (Nat.le_of_ble_eq_true rfl) (Nat.le_of_ble_eq_true rfl) ?_
        refine o_eqs (by rw [d0, d1, d2, d3]) ?_
        refine o_callVd (w2 := ltW lt lm (adD r (dN r) (nuV lt 96 s)) (wsO (adD r (dN r) (nuV lt 96 s))) (fsO (adD r (dN r) (nuV lt 96 s)))) (is := [3, 4, 5, 6, 7, 8, 9, 10, 11, 12, 13, 14]) (tadd_yes hS (by have := hS.d9; have := hb.2; omega) hb.1.1.1 hb.1.1.2 hb.1.2 hO) ⟨rfl, rfl⟩ dX1_tell_163 wd299 cvX0_addDoor rfl ⟨(Nat.le_of_ble_eq_true rfl), (Nat.le_of_ble_eq_true rfl)⟩ hcX0 rfl rfl rfl rfl (Nat.le_of_ble_eq_true rfl) (Nat.le_of_ble_eq_true rfl) (Nat.le_of_ble_eq_true rfl) (pb_seg 3 (Nat.le_of_ble_eq_true rfl) rfl rfl rfl) ?_
        refine o_iret dX1_tell_166 rfl (by first | exact nz_b _ | decide) (Nat.le_of_ble_eq_true rfl) (Nat.le_of_ble_eq_true rfl) ?_
        exact tl_yes hd
      · have hl6 : s + 6 ≤ 96 := by rw [hsw] at hs; exact hs
        obtain ⟨d0, d1, d2, d3⟩ := nu_d hl6 hsw
        have hb : (inR 8 (nuV lt 96 s 2) && inR 8 (nuV lt 96 s 3) && !decide (nuV lt 96 s 2 = nuV lt 96 s 3) && !decide (dN r = 9)) = false := Bool.eq_false_iff.mpr hb
        have hd : dnS (lt s) (nuV lt 96 s) r = none := by rw [hsw, dn_100, hb, if_neg (by decide)]
        refine o_aload_n dX1_tell_132 rfl rfl ?_
        refine o_getf (j := 0) dX1_tell_133 rfl hcX3 inX3 (Nat.le_of_ble_eq_true rfl) wd139 rfl rfl ?_
        refine o_aload_n dX1_tell_136 rfl rfl ?_
        refine o_getf (j := 0) dX1_tell_137 rfl hcX1 inX1 (Nat.le_of_ble_eq_true rfl) wd197 rfl rfl ?_
        refine o_getf (j := 0) dX1_tell_140 rfl hcX2 inX2 (Nat.le_of_ble_eq_true rfl) wd187 rfl rfl ?_
        refine o_iload_n dX1_tell_143 rfl rfl ?_
        refine o_iconst dX1_tell_144 ic_1 ?_
        refine o_iadd dX1_tell_145 ?_
        refine o_callSNr (is := [2]) (tX4_at (by decide)) ⟨rfl, rfl⟩ dX1_tell_146 wd265 csX4_at rfl ⟨(Nat.le_of_ble_eq_true rfl), (Nat.le_of_ble_eq_true rfl)⟩ rfl rfl rfl (Nat.le_of_ble_eq_true rfl) (Nat.le_of_ble_eq_true rfl) (Nat.le_of_ble_eq_true rfl) ?_
        refine o_callSr (is := []) (tX1_kindOf) ⟨rfl, rfl⟩ dX1_tell_149 wd266 csX1_kindOf rfl ⟨(Nat.le_of_ble_eq_true rfl), (Nat.le_of_ble_eq_true rfl)⟩ rfl rfl rfl (Nat.le_of_ble_eq_true rfl) (Nat.le_of_ble_eq_true rfl) (Nat.le_of_ble_eq_true rfl) ?_
        refine o_iload dX1_tell_152 rfl ?_
        refine o_iload dX1_tell_154 rfl ?_
        refine o_aload_n dX1_tell_156 rfl rfl ?_
        refine o_iload_n dX1_tell_157 rfl rfl ?_
        refine o_iconst dX1_tell_158 ic_4 ?_
        refine o_iadd dX1_tell_159 ?_
        refine o_callVr (is := [0, 1, 2]) (tX1_digitAt) ⟨rfl, rfl⟩ dX1_tell_160 wd295 cvX1_digitAt rfl ⟨(Nat.le_of_ble_eq_true rfl), (Nat.le_of_ble_eq_true rfl)⟩ hcX1 rfl rfl rfl rfl (Nat.le_of_ble_eq_true rfl) (Nat.le_of_ble_eq_true rfl) (Nat.le_of_ble_eq_true rfl) ?_
        refine o_eqs (by rw [d0, d1, d2, d3]) ?_
        refine o_callVd (w2 := ltW lt lm r (wsO r) (fsO r)) (is := [3, 4, 5, 6, 7, 8, 9, 10, 11, 12, 13, 14]) (tadd_no hS hb) ⟨rfl, rfl⟩ dX1_tell_163 wd299 cvX0_addDoor rfl ⟨(Nat.le_of_ble_eq_true rfl), (Nat.le_of_ble_eq_true rfl)⟩ hcX0 rfl rfl rfl rfl (Nat.le_of_ble_eq_true rfl) (Nat.le_of_ble_eq_true rfl) (Nat.le_of_ble_eq_true rfl) (pb_seg 3 (Nat.le_of_ble_eq_true rfl) rfl rfl rfl) ?_
        refine o_iret dX1_tell_166 rfl (by first | exact nz_b _ | decide) (Nat.le_of_ble_eq_true rfl) (Nat.le_of_ble_eq_true rfl) ?_
        exact tl_no hd
    | 1, _, hsw =>
      refine o_tabInE (tgt := 290) (off := 253) dX1_tell_37 hsw (by decide) (by decide) (by decide) (by decide) ?_
      have hsw := sw_eq (l := 101) hsw (by decide)
      refine o_iconst dX1_tell_290 ic_0 ?_
      refine o_iret dX1_tell_291 rfl (by first | exact nz_b _ | decide) (Nat.le_of_ble_eq_true rfl) (Nat.le_of_ble_eq_true rfl) ?_
      first | exact absurd hl (by rw [hsw]; decide) | exact absurd hl (by rw [lenC_out hsw]; decide)
    | 2, _, hsw =>
      refine o_tabInE (tgt := 290) (off := 253) dX1_tell_37 hsw (by decide) (by decide) (by decide) (by decide) ?_
      have hsw := sw_eq (l := 102) hsw (by decide)
      refine o_iconst dX1_tell_290 ic_0 ?_
      refine o_iret dX1_tell_291 rfl (by first | exact nz_b _ | decide) (Nat.le_of_ble_eq_true rfl) (Nat.le_of_ble_eq_true rfl) ?_
      first | exact absurd hl (by rw [hsw]; decide) | exact absurd hl (by rw [lenC_out hsw]; decide)
    | 3, _, hsw =>
      refine o_tabInE (tgt := 177) (off := 140) dX1_tell_37 hsw (by decide) (by decide) (by decide) (by decide) ?_
      have hsw := sw_eq (l := 103) hsw (by decide)
      refine Decidable.byCases (p := (inR (nN r) (nuV lt 96 s 0) && inR 8 (nuV lt 96 s 1)) = true) (fun hb => ?_) (fun hb => ?_)
      · have hl6 : s + 4 ≤ 96 := by rw [hsw] at hs; exact hs
        have n100 : ¬ lt s = 100 := by rw [hsw]; decide
        have n104 : ¬ lt s = 104 := by rw [hsw]; decide
        have d0 := nu_1 (lt := lt) (s := s) (by omega) n100 n104
        have d1 := nu_2 (lt := lt) (s := s) (by omega) n100 n104
        have hd : dnS (lt s) (nuV lt 96 s) r = some (upd r (51 + 3 * cN (nuV lt 96 s 0)) (nuV lt 96 s 1)) := by rw [hsw, dn_103, if_pos hb]
        simp only [Bool.and_eq_true] at hb
        obtain ⟨p, hp, ep⟩ := inR_yes (by have := hS.n6; omega) hb.1
        rw [ep, cN_nI (by have := hS.n6; omega)] at hd
        rw [ep] at d0
        refine o_aload_n dX1_tell_177 rfl rfl ?_
        refine o_aload_n dX1_tell_178 rfl rfl ?_
        refine o_getf (j := 2) dX1_tell_179 rfl hcX3 inX3 (Nat.le_of_ble_eq_true rfl) wd145 rfl rfl ?_
        refine o_iload_n dX1_tell_182 rfl rfl ?_
        refine o_iload dX1_tell_183 rfl ?_
        refine o_eqs (by rw [d0, d1]) ?_
        refine o_callSd (w2 := ltW lt lm (upd r (51 + 3 * p) (nuV lt 96 s 1)) (wsO r) (fsO r)) (is := [3, 4, 5, 6, 7, 8, 9, 10, 11, 12, 13, 14]) (tr_yes_gl hS hp hb.2) ⟨rfl, rfl⟩ dX1_tell_185 wd315 csX1_tellRoom rfl ⟨(Nat.le_of_ble_eq_true rfl), (Nat.le_of_ble_eq_true rfl)⟩ rfl rfl rfl (Nat.le_of_ble_eq_true rfl) (Nat.le_of_ble_eq_true rfl) (Nat.le_of_ble_eq_true rfl) (pb_seg 3 (Nat.le_of_ble_eq_true rfl) rfl rfl rfl) ?_
        refine o_iret dX1_tell_188 rfl (by first | exact nz_b _ | decide) (Nat.le_of_ble_eq_true rfl) (Nat.le_of_ble_eq_true rfl) ?_
        exact tl_yes hd (SD.up hS (Or.inl (by omega))).ws (SD.up hS (Or.inl (by omega))).fs
      · have hl6 : s + 4 ≤ 96 := by rw [hsw] at hs; exact hs
        have n100 : ¬ lt s = 100 := by rw [hsw]; decide
        have n104 : ¬ lt s = 104 := by rw [hsw]; decide
        have d0 := nu_1 (lt := lt) (s := s) (by omega) n100 n104
        have d1 := nu_2 (lt := lt) (s := s) (by omega) n100 n104
        have hb : (inR (nN r) (nuV lt 96 s 0) && inR 8 (nuV lt 96 s 1)) = false := Bool.eq_false_iff.mpr hb
        have hd : dnS (lt s) (nuV lt 96 s) r = none := by rw [hsw, dn_103, hb, if_neg (by decide)]
        refine o_aload_n dX1_tell_177 rfl rfl ?_
        refine o_aload_n dX1_tell_178 rfl rfl ?_
        refine o_getf (j := 2) dX1_tell_179 rfl hcX3 inX3 (Nat.le_of_ble_eq_true rfl) wd145 rfl rfl ?_
        refine o_iload_n dX1_tell_182 rfl rfl ?_
        refine o_iload dX1_tell_183 rfl ?_
        refine o_eqs (by rw [d0, d1]) ?_
        refine o_callSd (w2 := ltW lt lm r (wsO r) (fsO r)) (is := [3, 4, 5, 6, 7, 8, 9, 10, 11, 12, 13, 14]) (tr_no_gl hS hb) ⟨rfl, rfl⟩ dX1_tell_185 wd315 csX1_tellRoom rfl ⟨(Nat.le_of_ble_eq_true rfl), (Nat.le_of_ble_eq_true rfl)⟩ rfl rfl rfl (Nat.le_of_ble_eq_true rfl) (Nat.le_of_ble_eq_true rfl) (Nat.le_of_ble_eq_true rfl) (pb_seg 3 (Nat.le_of_ble_eq_true rfl) rfl rfl rfl) ?_
        refine o_iret dX1_tell_188 rfl (by first | exact nz_b _ | decide) (Nat.le_of_ble_eq_true rfl) (Nat.le_of_ble_eq_true rfl) ?_
        exact tl_no hd
    | 4, _, hsw =>
      refine o_tabInE (tgt := 228) (off := 191) dX1_tell_37 hsw (by decide) (by decide) (by decide) (by decide) ?_
      have hsw := sw_eq (l := 104) hsw (by decide)
      refine o_bipush dX1_tell_228 bp_10 ?_
      refine o_iload_n dX1_tell_230 rfl rfl ?_
      refine o_imul dX1_tell_231 ?_
      refine o_iload dX1_tell_232 rfl ?_
      refine o_iadd dX1_tell_234 ?_
      have hl6 : s + 4 ≤ 96 := by rw [hsw] at hs; exact hs
      refine o_eqs (by rw [nu_h hl6 hsw]) ?_
      refine o_istg_6 dX1_tell_235 rfl (Nat.le_of_ble_eq_true rfl) ?_
      refine o_iload dX1_tell_237 rfl ?_
      refine o_iconst dX1_tell_239 ic_1 ?_
      refine o_icmp_lt (tgt := 267) dX1_tell_240 (by decide) (fun c_240 => ?_) (fun c_240 => ?_)
      · have hd : dnS (lt s) (nuV lt 96 s) r = none := by rw [hsw, dn_104, isInB, decide_eq_true c_240, Bool.not_true, Bool.false_and, Bool.false_and, if_neg (by decide)]
        refine o_iconst dX1_tell_267 ic_0 ?_
        refine o_istg_7 dX1_tell_268 rfl (Nat.le_of_ble_eq_true rfl) ?_
        refine o_aload_n dX1_tell_270 rfl rfl ?_
        refine o_iload dX1_tell_271 rfl ?_
        refine o_if_eq (tgt := 281) dX1_tell_273 (by decide) (fun _ => ?_) (fun cq => absurd (by decide) cq)
        refine o_iconst dX1_tell_281 ic_0 ?_
        refine o_iconst dX1_tell_282 ic_0 ?_
        refine o_callVd (w2 := ltW lt lm r (wsO r) (fsO r)) (is := [3, 4, 5, 6, 7, 8, 9, 10, 11, 12, 13, 14]) (go0 hS) ⟨rfl, rfl⟩ dX1_tell_283 wd338 cvX3_goHours rfl ⟨(Nat.le_of_ble_eq_true rfl), (Nat.le_of_ble_eq_true rfl)⟩ hcX3 rfl rfl rfl rfl (Nat.le_of_ble_eq_true rfl) (Nat.le_of_ble_eq_true rfl) (Nat.le_of_ble_eq_true rfl) (pb_seg 3 (Nat.le_of_ble_eq_true rfl) rfl rfl rfl) ?_
        refine o_pop dX1_tell_286 rfl ?_
        refine o_iload dX1_tell_287 rfl ?_
        refine o_iret dX1_tell_289 rfl (by first | exact nz_b _ | decide) (Nat.le_of_ble_eq_true rfl) (Nat.le_of_ble_eq_true rfl) ?_
        exact tl_no hd
      · skip
        refine o_iload dX1_tell_243 rfl ?_
        refine o_bipush dX1_tell_245 bp_60 ?_
        refine o_icmp_gt (tgt := 267) dX1_tell_247 (by decide) (fun c_247 => ?_) (fun c_247 => ?_)
        · have hd : dnS (lt s) (nuV lt 96 s) r = none := by rw [hsw, dn_104, isInB, decide_eq_true c_247, Bool.not_true, Bool.and_false, Bool.false_and, if_neg (by decide)]
          refine o_iconst dX1_tell_267 ic_0 ?_
          refine o_istg_7 dX1_tell_268 rfl (Nat.le_of_ble_eq_true rfl) ?_
          refine o_aload_n dX1_tell_270 rfl rfl ?_
          refine o_iload dX1_tell_271 rfl ?_
          refine o_if_eq (tgt := 281) dX1_tell_273 (by decide) (fun _ => ?_) (fun cq => absurd (by decide) cq)
          refine o_iconst dX1_tell_281 ic_0 ?_
          refine o_iconst dX1_tell_282 ic_0 ?_
          refine o_callVd (w2 := ltW lt lm r (wsO r) (fsO r)) (is := [3, 4, 5, 6, 7, 8, 9, 10, 11, 12, 13, 14]) (go0 hS) ⟨rfl, rfl⟩ dX1_tell_283 wd338 cvX3_goHours rfl ⟨(Nat.le_of_ble_eq_true rfl), (Nat.le_of_ble_eq_true rfl)⟩ hcX3 rfl rfl rfl rfl (Nat.le_of_ble_eq_true rfl) (Nat.le_of_ble_eq_true rfl) (Nat.le_of_ble_eq_true rfl) (pb_seg 3 (Nat.le_of_ble_eq_true rfl) rfl rfl rfl) ?_
          refine o_pop dX1_tell_286 rfl ?_
          refine o_iload dX1_tell_287 rfl ?_
          refine o_iret dX1_tell_289 rfl (by first | exact nz_b _ | decide) (Nat.le_of_ble_eq_true rfl) (Nat.le_of_ble_eq_true rfl) ?_
          exact tl_no hd
        · skip
          refine o_aload_n dX1_tell_250 rfl rfl ?_
          refine o_getf (j := 5) dX1_tell_251 rfl hcX3 inX3 (Nat.le_of_ble_eq_true rfl) wd153 rfl rfl ?_
          refine o_iload dX1_tell_254 rfl ?_
          refine o_iadd dX1_tell_256 ?_
          refine o_sipush dX1_tell_257 sp_999 ?_
          refine o_icmp_gt (tgt := 267) dX1_tell_260 (by decide) (fun c_260 => ?_) (fun c_260 => ?_)
          · have hd : dnS (lt s) (nuV lt 96 s) r = none := by rw [hsw, dn_104, decide_eq_true c_260, Bool.not_true, Bool.and_false, if_neg (by decide)]
            refine o_iconst dX1_tell_267 ic_0 ?_
            refine o_istg_7 dX1_tell_268 rfl (Nat.le_of_ble_eq_true rfl) ?_
            refine o_aload_n dX1_tell_270 rfl rfl ?_
            refine o_iload dX1_tell_271 rfl ?_
            refine o_if_eq (tgt := 281) dX1_tell_273 (by decide) (fun _ => ?_) (fun cq => absurd (by decide) cq)
            refine o_iconst dX1_tell_281 ic_0 ?_
            refine o_iconst dX1_tell_282 ic_0 ?_
            refine o_callVd (w2 := ltW lt lm r (wsO r) (fsO r)) (is := [3, 4, 5, 6, 7, 8, 9, 10, 11, 12, 13, 14]) (go0 hS) ⟨rfl, rfl⟩ dX1_tell_283 wd338 cvX3_goHours rfl ⟨(Nat.le_of_ble_eq_true rfl), (Nat.le_of_ble_eq_true rfl)⟩ hcX3 rfl rfl rfl rfl (Nat.le_of_ble_eq_true rfl) (Nat.le_of_ble_eq_true rfl) (Nat.le_of_ble_eq_true rfl) (pb_seg 3 (Nat.le_of_ble_eq_true rfl) rfl rfl rfl) ?_
            refine o_pop dX1_tell_286 rfl ?_
            refine o_iload dX1_tell_287 rfl ?_
            refine o_iret dX1_tell_289 rfl (by first | exact nz_b _ | decide) (Nat.le_of_ble_eq_true rfl) (Nat.le_of_ble_eq_true rfl) ?_
            exact tl_no hd
          · have hd : dnS (lt s) (nuV lt 96 s) r = some (hrs r (cN (nuV lt 96 s 0))) := by rw [hsw, dn_104, isInB, decide_eq_false c_240, decide_eq_false c_247, decide_eq_false c_260]; rfl
            obtain ⟨q, hq1, hq2, hq⟩ := rng1 (b := 60) (by omega) c_240 c_247
            rw [hq, cN_nI (by omega)] at hd
            refine o_iconst dX1_tell_263 ic_1 ?_
            refine o_goto (tgt := 268) dX1_tell_264 (by decide) ?_
            refine o_istg_7 dX1_tell_268 rfl (Nat.le_of_ble_eq_true rfl) ?_
            refine o_aload_n dX1_tell_270 rfl rfl ?_
            refine o_iload dX1_tell_271 rfl ?_
            refine o_if_eq (tgt := 281) dX1_tell_273 (by decide) (fun cq => absurd cq (by decide)) (fun _ => ?_)
            refine o_iload dX1_tell_276 rfl ?_
            refine o_eqs (by rw [hq]) ?_
            refine o_goto (tgt := 282) dX1_tell_278 (by decide) ?_
            refine o_iconst dX1_tell_282 ic_0 ?_
            refine o_callVd (w2 := ltW lt lm (hrs r q) (wsO r) (fsO r)) (is := [3, 4, 5, 6, 7, 8, 9, 10, 11, 12, 13, 14]) (goS hS (by omega)) ⟨rfl, rfl⟩ dX1_tell_283 wd338 cvX3_goHours rfl ⟨(Nat.le_of_ble_eq_true rfl), (Nat.le_of_ble_eq_true rfl)⟩ hcX3 rfl rfl rfl rfl (Nat.le_of_ble_eq_true rfl) (Nat.le_of_ble_eq_true rfl) (Nat.le_of_ble_eq_true rfl) (pb_seg 3 (Nat.le_of_ble_eq_true rfl) rfl rfl rfl) ?_
            refine o_pop dX1_tell_286 rfl ?_
            refine o_iload dX1_tell_287 rfl ?_
            refine o_iret dX1_tell_289 rfl (by first | exact nz_b _ | decide) (Nat.le_of_ble_eq_true rfl) (Nat.le_of_ble_eq_true rfl) ?_
            exact tl_yes hd (SD.hrs hS q).ws (SD.hrs hS q).fs
    | 5, _, hsw =>
      refine o_tabInE (tgt := 290) (off := 253) dX1_tell_37 hsw (by decide) (by decide) (by decide) (by decide) ?_
      have hsw := sw_eq (l := 105) hsw (by decide)
      refine o_iconst dX1_tell_290 ic_0 ?_
      refine o_iret dX1_tell_291 rfl (by first | exact nz_b _ | decide) (Nat.le_of_ble_eq_true rfl) (Nat.le_of_ble_eq_true rfl) ?_
      first | exact absurd hl (by rw [hsw]; decide) | exact absurd hl (by rw [lenC_out hsw]; decide)
    | 6, _, hsw =>
      refine o_tabInE (tgt := 290) (off := 253) dX1_tell_37 hsw (by decide) (by decide) (by decide) (by decide) ?_
      have hsw := sw_eq (l := 106) hsw (by decide)
      refine o_iconst dX1_tell_290 ic_0 ?_
      refine o_iret dX1_tell_291 rfl (by first | exact nz_b _ | decide) (Nat.le_of_ble_eq_true rfl) (Nat.le_of_ble_eq_true rfl) ?_
      first | exact absurd hl (by rw [hsw]; decide) | exact absurd hl (by rw [lenC_out hsw]; decide)
    | 7, _, hsw =>
      refine o_tabInE (tgt := 290) (off := 253) dX1_tell_37 hsw (by decide) (by decide) (by decide) (by decide) ?_
      have hsw := sw_eq (l := 107) hsw (by decide)
      refine o_iconst dX1_tell_290 ic_0 ?_
      refine o_iret dX1_tell_291 rfl (by first | exact nz_b _ | decide) (Nat.le_of_ble_eq_true rfl) (Nat.le_of_ble_eq_true rfl) ?_
      first | exact absurd hl (by rw [hsw]; decide) | exact absurd hl (by rw [lenC_out hsw]; decide)
    | 8, _, hsw =>
      refine o_tabInE (tgt := 290) (off := 253) dX1_tell_37 hsw (by decide) (by decide) (by decide) (by decide) ?_
      have hsw := sw_eq (l := 108) hsw (by decide)
      refine o_iconst dX1_tell_290 ic_0 ?_
      refine o_iret dX1_tell_291 rfl (by first | exact nz_b _ | decide) (Nat.le_of_ble_eq_true rfl) (Nat.le_of_ble_eq_true rfl) ?_
      first | exact absurd hl (by rw [hsw]; decide) | exact absurd hl (by rw [lenC_out hsw]; decide)
    | 9, _, hsw =>
      refine o_tabInE (tgt := 290) (off := 253) dX1_tell_37 hsw (by decide) (by decide) (by decide) (by decide) ?_
      have hsw := sw_eq (l := 109) hsw (by decide)
      refine o_iconst dX1_tell_290 ic_0 ?_
      refine o_iret dX1_tell_291 rfl (by first | exact nz_b _ | decide) (Nat.le_of_ble_eq_true rfl) (Nat.le_of_ble_eq_true rfl) ?_
      first | exact absurd hl (by rw [hsw]; decide) | exact absurd hl (by rw [lenC_out hsw]; decide)
    | 10, _, hsw =>
      refine o_tabInE (tgt := 290) (off := 253) dX1_tell_37 hsw (by decide) (by decide) (by decide) (by decide) ?_
      have hsw := sw_eq (l := 110) hsw (by decide)
      refine o_iconst dX1_tell_290 ic_0 ?_
      refine o_iret dX1_tell_291 rfl (by first | exact nz_b _ | decide) (Nat.le_of_ble_eq_true rfl) (Nat.le_of_ble_eq_true rfl) ?_
      first | exact absurd hl (by rw [hsw]; decide) | exact absurd hl (by rw [lenC_out hsw]; decide)
    | 11, _, hsw =>
      refine o_tabInE (tgt := 290) (off := 253) dX1_tell_37 hsw (by decide) (by decide) (by decide) (by decide) ?_
      have hsw := sw_eq (l := 111) hsw (by decide)
      refine o_iconst dX1_tell_290 ic_0 ?_
      refine o_iret dX1_tell_291 rfl (by first | exact nz_b _ | decide) (Nat.le_of_ble_eq_true rfl) (Nat.le_of_ble_eq_true rfl) ?_
      first | exact absurd hl (by rw [hsw]; decide) | exact absurd hl (by rw [lenC_out hsw]; decide)
    | 12, _, hsw =>
      refine o_tabInE (tgt := 167) (off := 130) dX1_tell_37 hsw (by decide) (by decide) (by decide) (by decide) ?_
      have hsw := sw_eq (l := 112) hsw (by decide)
      refine Decidable.byCases (p := (inR 8 (nuV lt 96 s 0) && inR 8 (nuV lt 96 s 1) && !decide (nN r = 6)) = true) (fun hb => ?_) (fun hb => ?_)
      · have hl6 : s + 5 ≤ 96 := by rw [hsw] at hs; exact hs
        have n100 : ¬ lt s = 100 := by rw [hsw]; decide
        have n104 : ¬ lt s = 104 := by rw [hsw]; decide
        have d0 := nu_1 (lt := lt) (s := s) (by omega) n100 n104
        have d1 := nu_2 (lt := lt) (s := s) (by omega) n100 n104
        have d2 := nu_3 (lt := lt) (s := s) (by omega) n100 n104
        have hd : dnS (lt s) (nuV lt 96 s) r = some (adP r (nN r) (nuV lt 96 s 0) (nuV lt 96 s 1) (nuV lt 96 s 2)) := by rw [hsw, dn_112, if_pos hb]
        simp only [Bool.and_eq_true, Bool.not_eq_true', decide_eq_false_iff_not] at hb
        refine o_aload_n dX1_tell_167 rfl rfl ?_
        refine o_iload_n dX1_tell_168 rfl rfl ?_
        refine o_iload dX1_tell_169 rfl ?_
        refine o_iload dX1_tell_171 rfl ?_
        refine o_eqs (by rw [d0, d1, d2]) ?_
        refine o_callSd (w2 := ltW lt lm (adP r (nN r) (nuV lt 96 s 0) (nuV lt 96 s 1) (nuV lt 96 s 2)) (wsO r) (fsO r)) (is := [3, 4, 5, 6, 7, 8, 9, 10, 11, 12, 13, 14]) (tp_yes hS hb.1.1 hb.1.2 hb.2) ⟨rfl, rfl⟩ dX1_tell_173 wd306 csX1_tellPerson rfl ⟨(Nat.le_of_ble_eq_true rfl), (Nat.le_of_ble_eq_true rfl)⟩ rfl rfl rfl (Nat.le_of_ble_eq_true rfl) (Nat.le_of_ble_eq_true rfl) (Nat.le_of_ble_eq_true rfl) (pb_seg 3 (Nat.le_of_ble_eq_true rfl) rfl rfl rfl) ?_
        refine o_iret dX1_tell_176 rfl (by first | exact nz_b _ | decide) (Nat.le_of_ble_eq_true rfl) (Nat.le_of_ble_eq_true rfl) ?_
        exact tl_yes hd (SD.addP hS).ws (SD.addP hS).fs
      · have hl6 : s + 5 ≤ 96 := by rw [hsw] at hs; exact hs
        have n100 : ¬ lt s = 100 := by rw [hsw]; decide
        have n104 : ¬ lt s = 104 := by rw [hsw]; decide
        have d0 := nu_1 (lt := lt) (s := s) (by omega) n100 n104
        have d1 := nu_2 (lt := lt) (s := s) (by omega) n100 n104
        have d2 := nu_3 (lt := lt) (s := s) (by omega) n100 n104
        have hb : (inR 8 (nuV lt 96 s 0) && inR 8 (nuV lt 96 s 1) && !decide (nN r = 6)) = false := Bool.eq_false_iff.mpr hb
        have hd : dnS (lt s) (nuV lt 96 s) r = none := by rw [hsw, dn_112, hb, if_neg (by decide)]
        refine o_aload_n dX1_tell_167 rfl rfl ?_
        refine o_iload_n dX1_tell_168 rfl rfl ?_
        refine o_iload dX1_tell_169 rfl ?_
        refine o_iload dX1_tell_171 rfl ?_
        refine o_eqs (by rw [d0, d1, d2]) ?_
        refine o_callSd (w2 := ltW lt lm r (wsO r) (fsO r)) (is := [3, 4, 5, 6, 7, 8, 9, 10, 11, 12, 13, 14]) (tp_no hS hb) ⟨rfl, rfl⟩ dX1_tell_173 wd306 csX1_tellPerson rfl ⟨(Nat.le_of_ble_eq_true rfl), (Nat.le_of_ble_eq_true rfl)⟩ rfl rfl rfl (Nat.le_of_ble_eq_true rfl) (Nat.le_of_ble_eq_true rfl) (Nat.le_of_ble_eq_true rfl) (pb_seg 3 (Nat.le_of_ble_eq_true rfl) rfl rfl rfl) ?_
        refine o_iret dX1_tell_176 rfl (by first | exact nz_b _ | decide) (Nat.le_of_ble_eq_true rfl) (Nat.le_of_ble_eq_true rfl) ?_
        exact tl_no hd
    | 13, _, hsw =>
      refine o_tabInE (tgt := 290) (off := 253) dX1_tell_37 hsw (by decide) (by decide) (by decide) (by decide) ?_
      have hsw := sw_eq (l := 113) hsw (by decide)
      refine o_iconst dX1_tell_290 ic_0 ?_
      refine o_iret dX1_tell_291 rfl (by first | exact nz_b _ | decide) (Nat.le_of_ble_eq_true rfl) (Nat.le_of_ble_eq_true rfl) ?_
      first | exact absurd hl (by rw [hsw]; decide) | exact absurd hl (by rw [lenC_out hsw]; decide)
    | 14, _, hsw =>
      refine o_tabInE (tgt := 189) (off := 152) dX1_tell_37 hsw (by decide) (by decide) (by decide) (by decide) ?_
      have hsw := sw_eq (l := 114) hsw (by decide)
      refine Decidable.byCases (p := (inR (nN r) (nuV lt 96 s 0) && inR 8 (nuV lt 96 s 1)) = true) (fun hb => ?_) (fun hb => ?_)
      · have hl6 : s + 4 ≤ 96 := by rw [hsw] at hs; exact hs
        have n100 : ¬ lt s = 100 := by rw [hsw]; decide
        have n104 : ¬ lt s = 104 := by rw [hsw]; decide
        have d0 := nu_1 (lt := lt) (s := s) (by omega) n100 n104
        have d1 := nu_2 (lt := lt) (s := s) (by omega) n100 n104
        have hd : dnS (lt s) (nuV lt 96 s) r = some (upd r (50 + 3 * cN (nuV lt 96 s 0)) (nuV lt 96 s 1)) := by rw [hsw, dn_114, if_pos hb]
        simp only [Bool.and_eq_true] at hb
        obtain ⟨p, hp, ep⟩ := inR_yes (by have := hS.n6; omega) hb.1
        rw [ep, cN_nI (by have := hS.n6; omega)] at hd
        rw [ep] at d0
        refine o_aload_n dX1_tell_189 rfl rfl ?_
        refine o_aload_n dX1_tell_190 rfl rfl ?_
        refine o_getf (j := 1) dX1_tell_191 rfl hcX3 inX3 (Nat.le_of_ble_eq_true rfl) wd142 rfl rfl ?_
        refine o_iload_n dX1_tell_194 rfl rfl ?_
        refine o_iload dX1_tell_195 rfl ?_
        refine o_eqs (by rw [d0, d1]) ?_
        refine o_callSd (w2 := ltW lt lm (upd r (50 + 3 * p) (nuV lt 96 s 1)) (wsO r) (fsO r)) (is := [3, 4, 5, 6, 7, 8, 9, 10, 11, 12, 13, 14]) (tr_yes_rm hS hp hb.2) ⟨rfl, rfl⟩ dX1_tell_197 wd315 csX1_tellRoom rfl ⟨(Nat.le_of_ble_eq_true rfl), (Nat.le_of_ble_eq_true rfl)⟩ rfl rfl rfl (Nat.le_of_ble_eq_true rfl) (Nat.le_of_ble_eq_true rfl) (Nat.le_of_ble_eq_true rfl) (pb_seg 3 (Nat.le_of_ble_eq_true rfl) rfl rfl rfl) ?_
        refine o_iret dX1_tell_200 rfl (by first | exact nz_b _ | decide) (Nat.le_of_ble_eq_true rfl) (Nat.le_of_ble_eq_true rfl) ?_
        exact tl_yes hd (SD.up hS (Or.inl (by omega))).ws (SD.up hS (Or.inl (by omega))).fs
      · have hl6 : s + 4 ≤ 96 := by rw [hsw] at hs; exact hs
        have n100 : ¬ lt s = 100 := by rw [hsw]; decide
        have n104 : ¬ lt s = 104 := by rw [hsw]; decide
        have d0 := nu_1 (lt := lt) (s := s) (by omega) n100 n104
        have d1 := nu_2 (lt := lt) (s := s) (by omega) n100 n104
        have hb : (inR (nN r) (nuV lt 96 s 0) && inR 8 (nuV lt 96 s 1)) = false := Bool.eq_false_iff.mpr hb
        have hd : dnS (lt s) (nuV lt 96 s) r = none := by rw [hsw, dn_114, hb, if_neg (by decide)]
        refine o_aload_n dX1_tell_189 rfl rfl ?_
        refine o_aload_n dX1_tell_190 rfl rfl ?_
        refine o_getf (j := 1) dX1_tell_191 rfl hcX3 inX3 (Nat.le_of_ble_eq_true rfl) wd142 rfl rfl ?_
        refine o_iload_n dX1_tell_194 rfl rfl ?_
        refine o_iload dX1_tell_195 rfl ?_
        refine o_eqs (by rw [d0, d1]) ?_
        refine o_callSd (w2 := ltW lt lm r (wsO r) (fsO r)) (is := [3, 4, 5, 6, 7, 8, 9, 10, 11, 12, 13, 14]) (tr_no_rm hS hb) ⟨rfl, rfl⟩ dX1_tell_197 wd315 csX1_tellRoom rfl ⟨(Nat.le_of_ble_eq_true rfl), (Nat.le_of_ble_eq_true rfl)⟩ rfl rfl rfl (Nat.le_of_ble_eq_true rfl) (Nat.le_of_ble_eq_true rfl) (Nat.le_of_ble_eq_true rfl) (pb_seg 3 (Nat.le_of_ble_eq_true rfl) rfl rfl rfl) ?_
        refine o_iret dX1_tell_200 rfl (by first | exact nz_b _ | decide) (Nat.le_of_ble_eq_true rfl) (Nat.le_of_ble_eq_true rfl) ?_
        exact tl_no hd
    | 15, _, hsw =>
      refine o_tabInE (tgt := 290) (off := 253) dX1_tell_37 hsw (by decide) (by decide) (by decide) (by decide) ?_
      have hsw := sw_eq (l := 115) hsw (by decide)
      refine o_iconst dX1_tell_290 ic_0 ?_
      refine o_iret dX1_tell_291 rfl (by first | exact nz_b _ | decide) (Nat.le_of_ble_eq_true rfl) (Nat.le_of_ble_eq_true rfl) ?_
      first | exact absurd hl (by rw [hsw]; decide) | exact absurd hl (by rw [lenC_out hsw]; decide)
    | 16, _, hsw =>
      refine o_tabInE (tgt := 201) (off := 164) dX1_tell_37 hsw (by decide) (by decide) (by decide) (by decide) ?_
      have hsw := sw_eq (l := 116) hsw (by decide)
      refine Decidable.byCases (p := (inR (dN r) (nuV lt 96 s 0)) = true) (fun hb => ?_) (fun hb => ?_)
      · have hl6 : s + 3 ≤ 96 := by rw [hsw] at hs; exact hs
        have n100 : ¬ lt s = 100 := by rw [hsw]; decide
        have n104 : ¬ lt s = 104 := by rw [hsw]; decide
        have d0 := nu_1 (lt := lt) (s := s) (by omega) n100 n104
        have hd : dnS (lt s) (nuV lt 96 s) r = some (tnR r (cN (nuV lt 96 s 0))) := by rw [hsw, dn_116, if_pos hb]
        obtain ⟨p, hp, ep⟩ := inR_yes (by have := hS.d9; omega) hb
        rw [ep, cN_nI (by have := hS.d9; omega)] at hd
        rw [ep] at d0
        refine o_aload_n dX1_tell_201 rfl rfl ?_
        refine o_iload_n dX1_tell_202 rfl rfl ?_
        refine o_aload_n dX1_tell_203 rfl rfl ?_
        refine o_getf (j := 0) dX1_tell_204 rfl hcX1 inX1 (Nat.le_of_ble_eq_true rfl) wd197 rfl rfl ?_
        refine o_getf (j := 0) dX1_tell_207 rfl hcX2 inX2 (Nat.le_of_ble_eq_true rfl) wd187 rfl rfl ?_
        refine o_iload_n dX1_tell_210 rfl rfl ?_
        refine o_callSNr (is := [2]) (at_f (by decide) rfl (by omega)) ⟨rfl, rfl⟩ dX1_tell_211 wd265 csX4_at rfl ⟨(Nat.le_of_ble_eq_true rfl), (Nat.le_of_ble_eq_true rfl)⟩ rfl rfl rfl (Nat.le_of_ble_eq_true rfl) (Nat.le_of_ble_eq_true rfl) (Nat.le_of_ble_eq_true rfl) ?_
        refine o_bipush dX1_tell_214 bp_116 ?_
        refine o_icmp_ne (tgt := 223) dX1_tell_216 (by decide) (fun c_216 => ?_) (fun c_216 => ?_)
        · exact absurd hsw c_216
        · skip
          refine o_iconst dX1_tell_219 ic_1 ?_
          refine o_goto (tgt := 224) dX1_tell_220 (by decide) ?_
          refine o_eqs (by rw [d0]) ?_
          refine o_callSd (w2 := ltW lt lm (tnR r p) (wsO (tnR r p)) (fsO (tnR r p))) (is := [3, 4, 5, 6, 7, 8, 9, 10, 11, 12, 13, 14]) (td_turn hS hp) ⟨rfl, rfl⟩ dX1_tell_224 wd323 csX1_tellDoor rfl ⟨(Nat.le_of_ble_eq_true rfl), (Nat.le_of_ble_eq_true rfl)⟩ rfl rfl rfl (Nat.le_of_ble_eq_true rfl) (Nat.le_of_ble_eq_true rfl) (Nat.le_of_ble_eq_true rfl) (pb_seg 3 (Nat.le_of_ble_eq_true rfl) rfl rfl rfl) ?_
          refine o_iret dX1_tell_227 rfl (by first | exact nz_b _ | decide) (Nat.le_of_ble_eq_true rfl) (Nat.le_of_ble_eq_true rfl) ?_
          exact tl_yes hd
      · have hl6 : s + 3 ≤ 96 := by rw [hsw] at hs; exact hs
        have n100 : ¬ lt s = 100 := by rw [hsw]; decide
        have n104 : ¬ lt s = 104 := by rw [hsw]; decide
        have d0 := nu_1 (lt := lt) (s := s) (by omega) n100 n104
        have hb : (inR (dN r) (nuV lt 96 s 0)) = false := Bool.eq_false_iff.mpr hb
        have hd : dnS (lt s) (nuV lt 96 s) r = none := by rw [hsw, dn_116, hb, if_neg (by decide)]
        refine o_aload_n dX1_tell_201 rfl rfl ?_
        refine o_iload_n dX1_tell_202 rfl rfl ?_
        refine o_aload_n dX1_tell_203 rfl rfl ?_
        refine o_getf (j := 0) dX1_tell_204 rfl hcX1 inX1 (Nat.le_of_ble_eq_true rfl) wd197 rfl rfl ?_
        refine o_getf (j := 0) dX1_tell_207 rfl hcX2 inX2 (Nat.le_of_ble_eq_true rfl) wd187 rfl rfl ?_
        refine o_iload_n dX1_tell_210 rfl rfl ?_
        refine o_callSNr (is := [2]) (at_f (by decide) rfl (by omega)) ⟨rfl, rfl⟩ dX1_tell_211 wd265 csX4_at rfl ⟨(Nat.le_of_ble_eq_true rfl), (Nat.le_of_ble_eq_true rfl)⟩ rfl rfl rfl (Nat.le_of_ble_eq_true rfl) (Nat.le_of_ble_eq_true rfl) (Nat.le_of_ble_eq_true rfl) ?_
        refine o_bipush dX1_tell_214 bp_116 ?_
        refine o_icmp_ne (tgt := 223) dX1_tell_216 (by decide) (fun c_216 => ?_) (fun c_216 => ?_)
        · exact absurd hsw c_216
        · skip
          refine o_iconst dX1_tell_219 ic_1 ?_
          refine o_goto (tgt := 224) dX1_tell_220 (by decide) ?_
          refine o_eqs (by rw [d0]) ?_
          refine o_callSd (w2 := ltW lt lm r (wsO r) (fsO r)) (is := [3, 4, 5, 6, 7, 8, 9, 10, 11, 12, 13, 14]) (td_no hS hb) ⟨rfl, rfl⟩ dX1_tell_224 wd323 csX1_tellDoor rfl ⟨(Nat.le_of_ble_eq_true rfl), (Nat.le_of_ble_eq_true rfl)⟩ rfl rfl rfl (Nat.le_of_ble_eq_true rfl) (Nat.le_of_ble_eq_true rfl) (Nat.le_of_ble_eq_true rfl) (pb_seg 3 (Nat.le_of_ble_eq_true rfl) rfl rfl rfl) ?_
          refine o_iret dX1_tell_227 rfl (by first | exact nz_b _ | decide) (Nat.le_of_ble_eq_true rfl) (Nat.le_of_ble_eq_true rfl) ?_
          exact tl_no hd
    | 17, _, hsw =>
      refine o_tabInE (tgt := 290) (off := 253) dX1_tell_37 hsw (by decide) (by decide) (by decide) (by decide) ?_
      have hsw := sw_eq (l := 117) hsw (by decide)
      refine o_iconst dX1_tell_290 ic_0 ?_
      refine o_iret dX1_tell_291 rfl (by first | exact nz_b _ | decide) (Nat.le_of_ble_eq_true rfl) (Nat.le_of_ble_eq_true rfl) ?_
      first | exact absurd hl (by rw [hsw]; decide) | exact absurd hl (by rw [lenC_out hsw]; decide)
    | 18, _, hsw =>
      refine o_tabInE (tgt := 290) (off := 253) dX1_tell_37 hsw (by decide) (by decide) (by decide) (by decide) ?_
      have hsw := sw_eq (l := 118) hsw (by decide)
      refine o_iconst dX1_tell_290 ic_0 ?_
      refine o_iret dX1_tell_291 rfl (by first | exact nz_b _ | decide) (Nat.le_of_ble_eq_true rfl) (Nat.le_of_ble_eq_true rfl) ?_
      first | exact absurd hl (by rw [hsw]; decide) | exact absurd hl (by rw [lenC_out hsw]; decide)
    | 19, _, hsw =>
      refine o_tabInE (tgt := 201) (off := 164) dX1_tell_37 hsw (by decide) (by decide) (by decide) (by decide) ?_
      have hsw := sw_eq (l := 119) hsw (by decide)
      refine Decidable.byCases (p := (inR (dN r) (nuV lt 96 s 0)) = true) (fun hb => ?_) (fun hb => ?_)
      · have hl6 : s + 3 ≤ 96 := by rw [hsw] at hs; exact hs
        have n100 : ¬ lt s = 100 := by rw [hsw]; decide
        have n104 : ¬ lt s = 104 := by rw [hsw]; decide
        have d0 := nu_1 (lt := lt) (s := s) (by omega) n100 n104
        have hd : dnS (lt s) (nuV lt 96 s) r = some (upd r (9 + 5 * cN (nuV lt 96 s 0)) (r (9 + 5 * cN (nuV lt 96 s 0)) ^^^ 1)) := by rw [hsw, dn_119, if_pos hb]
        obtain ⟨p, hp, ep⟩ := inR_yes (by have := hS.d9; omega) hb
        rw [ep, cN_nI (by have := hS.d9; omega)] at hd
        rw [ep] at d0
        refine o_aload_n dX1_tell_201 rfl rfl ?_
        refine o_iload_n dX1_tell_202 rfl rfl ?_
        refine o_aload_n dX1_tell_203 rfl rfl ?_
        refine o_getf (j := 0) dX1_tell_204 rfl hcX1 inX1 (Nat.le_of_ble_eq_true rfl) wd197 rfl rfl ?_
        refine o_getf (j := 0) dX1_tell_207 rfl hcX2 inX2 (Nat.le_of_ble_eq_true rfl) wd187 rfl rfl ?_
        refine o_iload_n dX1_tell_210 rfl rfl ?_
        refine o_callSNr (is := [2]) (at_f (by decide) rfl (by omega)) ⟨rfl, rfl⟩ dX1_tell_211 wd265 csX4_at rfl ⟨(Nat.le_of_ble_eq_true rfl), (Nat.le_of_ble_eq_true rfl)⟩ rfl rfl rfl (Nat.le_of_ble_eq_true rfl) (Nat.le_of_ble_eq_true rfl) (Nat.le_of_ble_eq_true rfl) ?_
        refine o_bipush dX1_tell_214 bp_116 ?_
        refine o_icmp_ne (tgt := 223) dX1_tell_216 (by decide) (fun c_216 => ?_) (fun c_216 => ?_)
        · skip
          refine o_iconst dX1_tell_223 ic_0 ?_
          refine o_eqs (by rw [d0]) ?_
          refine o_callSd (w2 := ltW lt lm (upd r (9 + 5 * p) (1 - r (9 + 5 * p))) (wsO r) (fsO r)) (is := [3, 4, 5, 6, 7, 8, 9, 10, 11, 12, 13, 14]) (td_wedge hS hp) ⟨rfl, rfl⟩ dX1_tell_224 wd323 csX1_tellDoor rfl ⟨(Nat.le_of_ble_eq_true rfl), (Nat.le_of_ble_eq_true rfl)⟩ rfl rfl rfl (Nat.le_of_ble_eq_true rfl) (Nat.le_of_ble_eq_true rfl) (Nat.le_of_ble_eq_true rfl) (pb_seg 3 (Nat.le_of_ble_eq_true rfl) rfl rfl rfl) ?_
          refine o_iret dX1_tell_227 rfl (by first | exact nz_b _ | decide) (Nat.le_of_ble_eq_true rfl) (Nat.le_of_ble_eq_true rfl) ?_
          have hsd := SD.up hS (v := 1 - r (9 + 5 * p)) (Or.inr (Or.inr (Or.inr ⟨p, Or.inr (Or.inr rfl)⟩)))
          exact tl_yes (by rw [wx1 (hS.dd hp).2]; exact hd) hsd.ws hsd.fs
        · exact absurd (hsw.symm.trans c_216) (by decide)
      · have hl6 : s + 3 ≤ 96 := by rw [hsw] at hs; exact hs
        have n100 : ¬ lt s = 100 := by rw [hsw]; decide
        have n104 : ¬ lt s = 104 := by rw [hsw]; decide
        have d0 := nu_1 (lt := lt) (s := s) (by omega) n100 n104
        have hb : (inR (dN r) (nuV lt 96 s 0)) = false := Bool.eq_false_iff.mpr hb
        have hd : dnS (lt s) (nuV lt 96 s) r = none := by rw [hsw, dn_119, hb, if_neg (by decide)]
        refine o_aload_n dX1_tell_201 rfl rfl ?_
        refine o_iload_n dX1_tell_202 rfl rfl ?_
        refine o_aload_n dX1_tell_203 rfl rfl ?_
        refine o_getf (j := 0) dX1_tell_204 rfl hcX1 inX1 (Nat.le_of_ble_eq_true rfl) wd197 rfl rfl ?_
        refine o_getf (j := 0) dX1_tell_207 rfl hcX2 inX2 (Nat.le_of_ble_eq_true rfl) wd187 rfl rfl ?_
        refine o_iload_n dX1_tell_210 rfl rfl ?_
        refine o_callSNr (is := [2]) (at_f (by decide) rfl (by omega)) ⟨rfl, rfl⟩ dX1_tell_211 wd265 csX4_at rfl ⟨(Nat.le_of_ble_eq_true rfl), (Nat.le_of_ble_eq_true rfl)⟩ rfl rfl rfl (Nat.le_of_ble_eq_true rfl) (Nat.le_of_ble_eq_true rfl) (Nat.le_of_ble_eq_true rfl) ?_
        refine o_bipush dX1_tell_214 bp_116 ?_
        refine o_icmp_ne (tgt := 223) dX1_tell_216 (by decide) (fun c_216 => ?_) (fun c_216 => ?_)
        · skip
          refine o_iconst dX1_tell_223 ic_0 ?_
          refine o_eqs (by rw [d0]) ?_
          refine o_callSd (w2 := ltW lt lm r (wsO r) (fsO r)) (is := [3, 4, 5, 6, 7, 8, 9, 10, 11, 12, 13, 14]) (td_no hS hb) ⟨rfl, rfl⟩ dX1_tell_224 wd323 csX1_tellDoor rfl ⟨(Nat.le_of_ble_eq_true rfl), (Nat.le_of_ble_eq_true rfl)⟩ rfl rfl rfl (Nat.le_of_ble_eq_true rfl) (Nat.le_of_ble_eq_true rfl) (Nat.le_of_ble_eq_true rfl) (pb_seg 3 (Nat.le_of_ble_eq_true rfl) rfl rfl rfl) ?_
          refine o_iret dX1_tell_227 rfl (by first | exact nz_b _ | decide) (Nat.le_of_ble_eq_true rfl) (Nat.le_of_ble_eq_true rfl) ?_
          exact tl_no hd
        · exact absurd (hsw.symm.trans c_216) (by decide)
    | j + 20, hj, _ => exact absurd hj (by omega)
