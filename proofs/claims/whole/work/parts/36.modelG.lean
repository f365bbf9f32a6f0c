theorem fjS_le {lt : Nat → Int32} {L s : Nat} {c : Int32} : ∀ q j, fjS lt L s c q j ≤ j + q
  | 0, j => Nat.le_refl _
  | q + 1, j => by
    rw [fjS]
    split
    · have := fjS_le (lt := lt) (L := L) (s := s) (c := c) q (j + 1); omega
    · omega
theorem fjS_all {lt : Nat → Int32} {L s : Nat} {c : Int32} : ∀ q j, fjS lt L s c q j = j + q → ∀ i, j ≤ i → i < j + q → ftB c i (hrF lt L (s + i)) = true
  | 0, j, _, i, h1, h2 => by omega
  | q + 1, j, h, i, h1, h2 => by
    rw [fjS] at h
    split at h
    · rename_i hb
      by_cases e : i = j
      · subst e; exact hb
      · exact fjS_all q (j + 1) (by omega) i (by omega) (by omega)
    · omega
theorem lenC_le (c : Int32) : lenC c ≤ 6 := by
  unfold lenC
  repeat' split
  all_goals omega
theorem bdJ_le {lt : Nat → Int32} {L s : Nat} : bdJ lt L s ≤ 6 := by
  unfold bdJ
  have := lenC_le (hrF lt L s)
  split
  · omega
  · have := fjS_le (lt := lt) (L := L) (s := s) (c := hrF lt L s) (lenC (hrF lt L s) - 1) 1; omega
theorem gd_len {lt : Nat → Int32} {L s : Nat} (h : gdB lt L s = true) : bdJ lt L s = lenC (hrF lt L s) ∧ 0 < lenC (hrF lt L s) := by
  simp only [gdB, Bool.and_eq_true, Bool.not_eq_true', decide_eq_false_iff_not, decide_eq_true_eq] at h
  exact ⟨h.2, by omega⟩
theorem gd_ft {lt : Nat → Int32} {L s : Nat} (h : gdB lt L s = true) : ∀ j, 1 ≤ j → j < lenC (hrF lt L s) → ftB (hrF lt L s) j (hrF lt L (s + j)) = true := by
  obtain ⟨h1, h2⟩ := gd_len h
  unfold bdJ at h1
  rw [if_neg (by omega)] at h1
  intro j hj hj2
  exact fjS_all (lenC (hrF lt L s) - 1) 1 (by omega) j hj (by omega)
theorem dg_q {x : Int32} (h : dgB x = true) : ∃ a, a ≤ 9 ∧ x = nI (a + 48) ∧ x - 48 = nI a := by
  simp only [dgB, isInB, Bool.and_eq_true, Bool.not_eq_true', decide_eq_false_iff_not] at h
  have h0 : ¬ x < 0 := fun q => h.1 (by
    have h3 := Int32.lt_iff_toInt_lt.mp q
    exact Int32.lt_iff_toInt_lt.mpr (Int.lt_trans h3 (by decide)))
  obtain ⟨q, h3, rfl⟩ := rng (b := 57) (by omega) h0 h.2
  have h4 : 48 ≤ q := Nat.not_lt.mp (fun z => h.1 ((nI_ltI (b := 48) (by omega) (by omega)).mpr z))
  refine ⟨q - 48, by omega, by rw [Nat.sub_add_cancel h4], ?_⟩
  have e : nI q = nI (q - 48) + 48 := by rw [show (48 : Int32) = nI 48 from rfl, nI_add, Nat.sub_add_cancel h4]
  rw [e, Int32.add_sub_cancel]
theorem dg_F {x : Int32} (h : dgB x = true) : FgI (x - 48) := by
  obtain ⟨a, h1, -, h2⟩ := dg_q h
  exact ⟨a, h1, h2⟩
theorem kd_K {x : Int32} (h : ¬ kdF x < 0) : KdI (kdF x) := by
  unfold kdF at h ⊢
  repeat' split
  · exact ⟨0, by omega, rfl⟩
  · exact ⟨1, by omega, rfl⟩
  · exact ⟨2, by omega, rfl⟩
  · exact ⟨3, by omega, rfl⟩
  · exact ⟨4, by omega, rfl⟩
  · exact ⟨5, by omega, rfl⟩
  · rename_i h1 h2 h3 h4 h5 h6
    rw [if_neg h1, if_neg h2, if_neg h3, if_neg h4, if_neg h5, if_neg h6] at h
    exact absurd (by decide) h
theorem adL_congr {r : Nat → Int32} {D : Nat} {nu nu2 : Nat → Int32} : ∀ k, (∀ j, j < k → nu j = nu2 j) → adL r D nu k = adL r D nu2 k
  | 0, _ => rfl
  | k + 1, h => by rw [adL, adL, adL_congr k (fun j hj => h j (by omega)), h k (by omega)]
theorem dnS_congr {c : Int32} {nu nu2 r : Nat → Int32} (h : ∀ j, j < cntC c → nu j = nu2 j) : dnS c nu r = dnS c nu2 r := by
  unfold cntC at h
  unfold dnS
  split
  · rename_i e
    rw [if_pos e] at h
    rw [h 2 (by omega), h 3 (by omega), adD, adD, adL_congr 4 h]
  · rename_i e
    rw [if_neg e] at h
    split
    · rename_i e1
      rw [if_pos e1] at h
      rw [h 0 (by omega), h 1 (by omega), h 2 (by omega)]
    · rename_i e1
      rw [if_neg e1] at h
      split
      · rename_i e2
        rw [if_pos (Or.inl e2)] at h
        rw [h 0 (by omega), h 1 (by omega)]
      · rename_i e2
        split
        · rename_i e3
          rw [if_pos (Or.inr e3)] at h
          rw [h 0 (by omega), h 1 (by omega)]
        · rename_i e3
          rw [if_neg (fun q => by rcases q with q | q; exact e2 q; exact e3 q)] at h
          rw [h 0 (by omega)]
theorem some_if {α : Type} {b : Bool} {x y : α} (h : (if b then some x else none) = some y) : b = true ∧ x = y := by
  cases b with
  | true => exact ⟨rfl, Option.some.inj h⟩
  | false => exact absurd h (by simp)
theorem dn_ok {lt : Nat → Int32} {L s : Nat} {r r2 : Nat → Int32} (hS : SOk r) (hg : gdB lt L s = true) (h : dnS (hrF lt L s) (nuV lt L s) r = some r2) : SOk r2 := by
  have hf := gd_ft hg
  unfold dnS at h
  split at h
  · rename_i e
    obtain ⟨hb, rfl⟩ := some_if h
    simp only [Bool.and_eq_true, Bool.not_eq_true', decide_eq_false_iff_not] at hb
    rw [e] at hf
    have e0 : nuV lt L s 0 = kdF (hrF lt L (s + 1)) := by rw [nuV, e]; rfl
    have e1 : nuV lt L s 1 = hrF lt L (s + 2) - 48 := by rw [nuV, e]; rfl
    have f1 : (!decide (kdF (hrF lt L (s + 1)) < 0)) = true := hf 1 (by omega) (by decide)
    simp only [Bool.not_eq_true', decide_eq_false_iff_not] at f1
    exact hS.addD (by have := hS.d9; omega) (by rw [e0]; exact kd_K f1) (by rw [e1]; exact dg_F (hf 2 (by omega) (by decide))) (inR_RmI hb.1.1.1) (inR_RmI hb.1.1.2) hb.1.2
  · rename_i e
    split at h
    · rename_i e1
      obtain ⟨hb, rfl⟩ := some_if h
      simp only [Bool.and_eq_true, Bool.not_eq_true', decide_eq_false_iff_not] at hb
      rw [e1] at hf
      have e2 : nuV lt L s 2 = hrF lt L (s + 3) - 48 := by rw [nuV, e1]; rfl
      exact hS.addP (by have := hS.n6; omega) (inR_RmI hb.1.1) (inR_RmI hb.1.2) (by rw [e2]; exact dg_F (hf 3 (by omega) (by decide)))
    · split at h
      · obtain ⟨hb, rfl⟩ := some_if h
        simp only [Bool.and_eq_true] at hb
        obtain ⟨d, hd, e⟩ := inR_yes (by have := hS.n6; omega) hb.1
        rw [e, cN_nI (by have := hS.n6; omega)]
        exact hS.goal hd (inR_RmI hb.2)
      · split at h
        · obtain ⟨hb, rfl⟩ := some_if h
          simp only [Bool.and_eq_true] at hb
          obtain ⟨d, hd, e⟩ := inR_yes (by have := hS.n6; omega) hb.1
          rw [e, cN_nI (by have := hS.n6; omega)]
          exact hS.room hd (inR_RmI hb.2)
        · split at h
          · obtain ⟨hb, rfl⟩ := some_if h
            obtain ⟨d, hd, e⟩ := inR_yes (by have := hS.d9; omega) hb
            rw [e, cN_nI (by have := hS.d9; omega)]
            refine hS.wedge hd ?_
            rcases (hS.dd hd).2 with q | q <;> rw [q]
            · exact Or.inr (by decide)
            · exact Or.inl (by decide)
          · split at h
            · obtain ⟨hb, rfl⟩ := some_if h
              obtain ⟨d, hd, e⟩ := inR_yes (by have := hS.d9; omega) hb
              rw [e, cN_nI (by have := hS.d9; omega)]
              exact hS.turn hd
            · obtain ⟨hb, rfl⟩ := some_if h
              simp only [Bool.and_eq_true, isInB, Bool.not_eq_true', decide_eq_false_iff_not] at hb
              obtain ⟨q, h1, h2, e⟩ := rng1 (b := 60) (by omega) hb.1.1 hb.1.2
              have hq := hb.2
              have h9 := hS.h9
              rw [e, hS.e2, nI_add] at hq
              rw [e, cN_nI (by omega)]
              exact hS.hrsOk (Nat.not_lt.mp (fun z => hq ((nI_ltI (a := 999) (by omega) (by omega)).mpr z)))
/-- the first reading: statement by statement, the first letter that does not fit -/
def shQ (lt : Nat → Int32) (L : Nat) : Nat → Nat → Nat → Option Nat × Nat
  | 0, _, n => (none, n)
  | q + 1, s, n => if gdB lt L s then (if s + lenC (hrF lt L s) < L then shQ lt L q (s + lenC (hrF lt L s)) (n + 1) else (none, n + 1)) else (some (s + bdJ lt L s), n + 1)
/-- the second: each statement done -/
def dnQ (lt : Nat → Int32) (L : Nat) : Nat → Nat → (Nat → Int32) → Option Nat × (Nat → Int32)
  | 0, _, r => (none, r)
  | q + 1, s, r => if s < L then (match dnS (hrF lt L s) (nuV lt L s) r with | none => (some s, r) | some r2 => dnQ lt L q (s + lenC (hrF lt L s)) r2) else (none, r)
def ftV : Option Nat → Int32
  | none => -9
  | some f => -1000 - nI f
def dnV : Option Nat → Int32
  | none => -9
  | some f => -2000 - nI f
def dnW (r0 : Nat → Int32) (x : Option Nat × (Nat → Int32)) : Nat → Int32 := match x.1 with
  | none => x.2
  | some _ => r0
theorem ft_ne : ∀ f, f < 103 → ¬ (-1000 - nI f : Int32) = -9 := by decide
theorem dn_ne : ∀ f, f < 103 → ¬ (-2000 - nI f : Int32) = -9 := by decide
def s_town (σ : St) : Res := match σ with
  | (r, im, hi, lt, L, rw, R, rf) => match (shQ lt L 97 0 0).1 with
    | some f => (some (.int (-1000 - nI f)), (r, im, hi, lt, 0, rw, R, rf))
    | none => (some (.int (match (dnQ lt L 97 0 r).1 with | some s => -2000 - nI s | none => nI (shQ lt L 97 0 0).2)), (dnW r (dnQ lt L 97 0 r), im, hi, lt, 0, rw, R, rf))
theorem tsub1 {L s l q : Nat} (h : L - s < q + 1) (h2 : s < L) (h3 : 0 < l) : L - (s + l) < q := by omega
theorem tsub2 {L s l b : Nat} (h : L ≤ 96) (h2 : s < L) (h3 : b ≤ 6) (h4 : b = l) : s + l ≤ 102 := by omega
theorem shQ_lt {lt : Nat → Int32} {L f : Nat} (hL : L ≤ 96) : ∀ q s n, s ≤ 96 → (shQ lt L q s n).1 = some f → f < 103
  | 0, _, _, _, h => by simp [shQ] at h
  | q + 1, s, n, hs, h => by
    rw [shQ] at h
    split at h
    · split at h
      · exact shQ_lt hL q _ _ (by omega) h
      · simp at h
    · have := bdJ_le (lt := lt) (L := L) (s := s)
      simp at h
      omega
theorem dnQ_lt {lt : Nat → Int32} {L f : Nat} : ∀ q s r, (dnQ lt L q s r).1 = some f → f < L
  | 0, _, _, h => by simp [dnQ] at h
  | q + 1, s, r, h => by
    rw [dnQ] at h
    split at h
    · split at h
      · simp at h; omega
      · exact dnQ_lt q _ _ h
    · simp at h
theorem lX5_town1 {r m im wa fr lt rw rf : Nat → Int32} {hi sd : Int32} {L R : Nat} (hL : L ≤ 96) {P : Option Value → PW → Prop} : ∀ (q s n : Nat) (nu : Nat → Int32), L - s < q → (s < L ∨ s = 0) → (∀ (nu2 : Nat → Int32) (pl2 : Int32), Ok mX5_town none 46 [some (.ref 0), some (.int (nI (shQ lt L q s n).2)), some (.int (ftV (shQ lt L q s n).1)), none, none, none] [] (mW r m im wa fr hi lt rw rf (nI L) (nI R) pl2 nu2 sd) 0 0 P) → Ok mX5_town none 10 [some (.ref 0), some (.int (nI n)), some (.int (-9)), none, none, none] [] (mW r m im wa fr hi lt rw rf (nI L) (nI R) (nI s) nu sd) 0 0 (P) := by
  intro q
  induction q with
  | zero => intro s n nu hq; omega
  | succ q ih =>
  intro s n nu hq hs hP
  rw [shQ] at hP
  have hbl := bdJ_le (lt := lt) (L := L) (s := s)
  refine o_aload_n dX5_town_10 rfl rfl ?_
  refine o_callV (is := [0, 1, 2, 3, 4, 5, 6, 7, 8, 9]) (tX5_readsStatement hL (s := s) (by omega)) ⟨rfl, rfl⟩ dX5_town_11 wd741 cvX5_readsStatement rfl ⟨(Nat.le_of_ble_eq_true rfl), (Nat.le_of_ble_eq_true rfl)⟩ hcX5 rfl rfl rfl rfl (Nat.le_of_ble_eq_true rfl) (Nat.le_of_ble_eq_true rfl) (Nat.le_of_ble_eq_true rfl) (fun ra wb hq hqn => ?_)
  obtain ⟨rfl, nu2, rfl, hv⟩ := hq
  refine o_eqw (w2 := mW r m im wa fr hi lt rw rf (nI L) (nI R) (nI (s + bdJ lt L s)) nu2 sd) rfl ?_
  refine o_if_ne (tgt := 26) dX5_town_14 (by decide) (fun c_14 => ?_) (fun c_14 => ?_)
  · have hb : gdB lt L s = true := bI_ne c_14
    obtain ⟨hl1, hl2⟩ := gd_len hb
    rw [if_pos hb] at hP
    refine o_inc_1 dX5_town_26 rfl ic_1 (Nat.le_of_ble_eq_true rfl) ?_
    refine o_iload_n dX5_town_29 rfl rfl ?_
    refine o_bipush dX5_town_30 bp_m9 ?_
    refine o_icmp_ne (tgt := 46) dX5_town_32 (by decide) (fun cq => absurd (by decide) cq) (fun _ => ?_)
    refine o_aload_n dX5_town_35 rfl rfl ?_
    refine o_getf (j := 11) dX5_town_36 rfl hcX5 inX5 (Nat.le_of_ble_eq_true rfl) wd697 rfl rfl ?_
    refine o_aload_n dX5_town_39 rfl rfl ?_
    refine o_getf (j := 9) dX5_town_40 rfl hcX5 inX5 (Nat.le_of_ble_eq_true rfl) wd695 rfl rfl ?_
    refine o_icmp_lt (tgt := 10) dX5_town_43 (by decide) (fun c_43 => ?_) (fun c_43 => ?_)
    · have hlt : s + lenC (hrF lt L s) < L := by rw [← hl1]; exact (nI_ltI (by omega) (by omega)).mp c_43
      rw [if_pos hlt] at hP
      exact o_eqa (by rw [nI_1]) (by rw [hl1]) (ih (s + lenC (hrF lt L s)) (n + 1) nu2 (by omega) (Or.inl hlt) hP)
    · have hlt : ¬ s + lenC (hrF lt L s) < L := by rw [← hl1]; exact fun z => c_43 ((nI_ltI (by omega) (by omega)).mpr z)
      rw [if_neg hlt] at hP
      exact o_eqa (by rw [nI_1]; rfl) rfl (hP nu2 _)
  · have hb : gdB lt L s = false := bI_0.mp c_14
    rw [hb] at hP
    refine o_sipush dX5_town_17 sp_m1000 ?_
    refine o_aload_n dX5_town_20 rfl rfl ?_
    refine o_getf (j := 11) dX5_town_21 rfl hcX5 inX5 (Nat.le_of_ble_eq_true rfl) wd697 rfl rfl ?_
    refine o_isub dX5_town_24 ?_
    refine o_istn_2 dX5_town_25 rfl rfl (Nat.le_of_ble_eq_true rfl) ?_
    refine o_inc_1 dX5_town_26 rfl ic_1 (Nat.le_of_ble_eq_true rfl) ?_
    refine o_iload_n dX5_town_29 rfl rfl ?_
    refine o_bipush dX5_town_30 bp_m9 ?_
    refine o_icmp_ne (tgt := 46) dX5_town_32 (by decide) (fun c_32 => ?_) (fun c_32 => ?_)
    · skip
      exact o_eqa (by rw [nI_1]; rfl) rfl (hP nu2 _)
    · exact absurd c_32 (ft_ne (s + bdJ lt L s) (by omega))
theorem lX5_town4 {r m im wa fr lt rw rf : Nat → Int32} {hi sd : Int32} {L R : Nat} (hL : L ≤ 96) {nu : Nat → Int32} {pl n f : Int32} {x3 x4 x5 : Option Value} : Ok mX5_town none 128 [some (.ref 0), some (.int n), some (.int f), x3, x4, x5] [] (mW r m im wa fr hi lt rw rf (nI L) (nI R) pl nu sd) 0 0 (fun a w => a = some (.int (if f = -9 then n else f)) ∧ w = mW r m im wa fr hi lt rw rf (nI 0) (nI R) pl nu sd) := by
  refine o_aload_n dX5_town_128 rfl rfl ?_
  refine o_iconst dX5_town_129 ic_0 ?_
  refine o_putf (j := 9) tyX5 dX5_town_130 rfl hcX5 inX5 tyX5_ok nmX5 (Nat.le_of_ble_eq_true rfl) wd695 rfl rfl (fun _ => vp_nar_int _) (fun _ => rfl) (Nat.le_of_ble_eq_true rfl) rfl ?_
  refine o_iload_n dX5_town_133 rfl rfl ?_
  refine o_bipush dX5_town_134 bp_m9 ?_
  refine o_icmp_ne (tgt := 143) dX5_town_136 (by decide) (fun c_136 => ?_) (fun c_136 => ?_)
  · skip
    refine o_iload_n dX5_town_143 rfl rfl ?_
    refine o_iret dX5_town_144 rfl (vp_nar_int _) (Nat.le_of_ble_eq_true rfl) (Nat.le_of_ble_eq_true rfl) ?_
    exact ⟨by rw [if_neg c_136], rfl⟩
  · skip
    refine o_iload_n dX5_town_139 rfl rfl ?_
    refine o_goto (tgt := 144) dX5_town_140 (by decide) ?_
    refine o_iret dX5_town_144 rfl (vp_nar_int _) (Nat.le_of_ble_eq_true rfl) (Nat.le_of_ble_eq_true rfl) ?_
    exact ⟨by rw [if_pos c_136], rfl⟩
theorem lX5_town3 {r m im wa fr lt rw rf : Nat → Int32} {hi sd : Int32} {L R : Nat} (hL : L ≤ 96) {nu : Nat → Int32} {pl n f : Int32} {x3 x4 x5 : Option Value} {P : Option Value → PW → Prop} (hf : ¬ f = -9) (hP : Ok mX5_town none 128 [some (.ref 0), some (.int n), some (.int f), x3, x4, x5] [] (mW r m im wa fr hi lt rw rf (nI L) (nI R) pl nu sd) 0 0 P) : Ok mX5_town none 62 [some (.ref 0), some (.int n), some (.int f), x3, x4, x5] [] (mW r m im wa fr hi lt rw rf (nI L) (nI R) pl nu sd) 0 0 (P) := by
  refine o_iload_n dX5_town_62 rfl rfl ?_
  refine o_bipush dX5_town_63 bp_m9 ?_
  refine o_icmp_ne (tgt := 128) dX5_town_65 (by decide) (fun c_65 => ?_) (fun c_65 => ?_)
  · skip
    exact hP
  · exact absurd c_65 hf
theorem lX5_town2 {m im lt rw rf r0 : Nat → Int32} {hi sd : Int32} {L R : Nat} (hL : L ≤ 96) {n : Int32} {P : Option Value → PW → Prop} : ∀ (q s : Nat) (r fr nu : Nat → Int32) (x3 x4 x5 : Option Value), SOk r → L - s < q → s ≤ 102 → (s < L → ∃ q2 n2, L - s < q2 ∧ (shQ lt L q2 s n2).1 = none) → (∀ (x3 x4 x5 : Option Value) (fr2 nu2 : Nat → Int32) (pl2 : Int32), Ok mX5_town none 128 [some (.ref 0), some (.int n), some (.int (dnV (dnQ lt L q s r).1)), x3, x4, x5] [] (mW (dnW r0 (dnQ lt L q s r)) m im r0 fr2 hi lt rw rf (nI L) (nI R) pl2 nu2 sd) 0 0 P) → Ok mX5_town none 62 [some (.ref 0), some (.int n), some (.int (-9)), x3, x4, x5] [] (mW r m im r0 fr hi lt rw rf (nI L) (nI R) (nI s) nu sd) 0 0 (P) := by
  intro q
  induction q with
  | zero => intro s r fr nu x3 x4 x5 hS hq; omega
  | succ q ih =>
  intro s r fr nu x3 x4 x5 hS hq hs hG hP
  rw [dnQ] at hP
  have hbl := bdJ_le (lt := lt) (L := L) (s := s)
  refine o_iload_n dX5_town_62 rfl rfl ?_
  refine o_bipush dX5_town_63 bp_m9 ?_
  refine o_icmp_ne (tgt := 128) dX5_town_65 (by decide) (fun cq => absurd (by decide) cq) (fun _ => ?_)
  refine o_aload_n dX5_town_68 rfl rfl ?_
  refine o_getf (j := 11) dX5_town_69 rfl hcX5 inX5 (Nat.le_of_ble_eq_true rfl) wd697 rfl rfl ?_
  refine o_aload_n dX5_town_72 rfl rfl ?_
  refine o_getf (j := 9) dX5_town_73 rfl hcX5 inX5 (Nat.le_of_ble_eq_true rfl) wd695 rfl rfl ?_
  refine o_icmp_ge (tgt := 128) dX5_town_76 (by decide) (fun c_76 => ?_) (fun c_76 => ?_)
  · have hge : ¬ s < L := Nat.not_lt.mpr (geI (by omega) (by omega) c_76)
    rw [if_neg hge] at hP
    exact hP _ _ _ _ _ _
  · have hlt : s < L := ltI (by omega) (by omega) c_76
    rw [if_pos hlt] at hP
    obtain ⟨q2, n2, hq2, hG2⟩ := hG hlt
    match q2, hq2, hG2 with
    | 0, hq2, _ => omega
    | q2 + 1, hq2, hG2 =>
    rw [shQ] at hG2
    have hb : gdB lt L s = true := by
      cases hb : gdB lt L s with
      | true => rfl
      | false => rw [hb] at hG2; simp at hG2
    rw [if_pos hb] at hG2
    obtain ⟨hl1, hl2⟩ := gd_len hb
    refine o_aload_n dX5_town_79 rfl rfl ?_
    refine o_getf (j := 11) dX5_town_80 rfl hcX5 inX5 (Nat.le_of_ble_eq_true rfl) wd697 rfl rfl ?_
    refine o_istn_3 dX5_town_83 rfl rfl (Nat.le_of_ble_eq_true rfl) ?_
    refine o_aload_n dX5_town_84 rfl rfl ?_
    refine o_callVr (is := [0, 1, 2, 3, 4, 5, 6, 7, 8, 9]) (tX5_here (p := s) (by omega) hL) ⟨rfl, rfl⟩ dX5_town_85 wd745 cvX5_here rfl ⟨(Nat.le_of_ble_eq_true rfl), (Nat.le_of_ble_eq_true rfl)⟩ hcX5 rfl rfl rfl rfl (Nat.le_of_ble_eq_true rfl) (Nat.le_of_ble_eq_true rfl) (Nat.le_of_ble_eq_true rfl) ?_
    refine o_istg_4 dX5_town_88 rfl (Nat.le_of_ble_eq_true rfl) ?_
    refine o_aload_n dX5_town_90 rfl rfl ?_
    refine o_callV (is := [0, 1, 2, 3, 4, 5, 6, 7, 8, 9]) (tX5_readsStatement hL (s := s) (by omega)) ⟨rfl, rfl⟩ dX5_town_91 wd741 cvX5_readsStatement rfl ⟨(Nat.le_of_ble_eq_true rfl), (Nat.le_of_ble_eq_true rfl)⟩ hcX5 rfl rfl rfl rfl (Nat.le_of_ble_eq_true rfl) (Nat.le_of_ble_eq_true rfl) (Nat.le_of_ble_eq_true rfl) (fun ra wb hq hqn => ?_)
    obtain ⟨rfl, nu2, rfl, hv⟩ := hq
    refine o_eqw (w2 := mW r m im r0 fr hi lt rw rf (nI L) (nI R) (nI (s + bdJ lt L s)) nu2 sd) rfl ?_
    refine o_istg_5 dX5_town_94 rfl (Nat.le_of_ble_eq_true rfl) ?_
    refine o_aload_n dX5_town_96 rfl rfl ?_
    refine o_iload dX5_town_97 rfl ?_
    refine o_callV (is := [0, 1, 2, 3, 4, 5, 6, 7, 8, 9]) (tX5_isDone hS) ⟨rfl, rfl⟩ dX5_town_99 wd766 cvX5_isDone rfl ⟨(Nat.le_of_ble_eq_true rfl), (Nat.le_of_ble_eq_true rfl)⟩ hcX5 rfl rfl rfl rfl (Nat.le_of_ble_eq_true rfl) (Nat.le_of_ble_eq_true rfl) (Nat.le_of_ble_eq_true rfl) (fun ra wb hq hqn => ?_)
    obtain ⟨rfl, fr2, rfl⟩ := hq
    have ed := dnS_congr (r := r) (hv hb)
    refine o_eqw (w2 := mW ((dnS (hrF lt L s) nu2 r).getD r) m im r0 fr2 hi lt rw rf (nI L) (nI R) (nI (s + bdJ lt L s)) nu2 sd) rfl ?_
    refine o_if_eq (tgt := 108) dX5_town_102 (by decide) (fun c_102 => ?_) (fun c_102 => ?_)
    · have hn := bI_0.mp c_102
      have hn : dnS (hrF lt L s) (nuV lt L s) r = none := by rw [← ed]; exact Option.not_isSome_iff_eq_none.mp (by rw [hn]; decide)
      rw [hn] at hP
      refine o_sipush dX5_town_108 sp_m2000 ?_
      refine o_iload_n dX5_town_111 rfl rfl ?_
      refine o_isub dX5_town_112 ?_
      refine o_istn_2 dX5_town_113 rfl rfl (Nat.le_of_ble_eq_true rfl) ?_
      refine o_aload_n dX5_town_114 rfl rfl ?_
      refine o_getf (j := 3) dX5_town_115 rfl hcX5 inX5 (Nat.le_of_ble_eq_true rfl) wd689 rfl rfl ?_
      refine o_aload_n dX5_town_118 rfl rfl ?_
      refine o_getf (j := 0) dX5_town_119 rfl hcX5 inX5 (Nat.le_of_ble_eq_true rfl) wd686 rfl rfl ?_
      refine o_callSd (is := [4, 1]) (tX5_copies) ⟨rfl, rfl⟩ dX5_town_122 wd763 csX5_copies rfl ⟨(Nat.le_of_ble_eq_true rfl), (Nat.le_of_ble_eq_true rfl)⟩ rfl rfl rfl (Nat.le_of_ble_eq_true rfl) (Nat.le_of_ble_eq_true rfl) (Nat.le_of_ble_eq_true rfl) rfl ?_
      refine o_goto (tgt := 62) dX5_town_125 (by decide) ?_
      refine lX5_town3 hL (dn_ne s (by omega)) ?_
      exact hP _ _ _ _ _ _
    · have hn := bI_ne c_102
      rw [ed] at hn
      obtain ⟨r2, hr2⟩ := Option.isSome_iff_exists.mp hn
      rw [hr2] at hP
      refine o_goto (tgt := 62) dX5_town_105 (by decide) ?_
      refine o_eqw (w2 := mW r2 m im r0 fr2 hi lt rw rf (nI L) (nI R) (nI (s + lenC (hrF lt L s))) nu2 sd) (by rw [ed, hr2, hl1]; rfl) (ih (s + lenC (hrF lt L s)) r2 fr2 nu2 _ _ _ (dn_ok hS hb hr2) (tsub1 hq hlt hl2) (tsub2 hL hlt hbl hl1) (fun h => ⟨q2, n2 + 1, tsub1 hq2 hlt hl2, by rw [if_pos h] at hG2; exact hG2⟩) hP)
theorem tX5_town {r m im wa fr lt rw rf nu : Nat → Int32} {hi pl sd : Int32} {L R : Nat} (hS : SOk r) (hL : L ≤ 96) : PM mX5_town [.ref 0] (mW r m im wa fr hi lt rw rf (nI L) (nI R) pl nu sd) (MP (s_town (r, im, hi, lt, L, rw, R, rf))) := by
  refine PM.ofp 5 (by decide) (Nat.le_of_ble_eq_true rfl) ?_
  show Ok mX5_town none 0 [some (.ref 0), none, none, none, none, none] [] (mW r m im wa fr hi lt rw rf (nI L) (nI R) pl nu sd) 0 0 _
  refine o_aload_n dX5_town_0 rfl rfl ?_
  refine o_iconst dX5_town_1 ic_0 ?_
  refine o_putf (j := 11) tyX5 dX5_town_2 rfl hcX5 inX5 tyX5_ok nmX5 (Nat.le_of_ble_eq_true rfl) wd697 rfl rfl (fun _ => vp_nar_int _) (fun _ => rfl) (Nat.le_of_ble_eq_true rfl) rfl ?_
  refine o_iconst dX5_town_5 ic_0 ?_
  refine o_istn_1 dX5_town_6 rfl rfl (Nat.le_of_ble_eq_true rfl) ?_
  refine o_bipush dX5_town_7 bp_m9 ?_
  refine o_istn_2 dX5_town_9 rfl rfl (Nat.le_of_ble_eq_true rfl) ?_
  refine o_eqa (w2 := mW r m im wa fr hi lt rw rf (nI L) (nI R) (nI 0) nu sd) (by rw [nI_0]) rfl (lX5_town1 hL 97 0 0 nu (by omega) (Or.inr rfl) (fun nu2 pl2 => ?_))
  refine o_aload_n dX5_town_46 rfl rfl ?_
  refine o_getf (j := 0) dX5_town_47 rfl hcX5 inX5 (Nat.le_of_ble_eq_true rfl) wd686 rfl rfl ?_
  refine o_aload_n dX5_town_50 rfl rfl ?_
  refine o_getf (j := 3) dX5_town_51 rfl hcX5 inX5 (Nat.le_of_ble_eq_true rfl) wd689 rfl rfl ?_
  refine o_callSd (is := [1, 4]) (tX5_copies) ⟨rfl, rfl⟩ dX5_town_54 wd763 csX5_copies rfl ⟨(Nat.le_of_ble_eq_true rfl), (Nat.le_of_ble_eq_true rfl)⟩ rfl rfl rfl (Nat.le_of_ble_eq_true rfl) (Nat.le_of_ble_eq_true rfl) (Nat.le_of_ble_eq_true rfl) rfl ?_
  refine o_aload_n dX5_town_57 rfl rfl ?_
  refine o_iconst dX5_town_58 ic_0 ?_
  refine o_putf (j := 11) tyX5 dX5_town_59 rfl hcX5 inX5 tyX5_ok nmX5 (Nat.le_of_ble_eq_true rfl) wd697 rfl rfl (fun _ => vp_nar_int _) (fun _ => rfl) (Nat.le_of_ble_eq_true rfl) rfl ?_
  cases hs : (shQ lt L 97 0 0).1 with
  | some f =>
    have hf := shQ_lt hL 97 0 0 (by omega) hs
    refine lX5_town3 hL (ft_ne f hf) (o_post (fun a w h => ?_) (lX5_town4 hL))
    obtain ⟨rfl, rfl⟩ := h
    rw [ftV, if_neg (ft_ne f hf)]
    exact MP.mk (σ := (r, im, hi, lt, 0, rw, R, rf)) (by simp only [s_town, hs])
  | none =>
    refine o_eqa (w2 := mW r m im r fr hi lt rw rf (nI L) (nI R) (nI 0) nu2 sd) rfl rfl (lX5_town2 (r0 := r) hL 97 0 r _ _ _ _ _ hS (by omega) (by omega) (fun _ => ⟨97, 0, by omega, hs⟩) (fun x3 x4 x5 fr2 nu3 pl3 => o_post (fun a w h => ?_) (lX5_town4 hL)))
    obtain ⟨rfl, rfl⟩ := h
    refine MP.mk (σ := (dnW r (dnQ lt L 97 0 r), im, hi, lt, 0, rw, R, rf)) ?_
    simp only [s_town, hs]
    cases hd : (dnQ lt L 97 0 r).1 with
    | none => rfl
    | some s =>
      have := dnQ_lt 97 0 r hd
      rw [dnV, if_neg (dn_ne s (by omega))]
