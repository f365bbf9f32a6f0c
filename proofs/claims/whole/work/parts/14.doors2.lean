def shN (a b : Nat) (g : Nat → Nat) : Nat → (Nat → Nat)
  | 0 => g
  | k + 1 => if 1 + shN a b g k (b * 8 + k) < shN a b g k (a * 8 + k) then gup (shN a b g k) (a * 8 + k) (1 + shN a b g k (b * 8 + k)) else shN a b g k
def shB (a b : Nat) (g : Nat → Nat) : Nat → Bool
  | 0 => false
  | k + 1 => shB a b g k || decide (1 + shN a b g k (b * 8 + k) < shN a b g k (a * 8 + k))
theorem gup_le {g : Nat → Nat} {i v B : Nat} (h : ∀ j, g j ≤ B) (hv : v ≤ B) : ∀ j, gup g i v j ≤ B := fun j => by unfold gup; split; exact hv; exact h j
theorem shN_le {a b : Nat} {g : Nat → Nat} (h : ∀ j, g j ≤ 1000) : ∀ k j, shN a b g k j ≤ 1000
  | 0, j => h j
  | k + 1, j => by
    have ih := shN_le (a := a) (b := b) h k
    rw [shN]
    split
    · exact gup_le ih (by have := ih (a * 8 + k); omega) j
    · exact ih j
def rdN (fa fb : Nat → Nat) (g : Nat → Nat) : Nat → (Nat → Nat)
  | 0 => g
  | d + 1 => shN (fa d) (fb d) (rdN fa fb g d) 8
def rdB (fa fb : Nat → Nat) (g : Nat → Nat) : Nat → Bool
  | 0 => false
  | d + 1 => rdB fa fb g d || shB (fa d) (fb d) (rdN fa fb g d) 8
theorem rdN_le {fa fb g : Nat → Nat} (h : ∀ j, g j ≤ 1000) : ∀ d j, rdN fa fb g d j ≤ 1000
  | 0, j => h j
  | d + 1, j => shN_le (rdN_le h d) 8 j
def bfN (fa fb : Nat → Nat) (D : Nat) : Nat → (Nat → Nat) → (Nat → Nat)
  | 0, g => g
  | q + 1, g => if rdB fa fb g D then bfN fa fb D q (rdN fa fb g D) else rdN fa fb g D
theorem bfN_le {fa fb : Nat → Nat} {D : Nat} : ∀ (q : Nat) (g : Nat → Nat), (∀ j, g j ≤ 1000) → ∀ j, bfN fa fb D q g j ≤ 1000
  | 0, g, h, j => h j
  | q + 1, g, h, j => by
    rw [bfN]
    split
    · exact bfN_le q _ (rdN_le h D) j
    · exact rdN_le h D j
def w0N (i : Nat) : Nat := if i / 8 = i % 8 then 0 else 1000
theorem w0N_le (j : Nat) : w0N j ≤ 1000 := by unfold w0N; split <;> omega
def wyT (fa fb : Nat → Nat) (D : Nat) : Nat → Nat := bfN fa fb D 7 w0N
theorem wyT_le {fa fb : Nat → Nat} {D : Nat} (j : Nat) : wyT fa fb D j ≤ 1000 := bfN_le 7 w0N w0N_le j
def ffS (g fa fb : Nat → Nat) : Nat → (Nat → Int32)
  | 0 => fun _ => 0
  | i + 1 => if 1 + g (fb (i / 8) * 8 + i % 8) = g (fa (i / 8) * 8 + i % 8) then upd (ffS g fa fb i) (fa (i / 8) * 8 + i % 8) (ffS g fa fb i (fa (i / 8) * 8 + i % 8) ||| (1 <<< (nI (i / 8) &&& 31))) else ffS g fa fb i
def fsT (fa fb : Nat → Nat) (D : Nat) : Nat → Int32 := ffS (wyT fa fb D) fa fb (D * 8)
/-- what is known of doors: rooms below 8 -/
def DOk (D : Nat) (fr io : Nat → Int32) (fa fb : Nat → Nat) : Prop := D ≤ 9 ∧ ∀ d, d < D → fr d = nI (fa d) ∧ fa d < 8 ∧ io d = nI (fb d) ∧ fb d < 8
theorem dv8 {i : Nat} (h : i < 1000) : nI i / 8 = nI (i / 8) := pk_div (d := 8) (by omega) (by omega) (by omega)
theorem rm8 {i : Nat} (h : i < 1000) : nI i - nI i / 8 * 8 = nI (i % 8) := pk_rem (d := 8) (by omega) (by omega) (by omega)
theorem bI_or (x y : Bool) : bI x ||| bI y = bI (x || y) := by cases x <;> cases y <;> decide
def zrF (fs : Nat → Int32) (g : Nat → Int32) (i : Nat) : Nat → Int32 := fun j => if j < i then g j else fs j
theorem zrF_0 (fs g : Nat → Int32) : zrF fs g 0 = fs := by funext j; simp [zrF]
theorem zrF_s (fs g : Nat → Int32) (i : Nat) : upd (zrF fs g i) i (g i) = zrF fs g (i + 1) := by
  funext j
  unfold upd zrF
  by_cases h : j = i
  · subst h; simp
  · by_cases h2 : j < i
    · have : j < i + 1 := by omega
      simp [h, h2, this]
    · have : ¬ j < i + 1 := by omega
      simp [h, h2, this]
theorem zrF_n (fs g : Nat → Int32) (n : Nat) : ∀ j, j < n → zrF fs g n j = g j := fun j h => by simp [zrF, h]
theorem lX0_shorten {kd fg fr io wg fs : Nat → Int32} {sz : Int32} {a b : Nat} {g : Nat → Nat} (ha : a < 8) (hb : b < 8) (hg : ∀ j, g j ≤ 1000) : ∀ (q k : Nat) (th : Option Value), 8 - k < q → k ≤ 8 → Ok mX0_shortenWaysBy none 5 [some (.ref 0), some (.int (nI a)), some (.int (nI b)), some (.int (bI (shB a b g k))), some (.int (nI k)), th] [] (dG kd fg fr io wg (nF (shN a b g k)) fs sz) 0 0 (fun r2 w2 => r2 = some (.int (bI (shB a b g 8))) ∧ w2 = dG kd fg fr io wg (nF (shN a b g 8)) fs sz) := by
  intro q
  induction q with
  | zero => intro k th hq hk; omega
  | succ q ih =>
  intro k th hq hk
  have hle := shN_le (a := a) (b := b) hg k
  refine o_iload dX0_shortenWaysBy_5 rfl ?_
  refine o_bipush dX0_shortenWaysBy_7 bp_8 ?_
  refine o_icmp_ge (tgt := 73) dX0_shortenWaysBy_9 (by decide) (fun c_9 => ?_) (fun c_9 => ?_)
  · have hkN : k = 8 := Nat.le_antisymm hk (geI (b := 8) (by omega) (by omega) c_9)
    subst hkN
    refine o_iload_n dX0_shortenWaysBy_73 rfl rfl ?_
    refine o_iret dX0_shortenWaysBy_74 rfl (by first | exact nz_b _ | decide) (Nat.le_of_ble_eq_true rfl) (Nat.le_of_ble_eq_true rfl) ?_
    exact ⟨rfl, rfl⟩
  · have hkN : k < 8 := ltI (b := 8) (by omega) (by omega) c_9
    refine o_iconst dX0_shortenWaysBy_12 ic_1 ?_
    refine o_aload_n dX0_shortenWaysBy_13 rfl rfl ?_
    refine o_getf (j := 5) dX0_shortenWaysBy_14 rfl hcX0 inX0 (Nat.le_of_ble_eq_true rfl) wd114 rfl rfl ?_
    refine o_iload_n dX0_shortenWaysBy_17 rfl rfl ?_
    refine o_bipush dX0_shortenWaysBy_18 bp_8 ?_
    refine o_imul dX0_shortenWaysBy_20 ?_
    refine o_iload dX0_shortenWaysBy_21 rfl ?_
    refine o_iadd dX0_shortenWaysBy_23 ?_
    refine o_callSNr (is := [6]) (at_f (by decide) (ix8 b k) (by omega)) ⟨rfl, rfl⟩ dX0_shortenWaysBy_24 wd91 csX4_at rfl ⟨(Nat.le_of_ble_eq_true rfl), (Nat.le_of_ble_eq_true rfl)⟩ rfl rfl rfl (Nat.le_of_ble_eq_true rfl) (Nat.le_of_ble_eq_true rfl) (Nat.le_of_ble_eq_true rfl) ?_
    refine o_iadd dX0_shortenWaysBy_27 ?_
    refine o_istg_5 dX0_shortenWaysBy_28 rfl (Nat.le_of_ble_eq_true rfl) ?_
    refine o_iload dX0_shortenWaysBy_30 rfl ?_
    refine o_aload_n dX0_shortenWaysBy_32 rfl rfl ?_
    refine o_getf (j := 5) dX0_shortenWaysBy_33 rfl hcX0 inX0 (Nat.le_of_ble_eq_true rfl) wd114 rfl rfl ?_
    refine o_iload_n dX0_shortenWaysBy_36 rfl rfl ?_
    refine o_bipush dX0_shortenWaysBy_37 bp_8 ?_
    refine o_imul dX0_shortenWaysBy_39 ?_
    refine o_iload dX0_shortenWaysBy_40 rfl ?_
    refine o_iadd dX0_shortenWaysBy_42 ?_
    refine o_callSNr (is := [6]) (at_f (by decide) (ix8 a k) (by omega)) ⟨rfl, rfl⟩ dX0_shortenWaysBy_43 wd91 csX4_at rfl ⟨(Nat.le_of_ble_eq_true rfl), (Nat.le_of_ble_eq_true rfl)⟩ rfl rfl rfl (Nat.le_of_ble_eq_true rfl) (Nat.le_of_ble_eq_true rfl) (Nat.le_of_ble_eq_true rfl) ?_
    refine o_icmp_ge (tgt := 67) dX0_shortenWaysBy_46 (by decide) (fun c_46 => ?_) (fun c_46 => ?_)
    · have hlt : ¬ 1 + shN a b g k (b * 8 + k) < shN a b g k (a * 8 + k) := by
        have h1 : nI (shN a b g k (a * 8 + k)) ≤ 1 + nI (shN a b g k (b * 8 + k)) := c_46
        rw [nI_1a] at h1
        have := (nI_leI (by have := hle (a * 8 + k); omega) (by have := hle (b * 8 + k); omega)).mp h1
        omega
      refine o_inc_4 dX0_shortenWaysBy_67 rfl ic_1 (Nat.le_of_ble_eq_true rfl) ?_
      refine o_goto (tgt := 5) dX0_shortenWaysBy_70 (by decide) ?_
      exact o_eqa (by rw [nI_1, shB, decide_eq_false hlt, Bool.or_false]) (by rw [shN, if_neg hlt]) (ih (k + 1) _ (by omega) (by omega))
    · have hlt : 1 + shN a b g k (b * 8 + k) < shN a b g k (a * 8 + k) := by
        have h1 : ¬ nI (shN a b g k (a * 8 + k)) ≤ 1 + nI (shN a b g k (b * 8 + k)) := c_46
        rw [nI_1a] at h1
        exact ltI (by have := hle (b * 8 + k); omega) (by have := hle (a * 8 + k); omega) h1
      refine o_aload_n dX0_shortenWaysBy_49 rfl rfl ?_
      refine o_getf (j := 5) dX0_shortenWaysBy_50 rfl hcX0 inX0 (Nat.le_of_ble_eq_true rfl) wd114 rfl rfl ?_
      refine o_iload_n dX0_shortenWaysBy_53 rfl rfl ?_
      refine o_bipush dX0_shortenWaysBy_54 bp_8 ?_
      refine o_imul dX0_shortenWaysBy_56 ?_
      refine o_iload dX0_shortenWaysBy_57 rfl ?_
      refine o_iadd dX0_shortenWaysBy_59 ?_
      refine o_iload dX0_shortenWaysBy_60 rfl ?_
      refine o_callSNd (is := [6]) (put_n (by decide) (ix8 a k) (by omega) (nI_1a _)) ⟨rfl, rfl⟩ dX0_shortenWaysBy_62 wd88 csX4_put rfl ⟨(Nat.le_of_ble_eq_true rfl), (Nat.le_of_ble_eq_true rfl)⟩ rfl rfl rfl (Nat.le_of_ble_eq_true rfl) (Nat.le_of_ble_eq_true rfl) (Nat.le_of_ble_eq_true rfl) rfl ?_
      refine o_iconst dX0_shortenWaysBy_65 ic_1 ?_
      refine o_istn_3 dX0_shortenWaysBy_66 rfl rfl (Nat.le_of_ble_eq_true rfl) ?_
      refine o_inc_4 dX0_shortenWaysBy_67 rfl ic_1 (Nat.le_of_ble_eq_true rfl) ?_
      refine o_goto (tgt := 5) dX0_shortenWaysBy_70 (by decide) ?_
      exact o_eqa (by rw [nI_1, shB, decide_eq_true hlt, Bool.or_true]; rfl) (by rw [shN, if_pos hlt]; rfl) (ih (k + 1) _ (by omega) (by omega))
theorem tX0_shortenWaysBy {kd fg fr io wg fs : Nat → Int32} {sz : Int32} {a b : Nat} {g : Nat → Nat} (ha : a < 8) (hb : b < 8) (hg : ∀ j, g j ≤ 1000) : PD mX0_shortenWaysBy [.ref 0, .int (nI a), .int (nI b)] (dG kd fg fr io wg (nF g) fs sz) (some (.int (bI (shB a b g 8)))) (dG kd fg fr io wg (nF (shN a b g 8)) fs sz) := by
  refine PM.ofp 3 (by decide) (Nat.le_of_ble_eq_true rfl) ?_
  show Ok mX0_shortenWaysBy none 0 [some (.ref 0), some (.int (nI a)), some (.int (nI b)), none, none, none] [] (dG kd fg fr io wg (nF g) fs sz) 0 0 _
  refine o_iconst dX0_shortenWaysBy_0 ic_0 ?_
  refine o_istn_3 dX0_shortenWaysBy_1 rfl rfl (Nat.le_of_ble_eq_true rfl) ?_
  refine o_iconst dX0_shortenWaysBy_2 ic_0 ?_
  refine o_istg_4 dX0_shortenWaysBy_3 rfl (Nat.le_of_ble_eq_true rfl) ?_
  exact o_eqa (by rw [nI_0]; rfl) rfl (lX0_shorten ha hb hg 9 0 _ (by omega) (by omega))
theorem lX0_ff1 {kd fg fr io wg ws fs : Nat → Int32} {sz : Int32} {xx yy zz : Option Value} {P : Option Value → PW → Prop} (hP : ∀ i1, Ok mX0_findFirsts none 23 [some (.ref 0), some (.int i1), xx, yy, zz] [] (dG kd fg fr io wg ws (fun _ => 0) sz) 0 0 P) : ∀ (q k : Nat), 64 - k < q → k ≤ 64 → Ok mX0_findFirsts none 2 [some (.ref 0), some (.int (nI k)), xx, yy, zz] [] (dG kd fg fr io wg ws (zrF fs (fun _ => 0) k) sz) 0 0 (P) := by
  intro q
  induction q with
  | zero => intro k hq hk; omega
  | succ q ih =>
  intro k hq hk
  refine o_iload_n dX0_findFirsts_2 rfl rfl ?_
  refine o_bipush dX0_findFirsts_3 bp_64 ?_
  refine o_icmp_ge (tgt := 23) dX0_findFirsts_5 (by decide) (fun c_5 => ?_) (fun c_5 => ?_)
  · have hkN : k = 64 := Nat.le_antisymm hk (geI (b := 64) (by omega) (by omega) c_5)
    subst hkN
    refine o_same (w2 := dG kd fg fr io wg ws (fun _ => 0) sz) rfl (fun j x y hx hy => ?_) (hP _)
    match j, hx, hy with
    | 0, hx, hy => cases hx; cases hy; exact rfl
    | 1, hx, hy => cases hx; cases hy; exact ⟨rfl, fun _ _ => rfl⟩
    | 2, hx, hy => cases hx; cases hy; exact ⟨rfl, fun _ _ => rfl⟩
    | 3, hx, hy => cases hx; cases hy; exact ⟨rfl, fun _ _ => rfl⟩
    | 4, hx, hy => cases hx; cases hy; exact ⟨rfl, fun _ _ => rfl⟩
    | 5, hx, hy => cases hx; cases hy; exact ⟨rfl, fun _ _ => rfl⟩
    | 6, hx, hy => cases hx; cases hy; exact ⟨rfl, fun _ _ => rfl⟩
    | 7, hx, hy => cases hx; cases hy; exact ⟨rfl, fun j hj => zrF_n fs (fun _ => 0) 64 j hj⟩
  · have hkN : k < 64 := ltI (b := 64) (by omega) (by omega) c_5
    refine o_aload_n dX0_findFirsts_8 rfl rfl ?_
    refine o_getf (j := 6) dX0_findFirsts_9 rfl hcX0 inX0 (Nat.le_of_ble_eq_true rfl) wd115 rfl rfl ?_
    refine o_iload_n dX0_findFirsts_12 rfl rfl ?_
    refine o_iconst dX0_findFirsts_13 ic_0 ?_
    refine o_callSNd (is := [7]) (put_f (by decide) rfl hkN) ⟨rfl, rfl⟩ dX0_findFirsts_14 wd88 csX4_put rfl ⟨(Nat.le_of_ble_eq_true rfl), (Nat.le_of_ble_eq_true rfl)⟩ rfl rfl rfl (Nat.le_of_ble_eq_true rfl) (Nat.le_of_ble_eq_true rfl) (Nat.le_of_ble_eq_true rfl) rfl ?_
    refine o_inc_1 dX0_findFirsts_17 rfl ic_1 (Nat.le_of_ble_eq_true rfl) ?_
    refine o_goto (tgt := 2) dX0_findFirsts_20 (by decide) ?_
    exact o_eqa (by rw [nI_1]) (by rw [← zrF_s]; rfl) (ih (k + 1) (by omega) (by omega))
theorem lX0_ff2 {kd fg fr io wg : Nat → Int32} {g fa fb : Nat → Nat} {D : Nat} (hD : DOk D fr io fa fb) (hg : ∀ j, g j ≤ 1000) : ∀ (q k : Nat) (xx yy zz : Option Value), D * 8 - k < q → k ≤ D * 8 → Ok mX0_findFirsts none 25 [some (.ref 0), some (.int (nI k)), xx, yy, zz] [] (dG kd fg fr io wg (nF g) (ffS g fa fb k) (nI D)) 0 0 (fun r2 w2 => r2 = none ∧ w2 = dG kd fg fr io wg (nF g) (ffS g fa fb (D * 8)) (nI D)) := by
  intro q
  induction q with
  | zero => intro k xx yy zz hq hk; omega
  | succ q ih =>
  intro k xx yy zz hq hk
  have hD9 := hD.1
  have e8 : nI D * 8 = nI (D * 8) := by rw [show (8 : Int32) = nI 8 from rfl, pk_mul]
  refine o_iload_n dX0_findFirsts_25 rfl rfl ?_
  refine o_aload_n dX0_findFirsts_26 rfl rfl ?_
  refine o_getf (j := 7) dX0_findFirsts_27 rfl hcX0 inX0 (Nat.le_of_ble_eq_true rfl) wd116 rfl rfl ?_
  refine o_bipush dX0_findFirsts_30 bp_8 ?_
  refine o_imul dX0_findFirsts_32 ?_
  refine o_icmp_ge (tgt := 124) dX0_findFirsts_33 (by decide) (fun c_33 => ?_) (fun c_33 => ?_)
  · rw [e8] at c_33
    have hkN : k = D * 8 := Nat.le_antisymm hk (geI (by omega) (by omega) c_33)
    subst hkN
    refine o_vret dX0_findFirsts_124 rfl (Nat.le_of_ble_eq_true rfl) (Nat.le_of_ble_eq_true rfl) ?_
    exact ⟨rfl, rfl⟩
  · rw [e8] at c_33
    have hkN : k < D * 8 := ltI (by omega) (by omega) c_33
    have hd8 : k / 8 < D := by omega
    obtain ⟨ea, la, eb, lb⟩ := hD.2 (k / 8) hd8
    have e1 : fr (k / 8) * 8 + (nI k - nI k / 8 * 8) = nI (fa (k / 8) * 8 + k % 8) := by rw [ea, rm8 (by omega), ix8]
    have e2 : io (k / 8) * 8 + (nI k - nI k / 8 * 8) = nI (fb (k / 8) * 8 + k % 8) := by rw [eb, rm8 (by omega), ix8]
    have l1 : fa (k / 8) * 8 + k % 8 < 64 := by omega
    have l2 : fb (k / 8) * 8 + k % 8 < 64 := by omega
    have eq1 : (1 + nI (g (fb (k / 8) * 8 + k % 8)) = nI (g (fa (k / 8) * 8 + k % 8))) ↔ 1 + g (fb (k / 8) * 8 + k % 8) = g (fa (k / 8) * 8 + k % 8) := by
      rw [nI_1a]
      exact nI_eq (by have := hg (fb (k / 8) * 8 + k % 8); omega) (by have := hg (fa (k / 8) * 8 + k % 8); omega)
    refine o_iload_n dX0_findFirsts_36 rfl rfl ?_
    refine o_bipush dX0_findFirsts_37 bp_8 ?_
    refine o_idiv dX0_findFirsts_39 (by decide) ?_
    refine o_istn_2 dX0_findFirsts_40 rfl rfl (Nat.le_of_ble_eq_true rfl) ?_
    refine o_aload_n dX0_findFirsts_41 rfl rfl ?_
    refine o_getf (j := 2) dX0_findFirsts_42 rfl hcX0 inX0 (Nat.le_of_ble_eq_true rfl) wd106 rfl rfl ?_
    refine o_iload_n dX0_findFirsts_45 rfl rfl ?_
    refine o_callSNr (is := [3]) (at_f (by decide) (dv8 (by omega)) (by omega)) ⟨rfl, rfl⟩ dX0_findFirsts_46 wd91 csX4_at rfl ⟨(Nat.le_of_ble_eq_true rfl), (Nat.le_of_ble_eq_true rfl)⟩ rfl rfl rfl (Nat.le_of_ble_eq_true rfl) (Nat.le_of_ble_eq_true rfl) (Nat.le_of_ble_eq_true rfl) ?_
    refine o_bipush dX0_findFirsts_49 bp_8 ?_
    refine o_imul dX0_findFirsts_51 ?_
    refine o_iload_n dX0_findFirsts_52 rfl rfl ?_
    refine o_bipush dX0_findFirsts_53 bp_8 ?_
    refine o_irem dX0_findFirsts_55 (by decide) ?_
    refine o_iadd dX0_findFirsts_56 ?_
    refine o_istn_3 dX0_findFirsts_57 rfl rfl (Nat.le_of_ble_eq_true rfl) ?_
    refine o_aload_n dX0_findFirsts_58 rfl rfl ?_
    refine o_getf (j := 3) dX0_findFirsts_59 rfl hcX0 inX0 (Nat.le_of_ble_eq_true rfl) wd108 rfl rfl ?_
    refine o_iload_n dX0_findFirsts_62 rfl rfl ?_
    refine o_callSNr (is := [4]) (at_f (by decide) (dv8 (by omega)) (by omega)) ⟨rfl, rfl⟩ dX0_findFirsts_63 wd91 csX4_at rfl ⟨(Nat.le_of_ble_eq_true rfl), (Nat.le_of_ble_eq_true rfl)⟩ rfl rfl rfl (Nat.le_of_ble_eq_true rfl) (Nat.le_of_ble_eq_true rfl) (Nat.le_of_ble_eq_true rfl) ?_
    refine o_bipush dX0_findFirsts_66 bp_8 ?_
    refine o_imul dX0_findFirsts_68 ?_
    refine o_iload_n dX0_findFirsts_69 rfl rfl ?_
    refine o_bipush dX0_findFirsts_70 bp_8 ?_
    refine o_irem dX0_findFirsts_72 (by decide) ?_
    refine o_iadd dX0_findFirsts_73 ?_
    refine o_istg_4 dX0_findFirsts_74 rfl (Nat.le_of_ble_eq_true rfl) ?_
    refine o_iconst dX0_findFirsts_76 ic_1 ?_
    refine o_aload_n dX0_findFirsts_77 rfl rfl ?_
    refine o_getf (j := 5) dX0_findFirsts_78 rfl hcX0 inX0 (Nat.le_of_ble_eq_true rfl) wd114 rfl rfl ?_
    refine o_iload dX0_findFirsts_81 rfl ?_
    refine o_callSNr (is := [6]) (at_f (by decide) e2 l2) ⟨rfl, rfl⟩ dX0_findFirsts_83 wd91 csX4_at rfl ⟨(Nat.le_of_ble_eq_true rfl), (Nat.le_of_ble_eq_true rfl)⟩ rfl rfl rfl (Nat.le_of_ble_eq_true rfl) (Nat.le_of_ble_eq_true rfl) (Nat.le_of_ble_eq_true rfl) ?_
    refine o_iadd dX0_findFirsts_86 ?_
    refine o_aload_n dX0_findFirsts_87 rfl rfl ?_
    refine o_getf (j := 5) dX0_findFirsts_88 rfl hcX0 inX0 (Nat.le_of_ble_eq_true rfl) wd114 rfl rfl ?_
    refine o_iload_n dX0_findFirsts_91 rfl rfl ?_
    refine o_callSNr (is := [6]) (at_f (by decide) e1 l1) ⟨rfl, rfl⟩ dX0_findFirsts_92 wd91 csX4_at rfl ⟨(Nat.le_of_ble_eq_true rfl), (Nat.le_of_ble_eq_true rfl)⟩ rfl rfl rfl (Nat.le_of_ble_eq_true rfl) (Nat.le_of_ble_eq_true rfl) (Nat.le_of_ble_eq_true rfl) ?_
    refine o_icmp_ne (tgt := 118) dX0_findFirsts_95 (by decide) (fun c_95 => ?_) (fun c_95 => ?_)
    · skip
      refine o_inc_1 dX0_findFirsts_118 rfl ic_1 (Nat.le_of_ble_eq_true rfl) ?_
      refine o_goto (tgt := 25) dX0_findFirsts_121 (by decide) ?_
      exact o_eqa (by rw [nI_1]) (by rw [ffS, if_neg (fun h => c_95 (eq1.mpr h))]) (ih (k + 1) _ _ _ (by omega) (by omega))
    · skip
      refine o_aload_n dX0_findFirsts_98 rfl rfl ?_
      refine o_getf (j := 6) dX0_findFirsts_99 rfl hcX0 inX0 (Nat.le_of_ble_eq_true rfl) wd115 rfl rfl ?_
      refine o_iload_n dX0_findFirsts_102 rfl rfl ?_
      refine o_aload_n dX0_findFirsts_103 rfl rfl ?_
      refine o_getf (j := 6) dX0_findFirsts_104 rfl hcX0 inX0 (Nat.le_of_ble_eq_true rfl) wd115 rfl rfl ?_
      refine o_iload_n dX0_findFirsts_107 rfl rfl ?_
      refine o_callSNr (is := [7]) (at_f (by decide) e1 l1) ⟨rfl, rfl⟩ dX0_findFirsts_108 wd91 csX4_at rfl ⟨(Nat.le_of_ble_eq_true rfl), (Nat.le_of_ble_eq_true rfl)⟩ rfl rfl rfl (Nat.le_of_ble_eq_true rfl) (Nat.le_of_ble_eq_true rfl) (Nat.le_of_ble_eq_true rfl) ?_
      refine o_iconst dX0_findFirsts_111 ic_1 ?_
      refine o_iload_n dX0_findFirsts_112 rfl rfl ?_
      refine o_ishl dX0_findFirsts_113 ?_
      refine o_ior dX0_findFirsts_114 ?_
      refine o_callSNd (is := [7]) (put_f (by decide) e1 l1) ⟨rfl, rfl⟩ dX0_findFirsts_115 wd88 csX4_put rfl ⟨(Nat.le_of_ble_eq_true rfl), (Nat.le_of_ble_eq_true rfl)⟩ rfl rfl rfl (Nat.le_of_ble_eq_true rfl) (Nat.le_of_ble_eq_true rfl) (Nat.le_of_ble_eq_true rfl) rfl ?_
      refine o_inc_1 dX0_findFirsts_118 rfl ic_1 (Nat.le_of_ble_eq_true rfl) ?_
      refine o_goto (tgt := 25) dX0_findFirsts_121 (by decide) ?_
      exact o_eqa (by rw [nI_1]) (by rw [ffS, if_pos (eq1.mp c_95), ← dv8 (by omega)]; rfl) (ih (k + 1) _ _ _ (by omega) (by omega))
theorem tX0_findFirsts {kd fg fr io wg fs : Nat → Int32} {g fa fb : Nat → Nat} {D : Nat} (hD : DOk D fr io fa fb) (hg : ∀ j, g j ≤ 1000) : PD mX0_findFirsts [.ref 0] (dG kd fg fr io wg (nF g) fs (nI D)) (none) (dG kd fg fr io wg (nF g) (ffS g fa fb (D * 8)) (nI D)) := by
  refine PM.ofp 4 (by decide) (Nat.le_of_ble_eq_true rfl) ?_
  show Ok mX0_findFirsts none 0 [some (.ref 0), none, none, none, none] [] (dG kd fg fr io wg (nF g) fs (nI D)) 0 0 _
  refine o_iconst dX0_findFirsts_0 ic_0 ?_
  refine o_istn_1 dX0_findFirsts_1 rfl rfl (Nat.le_of_ble_eq_true rfl) ?_
  refine o_eqa (by rw [nI_0]) (by rw [zrF_0]) (lX0_ff1 (fun i1 => ?_) 65 0 (by omega) (by omega))
  refine o_iconst dX0_findFirsts_23 ic_0 ?_
  refine o_istn_1 dX0_findFirsts_24 rfl rfl (Nat.le_of_ble_eq_true rfl) ?_
  exact o_eqa (by rw [nI_0]) rfl (lX0_ff2 hD hg (D * 8 + 1) 0 _ _ _ (by omega) (by omega))
