section IX
variable {M : MI} {S : Scr} {pc : Nat} {ls : List (Option Value)} {st : List Value} {w : PW} {k n : Nat} {P : Option Value → PW → Prop}
theorem o_ialp {a N i : Nat} {f : Nat → Int32} {x : Int32} (hd : decode (mC M) pc = .ok (.iaload, 1)) (hw : w[a]? = some (.inl (N, f))) (hx : x = nI i) (hi : i < N) (h : Ok M S (pc + 1) ls (.int (f i) :: st) w k n P) (hN : N < 2147483648 := by decide) : Ok M S pc ls (.int x :: .ref a :: st) w k n P := by
  subst hx
  refine o_iald hd hw (vp_in_nI hi hN) ?_
  rw [nI_clamp (by omega)]
  exact h
theorem o_iasp {a N i : Nat} {f : Nat → Int32} {x v : Int32} {w2 : PW} (hd : decode (mC M) pc = .ok (.iastore, 1)) (hw : w[a]? = some (.inl (N, f))) (hx : x = nI i) (hi : i < N) (hw2 : w.set a (.inl (N, upd f i v)) = w2) (h : Ok M S (pc + 1) ls st w2 k n P) (hN : N < 2147483648 := by decide) : Ok M S pc ls (.int v :: .int x :: .ref a :: st) w k n P := by
  subst hx
  refine o_iast (w2 := w2) hd hw (vp_in_nI hi hN) ?_ h
  rw [nI_clamp (by omega)]
  exact hw2
end IX
def isInB (x a b : Int32) : Bool := !decide (x < a) && !decide (b < x)
def leastF (a b : Int32) : Int32 := if b ≤ a then b else a
def bitsM (x : Int32) : Nat → Int32
  | 0 => 0
  | k + 1 => bitsM x k + ((x >>> (nI k &&& 31)) &&& 1)
def gn (r : Nat → Int32) (p : Nat) : Bool := hasB (r 4) (nI p)
def KdI (x : Int32) : Prop := ∃ a, a ≤ 5 ∧ x = nI a
def FgI (x : Int32) : Prop := ∃ a, a ≤ 9 ∧ x = nI a
theorem tX5_isIn {x a b : Int32} : PD mX5_isIn [.int x, .int a, .int b] ([]) (some (.int (bI (isInB x a b)))) ([]) := by
  refine PM.ofp 0 (by decide) (Nat.le_of_ble_eq_true rfl) ?_
  show Ok mX5_isIn none 0 [some (.int x), some (.int a), some (.int b)] [] ([]) 0 0 _
  refine o_iload_n dX5_isIn_0 rfl rfl ?_
  refine o_iload_n dX5_isIn_1 rfl rfl ?_
  refine o_icmp_lt (tgt := 14) dX5_isIn_2 (by decide) (fun c_2 => ?_) (fun c_2 => ?_)
  · skip
    refine o_iconst dX5_isIn_14 ic_0 ?_
    refine o_iret dX5_isIn_15 rfl (by first | exact nz_b _ | decide) (Nat.le_of_ble_eq_true rfl) (Nat.le_of_ble_eq_true rfl) ?_
    exact ⟨by simp [isInB, bI, *], rfl⟩
  · skip
    refine o_iload_n dX5_isIn_5 rfl rfl ?_
    refine o_iload_n dX5_isIn_6 rfl rfl ?_
    refine o_icmp_gt (tgt := 14) dX5_isIn_7 (by decide) (fun c_7 => ?_) (fun c_7 => ?_)
    · skip
      refine o_iconst dX5_isIn_14 ic_0 ?_
      refine o_iret dX5_isIn_15 rfl (by first | exact nz_b _ | decide) (Nat.le_of_ble_eq_true rfl) (Nat.le_of_ble_eq_true rfl) ?_
      exact ⟨by simp [isInB, bI, *], rfl⟩
    · skip
      refine o_iconst dX5_isIn_10 ic_1 ?_
      refine o_goto (tgt := 15) dX5_isIn_11 (by decide) ?_
      refine o_iret dX5_isIn_15 rfl (by first | exact nz_b _ | decide) (Nat.le_of_ble_eq_true rfl) (Nat.le_of_ble_eq_true rfl) ?_
      exact ⟨by simp [isInB, bI, *], rfl⟩
theorem tX5_least {a b : Int32} : PD mX5_least [.int a, .int b] ([]) (some (.int (leastF a b))) ([]) := by
  refine PM.ofp 0 (by decide) (Nat.le_of_ble_eq_true rfl) ?_
  show Ok mX5_least none 0 [some (.int a), some (.int b)] [] ([]) 0 0 _
  refine o_iload_n dX5_least_0 rfl rfl ?_
  refine o_iload_n dX5_least_1 rfl rfl ?_
  refine o_icmp_ge (tgt := 9) dX5_least_2 (by decide) (fun c_2 => ?_) (fun c_2 => ?_)
  · skip
    refine o_iload_n dX5_least_9 rfl rfl ?_
    refine o_iret dX5_least_10 rfl (vp_nar_int _) (Nat.le_of_ble_eq_true rfl) (Nat.le_of_ble_eq_true rfl) ?_
    exact ⟨by simp [leastF, *], rfl⟩
  · skip
    refine o_iload_n dX5_least_5 rfl rfl ?_
    refine o_goto (tgt := 10) dX5_least_6 (by decide) ?_
    refine o_iret dX5_least_10 rfl (vp_nar_int _) (Nat.le_of_ble_eq_true rfl) (Nat.le_of_ble_eq_true rfl) ?_
    exact ⟨by simp [leastF, *], rfl⟩
theorem tX5_ofD {d k : Int32} : PD mX5_ofD [.int d, .int k] ([]) (some (.int (5 + 5 * d + k))) ([]) := by
  refine PM.ofp 0 (by decide) (Nat.le_of_ble_eq_true rfl) ?_
  show Ok mX5_ofD none 0 [some (.int d), some (.int k)] [] ([]) 0 0 _
  refine o_iconst dX5_ofD_0 ic_5 ?_
  refine o_iconst dX5_ofD_1 ic_5 ?_
  refine o_iload_n dX5_ofD_2 rfl rfl ?_
  refine o_imul dX5_ofD_3 ?_
  refine o_iadd dX5_ofD_4 ?_
  refine o_iload_n dX5_ofD_5 rfl rfl ?_
  refine o_iadd dX5_ofD_6 ?_
  refine o_iret dX5_ofD_7 rfl (vp_nar_int _) (Nat.le_of_ble_eq_true rfl) (Nat.le_of_ble_eq_true rfl) ?_
  exact ⟨rfl, rfl⟩
theorem tX5_ofP {d k : Int32} : PD mX5_ofP [.int d, .int k] ([]) (some (.int (50 + 3 * d + k))) ([]) := by
  refine PM.ofp 0 (by decide) (Nat.le_of_ble_eq_true rfl) ?_
  show Ok mX5_ofP none 0 [some (.int d), some (.int k)] [] ([]) 0 0 _
  refine o_bipush dX5_ofP_0 bp_50 ?_
  refine o_iconst dX5_ofP_2 ic_3 ?_
  refine o_iload_n dX5_ofP_3 rfl rfl ?_
  refine o_imul dX5_ofP_4 ?_
  refine o_iadd dX5_ofP_5 ?_
  refine o_iload_n dX5_ofP_6 rfl rfl ?_
  refine o_iadd dX5_ofP_7 ?_
  refine o_iret dX5_ofP_8 rfl (vp_nar_int _) (Nat.le_of_ble_eq_true rfl) (Nat.le_of_ble_eq_true rfl) ?_
  exact ⟨rfl, rfl⟩
theorem ofD0 {d : Nat} : PD mX5_ofD [.int (nI d), .int 0] [] (some (.int (nI (5 + 5 * d)))) [] := tX5_ofD.mono (by rw [show (5 : Int32) = nI 5 from rfl, pk_mul, nI_add, show (0 : Int32) = nI 0 from rfl, nI_add, show 5 + 5 * d + 0 = 5 + 5 * d by omega])
theorem ofD1 {d : Nat} : PD mX5_ofD [.int (nI d), .int 1] [] (some (.int (nI (6 + 5 * d)))) [] := tX5_ofD.mono (by rw [show (5 : Int32) = nI 5 from rfl, pk_mul, nI_add, show (1 : Int32) = nI 1 from rfl, nI_add, show 5 + 5 * d + 1 = 6 + 5 * d by omega])
theorem ofD2 {d : Nat} : PD mX5_ofD [.int (nI d), .int 2] [] (some (.int (nI (7 + 5 * d)))) [] := tX5_ofD.mono (by rw [show (5 : Int32) = nI 5 from rfl, pk_mul, nI_add, show (2 : Int32) = nI 2 from rfl, nI_add, show 5 + 5 * d + 2 = 7 + 5 * d by omega])
theorem ofD3 {d : Nat} : PD mX5_ofD [.int (nI d), .int 3] [] (some (.int (nI (8 + 5 * d)))) [] := tX5_ofD.mono (by rw [show (5 : Int32) = nI 5 from rfl, pk_mul, nI_add, show (3 : Int32) = nI 3 from rfl, nI_add, show 5 + 5 * d + 3 = 8 + 5 * d by omega])
theorem ofD4 {d : Nat} : PD mX5_ofD [.int (nI d), .int 4] [] (some (.int (nI (9 + 5 * d)))) [] := tX5_ofD.mono (by rw [show (5 : Int32) = nI 5 from rfl, pk_mul, nI_add, show (4 : Int32) = nI 4 from rfl, nI_add, show 5 + 5 * d + 4 = 9 + 5 * d by omega])
theorem ofP0 {d : Nat} : PD mX5_ofP [.int (nI d), .int 0] [] (some (.int (nI (50 + 3 * d)))) [] := tX5_ofP.mono (by rw [show (50 : Int32) = nI 50 from rfl, show (3 : Int32) = nI 3 from rfl, pk_mul, nI_add, show (0 : Int32) = nI 0 from rfl, nI_add, show 50 + 3 * d + 0 = 50 + 3 * d by omega])
theorem ofP1 {d : Nat} : PD mX5_ofP [.int (nI d), .int 1] [] (some (.int (nI (51 + 3 * d)))) [] := tX5_ofP.mono (by rw [show (50 : Int32) = nI 50 from rfl, show (3 : Int32) = nI 3 from rfl, pk_mul, nI_add, show (1 : Int32) = nI 1 from rfl, nI_add, show 50 + 3 * d + 1 = 51 + 3 * d by omega])
theorem ofP2 {d : Nat} : PD mX5_ofP [.int (nI d), .int 2] [] (some (.int (nI (52 + 3 * d)))) [] := tX5_ofP.mono (by rw [show (50 : Int32) = nI 50 from rfl, show (3 : Int32) = nI 3 from rfl, pk_mul, nI_add, show (2 : Int32) = nI 2 from rfl, nI_add, show 50 + 3 * d + 2 = 52 + 3 * d by omega])
theorem tX5_isRoom {x : Int32} : PD mX5_isRoom [.int x] ([]) (some (.int (bI (isInB x 0 7)))) ([]) := by
  refine PM.ofp 0 (by decide) (Nat.le_of_ble_eq_true rfl) ?_
  show Ok mX5_isRoom none 0 [some (.int x)] [] ([]) 0 0 _
  refine o_iload_n dX5_isRoom_0 rfl rfl ?_
  refine o_iconst dX5_isRoom_1 ic_0 ?_
  refine o_bipush dX5_isRoom_2 bp_7 ?_
  refine o_callSr (is := []) (tX5_isIn) ⟨rfl, rfl⟩ dX5_isRoom_4 wd760 csX5_isIn rfl ⟨(Nat.le_of_ble_eq_true rfl), (Nat.le_of_ble_eq_true rfl)⟩ rfl rfl rfl (Nat.le_of_ble_eq_true rfl) (Nat.le_of_ble_eq_true rfl) (Nat.le_of_ble_eq_true rfl) ?_
  refine o_iret dX5_isRoom_7 rfl (by first | exact nz_b _ | decide) (Nat.le_of_ble_eq_true rfl) (Nat.le_of_ble_eq_true rfl) ?_
  exact ⟨rfl, rfl⟩
theorem tX5_has {b p : Int32} : PD mX5_has [.int b, .int p] ([]) (some (.int (bI (hasB b p)))) ([]) := by
  refine PM.ofp 0 (by decide) (Nat.le_of_ble_eq_true rfl) ?_
  show Ok mX5_has none 0 [some (.int b), some (.int p)] [] ([]) 0 0 _
  refine o_iload_n dX5_has_0 rfl rfl ?_
  refine o_iload_n dX5_has_1 rfl rfl ?_
  refine o_ishr dX5_has_2 ?_
  refine o_iconst dX5_has_3 ic_1 ?_
  refine o_iand dX5_has_4 ?_
  refine o_iconst dX5_has_5 ic_1 ?_
  refine o_icmp_ne (tgt := 13) dX5_has_6 (by decide) (fun c_6 => ?_) (fun c_6 => ?_)
  · skip
    refine o_iconst dX5_has_13 ic_0 ?_
    refine o_iret dX5_has_14 rfl (by first | exact nz_b _ | decide) (Nat.le_of_ble_eq_true rfl) (Nat.le_of_ble_eq_true rfl) ?_
    exact ⟨by simp [hasB, bI, *], rfl⟩
  · skip
    refine o_iconst dX5_has_9 ic_1 ?_
    refine o_goto (tgt := 14) dX5_has_10 (by decide) ?_
    refine o_iret dX5_has_14 rfl (by first | exact nz_b _ | decide) (Nat.le_of_ble_eq_true rfl) (Nat.le_of_ble_eq_true rfl) ?_
    exact ⟨by simp [hasB, bI, *], rfl⟩
theorem lX5_bits {x : Int32} : ∀ (q k : Nat), 9 - k < q → k ≤ 9 → Ok mX5_bits none 4 [some (.int x), some (.int (bitsM x k)), some (.int (nI k))] [] ([]) 0 0 (fun r2 w2 => r2 = some (.int (bitsM x 9)) ∧ w2 = []) := by
  intro q
  induction q with
  | zero => intro k hq hk; omega
  | succ q ih =>
  intro k hq hk
  refine o_iload_n dX5_bits_4 rfl rfl ?_
  refine o_bipush dX5_bits_5 bp_9 ?_
  refine o_icmp_ge (tgt := 24) dX5_bits_7 (by decide) (fun c_7 => ?_) (fun c_7 => ?_)
  · have hkN : k = 9 := Nat.le_antisymm hk (geI (b := 9) (by omega) (by omega) c_7)
    subst hkN
    refine o_iload_n dX5_bits_24 rfl rfl ?_
    refine o_iret dX5_bits_25 rfl (vp_nar_int _) (Nat.le_of_ble_eq_true rfl) (Nat.le_of_ble_eq_true rfl) ?_
    exact ⟨rfl, rfl⟩
  · have hkN : k < 9 := ltI (b := 9) (by omega) (by omega) c_7
    refine o_iload_n dX5_bits_10 rfl rfl ?_
    refine o_iload_n dX5_bits_11 rfl rfl ?_
    refine o_iload_n dX5_bits_12 rfl rfl ?_
    refine o_ishr dX5_bits_13 ?_
    refine o_iconst dX5_bits_14 ic_1 ?_
    refine o_iand dX5_bits_15 ?_
    refine o_iadd dX5_bits_16 ?_
    refine o_istn_1 dX5_bits_17 rfl rfl (Nat.le_of_ble_eq_true rfl) ?_
    refine o_inc_2 dX5_bits_18 rfl ic_1 (Nat.le_of_ble_eq_true rfl) ?_
    refine o_goto (tgt := 4) dX5_bits_21 (by decide) ?_
    exact o_eql (by rw [nI_1, bitsM]) (ih (k + 1) (by omega) (by omega))
theorem tX5_bits {x : Int32} : PD mX5_bits [.int x] ([]) (some (.int (bitsM x 9))) ([]) := by
  refine PM.ofp 2 (by decide) (Nat.le_of_ble_eq_true rfl) ?_
  show Ok mX5_bits none 0 [some (.int x), none, none] [] ([]) 0 0 _
  refine o_iconst dX5_bits_0 ic_0 ?_
  refine o_istn_1 dX5_bits_1 rfl rfl (Nat.le_of_ble_eq_true rfl) ?_
  refine o_iconst dX5_bits_2 ic_0 ?_
  refine o_istn_2 dX5_bits_3 rfl rfl (Nat.le_of_ble_eq_true rfl) ?_
  exact o_eql (by rw [nI_0]; rfl) (lX5_bits 10 0 (by omega) (by omega))
theorem lX5_copies {f g : Nat → Int32} : ∀ (q k : Nat), 71 - k < q → k ≤ 71 → Ok mX5_copies none 2 [some (.ref 0), some (.ref 1), some (.int (nI k))] [] ([.inl (71, f), .inl (71, zrF g f k)]) 0 0 (fun r2 w2 => r2 = none ∧ w2 = [.inl (71, f), .inl (71, f)]) := by
  intro q
  induction q with
  | zero => intro k hq hk; omega
  | succ q ih =>
  intro k hq hk
  refine o_iload_n dX5_copies_2 rfl rfl ?_
  refine o_bipush dX5_copies_3 bp_71 ?_
  refine o_icmp_ge (tgt := 20) dX5_copies_5 (by decide) (fun c_5 => ?_) (fun c_5 => ?_)
  · have hkN : k = 71 := Nat.le_antisymm hk (geI (b := 71) (by omega) (by omega) c_5)
    subst hkN
    refine o_same (w2 := [.inl (71, f), .inl (71, f)]) rfl (fun j x y hx hy => ?_) ?_
    · match j, hx, hy with
      | 0, hx, hy => cases hx; cases hy; exact ⟨rfl, fun _ _ => rfl⟩
      | 1, hx, hy => cases hx; cases hy; exact ⟨rfl, fun j hj => zrF_n g f 71 j hj⟩
    refine o_vret dX5_copies_20 rfl (Nat.le_of_ble_eq_true rfl) (Nat.le_of_ble_eq_true rfl) ?_
    exact ⟨rfl, rfl⟩
  · have hkN : k < 71 := ltI (b := 71) (by omega) (by omega) c_5
    refine o_aload_n dX5_copies_8 rfl rfl ?_
    refine o_iload_n dX5_copies_9 rfl rfl ?_
    refine o_aload_n dX5_copies_10 rfl rfl ?_
    refine o_iload_n dX5_copies_11 rfl rfl ?_
    refine o_ialp (i := k) dX5_copies_12 rfl (rfl) (by omega) ?_
    refine o_iasp (i := k) dX5_copies_13 rfl (rfl) (by omega) rfl ?_
    refine o_inc_2 dX5_copies_14 rfl ic_1 (Nat.le_of_ble_eq_true rfl) ?_
    refine o_goto (tgt := 2) dX5_copies_17 (by decide) ?_
    exact o_eqa (by rw [nI_1]) (by rw [← zrF_s]; rfl) (ih (k + 1) (by omega) (by omega))
theorem tX5_copies {f g : Nat → Int32} : PD mX5_copies [.ref 0, .ref 1] ([.inl (71, f), .inl (71, g)]) (none) ([.inl (71, f), .inl (71, f)]) := by
  refine PM.ofp 1 (by decide) (Nat.le_of_ble_eq_true rfl) ?_
  show Ok mX5_copies none 0 [some (.ref 0), some (.ref 1), none] [] ([.inl (71, f), .inl (71, g)]) 0 0 _
  refine o_iconst dX5_copies_0 ic_0 ?_
  refine o_istn_2 dX5_copies_1 rfl rfl (Nat.le_of_ble_eq_true rfl) ?_
  exact o_eqa (by rw [nI_0]) (by rw [zrF_0]) (lX5_copies 72 0 (by omega) (by omega))
theorem odd_even {h : Nat} (hh : h < 2147483648) : nI h - nI h / 2 * 2 = 1 ∨ nI h - nI h / 2 * 2 = 0 := by
  have e : nI h - nI h / 2 * 2 = nI (h % 2) := pk_rem (d := 2) hh (by omega) (by omega)
  rw [e]
  rcases Nat.mod_two_eq_zero_or_one h with q | q <;> rw [q]
  · exact Or.inr rfl
  · exact Or.inl rfl
theorem beat_f {f : Int32} (hf : FgI f) : beatF f = f / 3 + 2 ∧ ¬ f / 3 + 2 = 0 := by
  obtain ⟨a, ha, rfl⟩ := hf
  have : ∀ a, a ≤ 9 → beatF (nI a) = nI a / 3 + 2 ∧ ¬ nI a / 3 + 2 = 0 := by
    have h : ∀ a, a < 10 → beatF (nI a) = nI a / 3 + 2 ∧ ¬ nI a / 3 + 2 = 0 := by decide +kernel
    exact fun a ha => h a (by omega)
  exact this a ha
theorem kd0 {x : Int32} (h : KdI x) (hs : x.toInt < 1 ∨ 5 < x.toInt) : x = 0 := by
  obtain ⟨a, ha, rfl⟩ := h
  rw [nI_toInt (by omega)] at hs
  have : a = 0 := by omega
  subst this
  rfl
set_option maxHeartbeats 1000000 in
theorem tX5_opensBy {kd f hp md : Int32} {h : Nat} (hk : KdI kd) (hf : FgI f) (hh : h < 2147483648) : PD mX5_opensBy [.int kd, .int f, .int (nI h), .int hp, .int md] ([]) (some (.int (bI (opB kd f (nI h) hp md)))) ([]) := by
  refine PM.ofp 2 (by decide) (Nat.le_of_ble_eq_true rfl) ?_
  show Ok mX5_opensBy none 0 [some (.int kd), some (.int f), some (.int (nI h)), some (.int hp), some (.int md), none, none] [] ([]) 0 0 _
  have hb := (beat_f hf).1
  have ho := odd_even hh
  refine o_iload_n dX5_opensBy_0 rfl rfl ?_
  refine o_iconst dX5_opensBy_1 ic_1 ?_
  refine o_icmp_lt (tgt := 9) dX5_opensBy_2 (by decide) (fun c_2 => ?_) (fun c_2 => ?_)
  · skip
    refine o_iconst dX5_opensBy_9 ic_0 ?_
    refine o_istg_5 dX5_opensBy_10 rfl (Nat.le_of_ble_eq_true rfl) ?_
    refine o_iload dX5_opensBy_12 rfl ?_
    refine o_if_eq (tgt := 31) dX5_opensBy_14 (by decide) (fun _ => ?_) (fun cq => absurd (by decide) cq)
    refine o_iconst dX5_opensBy_31 ic_0 ?_
    refine o_istg_6 dX5_opensBy_32 rfl (Nat.le_of_ble_eq_true rfl) ?_
    refine o_iload_n dX5_opensBy_34 rfl rfl ?_
    refine o_sw (lo := 1) (hi := 5) 5 (by decide) (by decide) (by decide) (fun hsw => ?_) (fun j hj hsw => ?_)
    · refine o_tabOut (tgt := 124) dX5_opensBy_35 hsw (by decide) ?_
      refine o_iload dX5_opensBy_124 rfl ?_
      refine o_iret dX5_opensBy_126 rfl (by first | exact nz_b _ | decide) (Nat.le_of_ble_eq_true rfl) (Nat.le_of_ble_eq_true rfl) ?_
      have k0 := kd0 hk hsw
      exact ⟨by simp [opB, bI, k0, *], rfl⟩
    · match j, hj, hsw with
      | 0, _, hsw =>
        refine o_tabInE (tgt := 68) (off := 33) dX5_opensBy_35 hsw (by decide) (by decide) (by decide) (by decide) ?_
        have hsw := sw_eq (l := 1) hsw (by decide)
        refine o_iload dX5_opensBy_68 rfl ?_
        refine o_iret dX5_opensBy_70 rfl (by first | exact nz_b _ | decide) (Nat.le_of_ble_eq_true rfl) (Nat.le_of_ble_eq_true rfl) ?_
        exact ⟨by simp [opB, bI, *], rfl⟩
      | 1, _, hsw =>
        refine o_tabInE (tgt := 71) (off := 36) dX5_opensBy_35 hsw (by decide) (by decide) (by decide) (by decide) ?_
        have hsw := sw_eq (l := 2) hsw (by decide)
        refine o_iload dX5_opensBy_71 rfl ?_
        refine o_if_eq (tgt := 86) dX5_opensBy_73 (by decide) (fun _ => ?_) (fun cq => absurd (by decide) cq)
        refine o_iconst dX5_opensBy_86 ic_0 ?_
        refine o_iret dX5_opensBy_87 rfl (by first | exact nz_b _ | decide) (Nat.le_of_ble_eq_true rfl) (Nat.le_of_ble_eq_true rfl) ?_
        exact ⟨by simp [opB, bI, *], rfl⟩
      | 2, _, hsw =>
        refine o_tabInE (tgt := 88) (off := 53) dX5_opensBy_35 hsw (by decide) (by decide) (by decide) (by decide) ?_
        have hsw := sw_eq (l := 3) hsw (by decide)
        refine o_iload_n dX5_opensBy_88 rfl rfl ?_
        refine o_iconst dX5_opensBy_89 ic_2 ?_
        refine o_irem dX5_opensBy_90 (by decide) ?_
        refine o_iconst dX5_opensBy_91 ic_1 ?_
        refine o_icmp_eq (tgt := 100) dX5_opensBy_92 (by decide) (fun c_92 => ?_) (fun c_92 => ?_)
        · skip
          refine o_iconst dX5_opensBy_100 ic_1 ?_
          refine o_goto (tgt := 105) dX5_opensBy_101 (by decide) ?_
          refine o_iret dX5_opensBy_105 rfl (by first | exact nz_b _ | decide) (Nat.le_of_ble_eq_true rfl) (Nat.le_of_ble_eq_true rfl) ?_
          exact ⟨by simp [opB, bI, *], rfl⟩
        · skip
          refine o_iload dX5_opensBy_95 rfl ?_
          refine o_if_eq (tgt := 104) dX5_opensBy_97 (by decide) (fun _ => ?_) (fun cq => absurd (by decide) cq)
          refine o_iconst dX5_opensBy_104 ic_0 ?_
          refine o_iret dX5_opensBy_105 rfl (by first | exact nz_b _ | decide) (Nat.le_of_ble_eq_true rfl) (Nat.le_of_ble_eq_true rfl) ?_
          exact ⟨by simp [opB, bI, *], rfl⟩
      | 3, _, hsw =>
        refine o_tabInE (tgt := 106) (off := 71) dX5_opensBy_35 hsw (by decide) (by decide) (by decide) (by decide) ?_
        have hsw := sw_eq (l := 4) hsw (by decide)
        refine o_iconst dX5_opensBy_106 ic_1 ?_
        refine o_iret dX5_opensBy_107 rfl (by first | exact nz_b _ | decide) (Nat.le_of_ble_eq_true rfl) (Nat.le_of_ble_eq_true rfl) ?_
        exact ⟨by rcases ho with q | q <;> simp [opB, bI, hsw, q], rfl⟩
      | 4, _, hsw =>
        refine o_tabInE (tgt := 108) (off := 73) dX5_opensBy_35 hsw (by decide) (by decide) (by decide) (by decide) ?_
        have hsw := sw_eq (l := 5) hsw (by decide)
        refine o_iload dX5_opensBy_108 rfl ?_
        refine o_if_eq (tgt := 122) dX5_opensBy_110 (by decide) (fun _ => ?_) (fun cq => absurd (by decide) cq)
        refine o_iconst dX5_opensBy_122 ic_0 ?_
        refine o_iret dX5_opensBy_123 rfl (by first | exact nz_b _ | decide) (Nat.le_of_ble_eq_true rfl) (Nat.le_of_ble_eq_true rfl) ?_
        exact ⟨by simp [opB, bI, *], rfl⟩
      | j + 5, hj, _ => exact absurd hj (by omega)
  · skip
    refine o_iconst dX5_opensBy_5 ic_1 ?_
    refine o_goto (tgt := 10) dX5_opensBy_6 (by decide) ?_
    refine o_istg_5 dX5_opensBy_10 rfl (Nat.le_of_ble_eq_true rfl) ?_
    refine o_iload dX5_opensBy_12 rfl ?_
    refine o_if_eq (tgt := 31) dX5_opensBy_14 (by decide) (fun cq => absurd cq (by decide)) (fun _ => ?_)
    refine o_iload_n dX5_opensBy_17 rfl rfl ?_
    refine o_iload_n dX5_opensBy_18 rfl rfl ?_
    refine o_iconst dX5_opensBy_19 ic_3 ?_
    refine o_idiv dX5_opensBy_20 (by decide) ?_
    refine o_iconst dX5_opensBy_21 ic_2 ?_
    refine o_iadd dX5_opensBy_22 ?_
    refine o_irem dX5_opensBy_23 ((beat_f hf).2) ?_
    refine o_if_ne (tgt := 31) dX5_opensBy_24 (by decide) (fun c_24 => ?_) (fun c_24 => ?_)
    · skip
      refine o_iconst dX5_opensBy_31 ic_0 ?_
      refine o_istg_6 dX5_opensBy_32 rfl (Nat.le_of_ble_eq_true rfl) ?_
      refine o_iload_n dX5_opensBy_34 rfl rfl ?_
      refine o_sw (lo := 1) (hi := 5) 5 (by decide) (by decide) (by decide) (fun hsw => ?_) (fun j hj hsw => ?_)
      · refine o_tabOut (tgt := 124) dX5_opensBy_35 hsw (by decide) ?_
        refine o_iload dX5_opensBy_124 rfl ?_
        refine o_iret dX5_opensBy_126 rfl (by first | exact nz_b _ | decide) (Nat.le_of_ble_eq_true rfl) (Nat.le_of_ble_eq_true rfl) ?_
        have k0 := kd0 hk hsw
        exact ⟨by simp [opB, bI, k0, *], rfl⟩
      · match j, hj, hsw with
        | 0, _, hsw =>
          refine o_tabInE (tgt := 68) (off := 33) dX5_opensBy_35 hsw (by decide) (by decide) (by decide) (by decide) ?_
          have hsw := sw_eq (l := 1) hsw (by decide)
          refine o_iload dX5_opensBy_68 rfl ?_
          refine o_iret dX5_opensBy_70 rfl (by first | exact nz_b _ | decide) (Nat.le_of_ble_eq_true rfl) (Nat.le_of_ble_eq_true rfl) ?_
          exact ⟨by simp [opB, bI, *], rfl⟩
        | 1, _, hsw =>
          refine o_tabInE (tgt := 71) (off := 36) dX5_opensBy_35 hsw (by decide) (by decide) (by decide) (by decide) ?_
          have hsw := sw_eq (l := 2) hsw (by decide)
          refine o_iload dX5_opensBy_71 rfl ?_
          refine o_if_eq (tgt := 86) dX5_opensBy_73 (by decide) (fun cq => absurd cq (by decide)) (fun _ => ?_)
          refine o_iload dX5_opensBy_76 rfl ?_
          refine o_iload_n dX5_opensBy_78 rfl rfl ?_
          refine o_icmp_lt (tgt := 86) dX5_opensBy_79 (by decide) (fun c_79 => ?_) (fun c_79 => ?_)
          · skip
            refine o_iconst dX5_opensBy_86 ic_0 ?_
            refine o_iret dX5_opensBy_87 rfl (by first | exact nz_b _ | decide) (Nat.le_of_ble_eq_true rfl) (Nat.le_of_ble_eq_true rfl) ?_
            exact ⟨by simp [opB, bI, *], rfl⟩
          · skip
            refine o_iconst dX5_opensBy_82 ic_1 ?_
            refine o_goto (tgt := 87) dX5_opensBy_83 (by decide) ?_
            refine o_iret dX5_opensBy_87 rfl (by first | exact nz_b _ | decide) (Nat.le_of_ble_eq_true rfl) (Nat.le_of_ble_eq_true rfl) ?_
            exact ⟨by simp [opB, bI, *], rfl⟩
        | 2, _, hsw =>
          refine o_tabInE (tgt := 88) (off := 53) dX5_opensBy_35 hsw (by decide) (by decide) (by decide) (by decide) ?_
          have hsw := sw_eq (l := 3) hsw (by decide)
          refine o_iload_n dX5_opensBy_88 rfl rfl ?_
          refine o_iconst dX5_opensBy_89 ic_2 ?_
          refine o_irem dX5_opensBy_90 (by decide) ?_
          refine o_iconst dX5_opensBy_91 ic_1 ?_
          refine o_icmp_eq (tgt := 100) dX5_opensBy_92 (by decide) (fun c_92 => ?_) (fun c_92 => ?_)
          · skip
            refine o_iconst dX5_opensBy_100 ic_1 ?_
            refine o_goto (tgt := 105) dX5_opensBy_101 (by decide) ?_
            refine o_iret dX5_opensBy_105 rfl (by first | exact nz_b _ | decide) (Nat.le_of_ble_eq_true rfl) (Nat.le_of_ble_eq_true rfl) ?_
            exact ⟨by simp [opB, bI, *], rfl⟩
          · skip
            refine o_iload dX5_opensBy_95 rfl ?_
            refine o_if_eq (tgt := 104) dX5_opensBy_97 (by decide) (fun cq => absurd cq (by decide)) (fun _ => ?_)
            refine o_iconst dX5_opensBy_100 ic_1 ?_
            refine o_goto (tgt := 105) dX5_opensBy_101 (by decide) ?_
            refine o_iret dX5_opensBy_105 rfl (by first | exact nz_b _ | decide) (Nat.le_of_ble_eq_true rfl) (Nat.le_of_ble_eq_true rfl) ?_
            exact ⟨by simp [opB, bI, *], rfl⟩
        | 3, _, hsw =>
          refine o_tabInE (tgt := 106) (off := 71) dX5_opensBy_35 hsw (by decide) (by decide) (by decide) (by decide) ?_
          have hsw := sw_eq (l := 4) hsw (by decide)
          refine o_iconst dX5_opensBy_106 ic_1 ?_
          refine o_iret dX5_opensBy_107 rfl (by first | exact nz_b _ | decide) (Nat.le_of_ble_eq_true rfl) (Nat.le_of_ble_eq_true rfl) ?_
          exact ⟨by rcases ho with q | q <;> simp [opB, bI, hsw, q], rfl⟩
        | 4, _, hsw =>
          refine o_tabInE (tgt := 108) (off := 73) dX5_opensBy_35 hsw (by decide) (by decide) (by decide) (by decide) ?_
          have hsw := sw_eq (l := 5) hsw (by decide)
          refine o_iload dX5_opensBy_108 rfl ?_
          refine o_if_eq (tgt := 122) dX5_opensBy_110 (by decide) (fun _ => ?_) (fun cq => absurd (by decide) cq)
          refine o_iconst dX5_opensBy_122 ic_0 ?_
          refine o_iret dX5_opensBy_123 rfl (by first | exact nz_b _ | decide) (Nat.le_of_ble_eq_true rfl) (Nat.le_of_ble_eq_true rfl) ?_
          exact ⟨by simp [opB, bI, *], rfl⟩
        | j + 5, hj, _ => exact absurd hj (by omega)
    · skip
      refine o_iconst dX5_opensBy_27 ic_1 ?_
      refine o_goto (tgt := 32) dX5_opensBy_28 (by decide) ?_
      refine o_istg_6 dX5_opensBy_32 rfl (Nat.le_of_ble_eq_true rfl) ?_
      refine o_iload_n dX5_opensBy_34 rfl rfl ?_
      refine o_sw (lo := 1) (hi := 5) 5 (by decide) (by decide) (by decide) (fun hsw => ?_) (fun j hj hsw => ?_)
      · refine o_tabOut (tgt := 124) dX5_opensBy_35 hsw (by decide) ?_
        refine o_iload dX5_opensBy_124 rfl ?_
        refine o_iret dX5_opensBy_126 rfl (by first | exact nz_b _ | decide) (Nat.le_of_ble_eq_true rfl) (Nat.le_of_ble_eq_true rfl) ?_
        have k0 := kd0 hk hsw
        exact ⟨by simp [opB, bI, k0, *], rfl⟩
      · match j, hj, hsw with
        | 0, _, hsw =>
          refine o_tabInE (tgt := 68) (off := 33) dX5_opensBy_35 hsw (by decide) (by decide) (by decide) (by decide) ?_
          have hsw := sw_eq (l := 1) hsw (by decide)
          refine o_iload dX5_opensBy_68 rfl ?_
          refine o_iret dX5_opensBy_70 rfl (by first | exact nz_b _ | decide) (Nat.le_of_ble_eq_true rfl) (Nat.le_of_ble_eq_true rfl) ?_
          exact ⟨by simp [opB, bI, *], rfl⟩
        | 1, _, hsw =>
          refine o_tabInE (tgt := 71) (off := 36) dX5_opensBy_35 hsw (by decide) (by decide) (by decide) (by decide) ?_
          have hsw := sw_eq (l := 2) hsw (by decide)
          refine o_iload dX5_opensBy_71 rfl ?_
          refine o_if_eq (tgt := 86) dX5_opensBy_73 (by decide) (fun cq => absurd cq (by decide)) (fun _ => ?_)
          refine o_iload dX5_opensBy_76 rfl ?_
          refine o_iload_n dX5_opensBy_78 rfl rfl ?_
          refine o_icmp_lt (tgt := 86) dX5_opensBy_79 (by decide) (fun c_79 => ?_) (fun c_79 => ?_)
          · skip
            refine o_iconst dX5_opensBy_86 ic_0 ?_
            refine o_iret dX5_opensBy_87 rfl (by first | exact nz_b _ | decide) (Nat.le_of_ble_eq_true rfl) (Nat.le_of_ble_eq_true rfl) ?_
            exact ⟨by simp [opB, bI, *], rfl⟩
          · skip
            refine o_iconst dX5_opensBy_82 ic_1 ?_
            refine o_goto (tgt := 87) dX5_opensBy_83 (by decide) ?_
            refine o_iret dX5_opensBy_87 rfl (by first | exact nz_b _ | decide) (Nat.le_of_ble_eq_true rfl) (Nat.le_of_ble_eq_true rfl) ?_
            exact ⟨by simp [opB, bI, *], rfl⟩
        | 2, _, hsw =>
          refine o_tabInE (tgt := 88) (off := 53) dX5_opensBy_35 hsw (by decide) (by decide) (by decide) (by decide) ?_
          have hsw := sw_eq (l := 3) hsw (by decide)
          refine o_iload_n dX5_opensBy_88 rfl rfl ?_
          refine o_iconst dX5_opensBy_89 ic_2 ?_
          refine o_irem dX5_opensBy_90 (by decide) ?_
          refine o_iconst dX5_opensBy_91 ic_1 ?_
          refine o_icmp_eq (tgt := 100) dX5_opensBy_92 (by decide) (fun c_92 => ?_) (fun c_92 => ?_)
          · skip
            refine o_iconst dX5_opensBy_100 ic_1 ?_
            refine o_goto (tgt := 105) dX5_opensBy_101 (by decide) ?_
            refine o_iret dX5_opensBy_105 rfl (by first | exact nz_b _ | decide) (Nat.le_of_ble_eq_true rfl) (Nat.le_of_ble_eq_true rfl) ?_
            exact ⟨by simp [opB, bI, *], rfl⟩
          · skip
            refine o_iload dX5_opensBy_95 rfl ?_
            refine o_if_eq (tgt := 104) dX5_opensBy_97 (by decide) (fun cq => absurd cq (by decide)) (fun _ => ?_)
            refine o_iconst dX5_opensBy_100 ic_1 ?_
            refine o_goto (tgt := 105) dX5_opensBy_101 (by decide) ?_
            refine o_iret dX5_opensBy_105 rfl (by first | exact nz_b _ | decide) (Nat.le_of_ble_eq_true rfl) (Nat.le_of_ble_eq_true rfl) ?_
            exact ⟨by simp [opB, bI, *], rfl⟩
        | 3, _, hsw =>
          refine o_tabInE (tgt := 106) (off := 71) dX5_opensBy_35 hsw (by decide) (by decide) (by decide) (by decide) ?_
          have hsw := sw_eq (l := 4) hsw (by decide)
          refine o_iconst dX5_opensBy_106 ic_1 ?_
          refine o_iret dX5_opensBy_107 rfl (by first | exact nz_b _ | decide) (Nat.le_of_ble_eq_true rfl) (Nat.le_of_ble_eq_true rfl) ?_
          exact ⟨by rcases ho with q | q <;> simp [opB, bI, hsw, q], rfl⟩
        | 4, _, hsw =>
          refine o_tabInE (tgt := 108) (off := 73) dX5_opensBy_35 hsw (by decide) (by decide) (by decide) (by decide) ?_
          have hsw := sw_eq (l := 5) hsw (by decide)
          refine o_iload dX5_opensBy_108 rfl ?_
          refine o_if_eq (tgt := 122) dX5_opensBy_110 (by decide) (fun cq => absurd cq (by decide)) (fun _ => ?_)
          refine o_iload_n dX5_opensBy_113 rfl rfl ?_
          refine o_iconst dX5_opensBy_114 ic_2 ?_
          refine o_icmp_lt (tgt := 122) dX5_opensBy_115 (by decide) (fun c_115 => ?_) (fun c_115 => ?_)
          · skip
            refine o_iconst dX5_opensBy_122 ic_0 ?_
            refine o_iret dX5_opensBy_123 rfl (by first | exact nz_b _ | decide) (Nat.le_of_ble_eq_true rfl) (Nat.le_of_ble_eq_true rfl) ?_
            exact ⟨by simp [opB, bI, *], rfl⟩
          · skip
            refine o_iconst dX5_opensBy_118 ic_1 ?_
            refine o_goto (tgt := 123) dX5_opensBy_119 (by decide) ?_
            refine o_iret dX5_opensBy_123 rfl (by first | exact nz_b _ | decide) (Nat.le_of_ble_eq_true rfl) (Nat.le_of_ble_eq_true rfl) ?_
            exact ⟨by simp [opB, bI, *], rfl⟩
        | j + 5, hj, _ => exact absurd hj (by omega)
theorem tX5_isThere {r : Nat → Int32} {x : Int32} {p : Nat} (hp : p < 7) : PD mX5_isThere [.ref 0, .int (nI p), .int x] ([.inl (71, r)]) (some (.int (bI (!gn r p && decide (r (50 + 3 * p) = x))))) ([.inl (71, r)]) := by
  refine PM.ofp 0 (by decide) (Nat.le_of_ble_eq_true rfl) ?_
  show Ok mX5_isThere none 0 [some (.ref 0), some (.int (nI p)), some (.int x)] [] ([.inl (71, r)]) 0 0 _
  refine o_aload_n dX5_isThere_0 rfl rfl ?_
  refine o_iconst dX5_isThere_1 ic_4 ?_
  refine o_ialp (i := 4) dX5_isThere_2 rfl (rfl) (by decide) ?_
  refine o_iload_n dX5_isThere_3 rfl rfl ?_
  refine o_callSr (is := []) (tX5_has) ⟨rfl, rfl⟩ dX5_isThere_4 wd812 csX5_has rfl ⟨(Nat.le_of_ble_eq_true rfl), (Nat.le_of_ble_eq_true rfl)⟩ rfl rfl rfl (Nat.le_of_ble_eq_true rfl) (Nat.le_of_ble_eq_true rfl) (Nat.le_of_ble_eq_true rfl) ?_
  refine o_if_ne (tgt := 25) dX5_isThere_7 (by decide) (fun c_7 => ?_) (fun c_7 => ?_)
  · have hg : gn r p = true := by
      unfold gn
      cases hh : hasB (r 4) (nI p) with
      | true => rfl
      | false => exact absurd (by rw [hh]; rfl) c_7
    refine o_iconst dX5_isThere_25 ic_0 ?_
    refine o_iret dX5_isThere_26 rfl (by first | exact nz_b _ | decide) (Nat.le_of_ble_eq_true rfl) (Nat.le_of_ble_eq_true rfl) ?_
    exact ⟨by rw [hg]; rfl, rfl⟩
  · have hg : gn r p = false := bI_0.mp c_7
    refine o_aload_n dX5_isThere_10 rfl rfl ?_
    refine o_iload_n dX5_isThere_11 rfl rfl ?_
    refine o_iconst dX5_isThere_12 ic_0 ?_
    refine o_callSr (is := []) (ofP0) ⟨rfl, rfl⟩ dX5_isThere_13 wd783 csX5_ofP rfl ⟨(Nat.le_of_ble_eq_true rfl), (Nat.le_of_ble_eq_true rfl)⟩ rfl rfl rfl (Nat.le_of_ble_eq_true rfl) (Nat.le_of_ble_eq_true rfl) (Nat.le_of_ble_eq_true rfl) ?_
    refine o_ialp (i := 50 + 3 * p) dX5_isThere_16 rfl (rfl) (by omega) ?_
    refine o_iload_n dX5_isThere_17 rfl rfl ?_
    refine o_icmp_ne (tgt := 25) dX5_isThere_18 (by decide) (fun c_18 => ?_) (fun c_18 => ?_)
    · skip
      refine o_iconst dX5_isThere_25 ic_0 ?_
      refine o_iret dX5_isThere_26 rfl (by first | exact nz_b _ | decide) (Nat.le_of_ble_eq_true rfl) (Nat.le_of_ble_eq_true rfl) ?_
      exact ⟨by rw [hg]; simp [bI, c_18], rfl⟩
    · skip
      refine o_iconst dX5_isThere_21 ic_1 ?_
      refine o_goto (tgt := 26) dX5_isThere_22 (by decide) ?_
      refine o_iret dX5_isThere_26 rfl (by first | exact nz_b _ | decide) (Nat.le_of_ble_eq_true rfl) (Nat.le_of_ble_eq_true rfl) ?_
      exact ⟨by rw [hg]; simp [bI, c_18], rfl⟩
