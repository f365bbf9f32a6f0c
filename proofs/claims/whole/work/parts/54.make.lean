/-! MAKING: new cells stand behind the others -/
def clV (n : Nat) : Value → Bool
  | .ref i => decide (i < n) || decide (i = 999)
  | _ => true
def clE (n : Nat) : PE → Bool
  | .inl _ => true
  | .inr o => o.2.all (clV n)
def clW (n : Nat) (w : PW) : Bool := w.all (clE n)
def clO (n : Nat) : Option Value → Bool
  | some v => clV n v
  | none => true
def clL (n : Nat) (ls : List (Option Value)) : Bool := ls.all (clO n)
def clS (n : Nat) (st : List Value) : Bool := st.all (clV n)
theorem tv_cl {n : Nat} {v : Value} (h : clV n v = true) {ad ad' : Nat → Nat} (ha : ∀ j, j < n ∨ j = 999 → ad' j = ad j) : tv ad' v = tv ad v := by
  cases v with
  | ref i =>
    have h2 : i < n ∨ i = 999 := by simpa [clV] using h
    show Value.ref (ad' i) = Value.ref (ad i)
    rw [ha i h2]
  | _ => rfl
theorem te_cl {cI : ClassId} {n : Nat} {e : PE} (h : clE n e = true) {ad ad' : Nat → Nat} (ha : ∀ j, j < n ∨ j = 999 → ad' j = ad j) : te cI ad' e = te cI ad e := by
  match e, h with
  | .inl x, _ => rfl
  | .inr o, h =>
    show Sum.inr (o.1, o.2.map (tv ad')) = Sum.inr (o.1, o.2.map (tv ad))
    rw [List.map_congr_left (fun v hv => tv_cl (List.all_eq_true.mp h v hv) ha)]
theorem st_cl {n : Nat} {st : List Value} (h : clS n st = true) {ad ad' : Nat → Nat} (ha : ∀ j, j < n ∨ j = 999 → ad' j = ad j) : st.map (tv ad') = st.map (tv ad) :=
  List.map_congr_left (fun v hv => tv_cl (List.all_eq_true.mp h v hv) ha)
theorem lr_cl {n nL : Nat} {ls : List (Option Value)} {LS : Array Slot} (h : clL n ls = true) {ad ad' : Nat → Nat} (ha : ∀ j, j < n ∨ j = 999 → ad' j = ad j) (hl : lr ad nL ls LS) : lr ad' nL ls LS :=
  ⟨hl.1, hl.2.1, fun i v hi => by
    have h1 : clO n (some v) = true := List.all_eq_true.mp h (some v) (List.mem_of_getElem? hi)
    rw [tv_cl (v := v) h1 ha]
    exact hl.2.2 i v hi⟩
def adx (ad : Nat → Nat) (i q : Nat) : Nat → Nat := fun j => if j = i then q else ad j
theorem adx_old {ad : Nat → Nat} {i q : Nat} (hi : i < 999) : ∀ j, j < i ∨ j = 999 → adx ad i q j = ad j := fun j hj => if_neg (by omega)
theorem tw_push {cI : ClassId} {ad : Nat → Nat} {w : PW} {e : PE} {q : Nat} (hw : w.length < 999) (hcl : clW w.length w = true) (hce : clE w.length e = true) : tw cI (adx ad w.length q) (w ++ [e]) = tw cI ad w ++ [(q, te cI ad e)] := by
  apply List.ext_getElem?
  intro i
  rw [tw_get]
  by_cases hi : i < w.length
  · rw [List.getElem?_append_left hi, List.getElem?_append_left (by rw [tw_len]; exact hi), tw_get, List.getElem?_eq_getElem hi]
    show some (adx ad w.length q i, te cI (adx ad w.length q) w[i]) = some (ad i, te cI ad w[i])
    rw [adx_old hw i (Or.inl hi), te_cl (List.all_eq_true.mp hcl _ (List.getElem_mem hi)) (adx_old hw)]
  · rw [List.getElem?_append_right (by omega), List.getElem?_append_right (by rw [tw_len]; omega), tw_len]
    by_cases hi2 : i = w.length
    · subst hi2
      rw [Nat.sub_self]
      show some (adx ad w.length q w.length, te cI (adx ad w.length q) e) = some (q, te cI ad e)
      rw [te_cl hce (adx_old hw)]
      unfold adx
      rw [if_pos rfl]
    · rw [List.getElem?_eq_none (by simp; omega), List.getElem?_eq_none (by simp; omega)]
      rfl
theorem rel_push {D : va_G} {cI : ClassId} {R : Room} {A : Nat → Prop} {H0 H H1 : Heap} {ad0 : Nat → Nat} {n0 : Nat} {ad : Nat → Nat} {w : PW} {locs : List Loc} {e : PE} {q : Nat} (hR : Rel D cI R A H0 ad0 n0 ad w H locs) (hz : ¬ R.cells = 0) (hw : w.length < 999) (hcl : clW w.length w = true) (hce : clE w.length e = true)
    (hP : va_P D vwCl (tw cI ad w ++ [(q, te cI ad e)]) H1) (hD : va_D A (tw cI ad w ++ [(q, te cI ad e)])) (hS : va_S A H0 H1 locs) : Rel D cI R A H0 ad0 n0 (adx ad w.length q) (w ++ [e]) H1 locs := by
  have h1 := hR.2.2.2.2.1
  refine ⟨by rw [tw_push hw hcl hce]; exact hP, by rw [tw_push hw hcl hce]; exact hD, hS, fun z => absurd z hz, by rw [List.length_append]; omega, fun i hi => ?_, ?_⟩
  · rw [adx_old hw i (Or.inl (by omega))]; exact hR.2.2.2.2.2.1 i hi
  · rw [adx_old hw 999 (Or.inr rfl)]; exact hR.2.2.2.2.2.2
theorem va_int {D : va_G} {cI cA : ClassId} {s : State} (hK : va_K D vwCl ([(cI, .int)] ++ [(cA, .int)]) s) : cA = cI := by
  have h1 := (hK.2 0 (cI, .int) rfl).2
  have h2 := (hK.2 1 (cA, .int) rfl).2
  have h1 : s.vm.findClass ("[" ++ FieldType.int.toString) = some cI := h1
  have h2 : s.vm.findClass ("[" ++ FieldType.int.toString) = some cA := h2
  rw [h1] at h2
  exact (Option.some.inj h2).symm
section MAKE
variable {M Mc : MI} {S : Scr} {pc : Nat} {ls : List (Option Value)} {st stk : List Value} {w : PW} {k n : Nat} {P : Option Value → PW → Prop} {idx nA : Nat}
theorem o_newa {N : Nat} {x : Int32} (hd : decode (mC M) pc = .ok (.newarray .int, 2)) (hx : x = nI N) (hN : N ≤ 1000) (hc : k + 1 ≤ (mR M).cells) (hs : n + N ≤ (mR M).slots) (hw : w.length < 999) (hcl : clW w.length w = true) (hls : clL w.length ls = true) (hst : clS w.length st = true)
    (h : Ok M S (pc + 2) ls (.ref w.length :: st) (w ++ [.inl (N, fun _ => 0)]) (k + 1) (n + N) P) : Ok M S pc ls (.int x :: st) w k n P := by
  intro p l e s m args below meth c D cI A ad0 n0 Q C hr ad H locs LS hR hl
  refine va_newa (atype := .int) C.1.1 C.1.2.1 (C.2.1 _ wd136) rfl C.2.2.1 hR.1 hR.2.1 hR.2.2.1 C.2.2.2.2.1 (n := x) (N' := N) (a0 := (N, .inl (fun _ => 0))) (fun cA => rfl) (by rw [hx]; exact nI_pos (by omega)) (by rw [hx]; exact nI_clamp (by omega)) (by show N * 4 ≤ 536870912; omega) hc hs hd (fun q cA H1 hK hP hD hS => ?_)
  have hcA : cA = cI := va_int hK
  subst hcA
  have hR2 := rel_push (e := .inl (N, fun _ => 0)) (q := q) hR (by omega) hw hcl rfl hP hD hS
  have K := h p l e s m args below meth c D cA A ad0 n0 Q C hr (adx ad w.length q) H1 locs LS hR2 (lr_cl hls (adx_old hw) hl)
  have e1 : (Value.ref w.length :: st).map (tv (adx ad w.length q)) = .ref q :: st.map (tv ad) := by
    rw [List.map_cons, st_cl hst (adx_old hw)]
    show Value.ref (adx ad w.length q w.length) :: _ = _
    unfold adx
    rw [if_pos rfl]
  rw [e1] at K
  exact K
theorem o_new {ci N : Nat} {B : String} {T : u_T} {fs : List Value} (ty : Nat → FieldType) (hd : decode (mC M) pc = .ok (.new idx, 3)) (hc : vwCl[ci]? = some (B, T, N)) (hin : ∀ w ∈ u_ws B T N, w ∈ GW) (hty : ∀ k, k < N → parseFieldDescriptor (T k).2.2.1 = some (ty k)) (hlink : Cond.classLink (mY M).cls idx B ∈ GW) (hinst : Cond.instantiable B N ∈ GW) (hini : Cond.initialized B ∈ GW) (hfs : ∀ j, j < N → defaultValue (ty j) = vp_V fs j) (hfm : ∀ a, fs.map (tv a) = fs) (hfc : ∀ m, clS m fs = true)
    (hcc : k + 1 ≤ (mR M).cells) (hs : n + N ≤ (mR M).slots) (hw : w.length < 999) (hcl : clW w.length w = true) (hls : clL w.length ls = true) (hst : clS w.length st = true)
    (h : Ok M S (pc + 3) ls (.ref w.length :: st) (w ++ [.inr (ci, fs)]) (k + 1) (n + N) P) : Ok M S pc ls st w k n P := by
  intro p l e s m args below meth c D cI A ad0 n0 Q C hr ad H locs LS hR hl
  refine va_new (fs := fs) C.1.1 C.1.2.1 C.2.1 hin ty hty C.1.2.2.2.1 (C.2.1 _ hlink) (C.2.1 _ hinst) (C.2.1 _ hini) C.2.2.1 hR.1 hR.2.1 hR.2.2.1 C.2.2.2.2.1 hc hfs hcc hs hd (fun q H1 hP hD hS => ?_)
  have et : te cI ad (.inr (ci, fs)) = .inr (ci, fs) := by
    show Sum.inr (ci, fs.map (tv ad)) = _
    rw [hfm]
  have hR2 := rel_push (e := .inr (ci, fs)) (q := q) hR (by omega) hw hcl (hfc _) (by rw [et]; exact hP) (by rw [et]; exact hD) hS
  have K := h p l e s m args below meth c D cI A ad0 n0 Q C hr (adx ad w.length q) H1 locs LS hR2 (lr_cl hls (adx_old hw) hl)
  have e1 : (Value.ref w.length :: st).map (tv (adx ad w.length q)) = .ref q :: st.map (tv ad) := by
    rw [List.map_cons, st_cl hst (adx_old hw)]
    show Value.ref (adx ad w.length q w.length) :: _ = _
    unfold adx
    rw [if_pos rfl]
  rw [e1] at K
  exact K
end MAKE
/-- a world that stands n places further back -/
def shV (n : Nat) : Value → Value
  | .ref i => .ref (n + i)
  | v => v
def shE (n : Nat) : PE → PE
  | .inl x => .inl x
  | .inr o => .inr (o.1, o.2.map (shV n))
def inV (n : Nat) : Value → Bool
  | .ref i => decide (i < n)
  | _ => true
def inE (n : Nat) : PE → Bool
  | .inl _ => true
  | .inr o => o.2.all (inV n)
def inW (n : Nat) (w : PW) : Bool := w.all (inE n)
def adj (ad ad2 : Nat → Nat) (a b : Nat) : Nat → Nat := fun i => if a ≤ i ∧ i < a + b then ad2 (i - a) else ad i
theorem adj_in {ad ad2 : Nat → Nat} {a b j : Nat} (h : j < b) : adj ad ad2 a b (a + j) = ad2 j := by
  unfold adj; rw [if_pos ⟨by omega, by omega⟩, Nat.add_sub_cancel_left]
theorem adj_old {ad ad2 : Nat → Nat} {a b : Nat} (hb : 1 ≤ b) (hab : a + b ≤ 999) (h0 : ad2 0 = ad a) : ∀ j, j < a + 1 ∨ j = 999 → adj ad ad2 a b j = ad j := fun j hj => by
  by_cases e : j = a
  · subst e
    have := adj_in (ad := ad) (ad2 := ad2) (a := j) (b := b) (j := 0) (by omega)
    rw [Nat.add_zero] at this
    rw [this, h0]
  · unfold adj; exact if_neg (by omega)
theorem sh_te {cI : ClassId} {ad ad2 : Nat → Nat} {a b : Nat} {e : PE} (h : inE b e = true) : te cI (adj ad ad2 a b) (shE a e) = te cI ad2 e := by
  match e, h with
  | .inl x, _ => rfl
  | .inr o, h =>
    show Sum.inr (o.1, (o.2.map (shV a)).map (tv (adj ad ad2 a b))) = Sum.inr (o.1, o.2.map (tv ad2))
    rw [List.map_map]
    congr 2
    refine List.map_congr_left (fun v hv => ?_)
    have h1 := List.all_eq_true.mp h v hv
    cases v with
    | ref i =>
      show Value.ref (adj ad ad2 a b (a + i)) = Value.ref (ad2 i)
      rw [adj_in (by simpa [inV] using h1)]
    | _ => rfl
theorem tw_join {cI : ClassId} {ad ad2 : Nat → Nat} {w0 w2 : PW} (hb : 1 ≤ w2.length) (hab : w0.length + w2.length ≤ 999) (h0 : ad2 0 = ad w0.length) (hc0 : clW (w0.length + 1) w0 = true) (hc2 : inW w2.length w2 = true) : tw cI (adj ad ad2 w0.length w2.length) (w0 ++ w2.map (shE w0.length)) = tw cI ad w0 ++ tw cI ad2 w2 := by
  apply List.ext_getElem?
  intro i
  rw [tw_get]
  by_cases hi : i < w0.length
  · rw [List.getElem?_append_left hi, List.getElem?_append_left (by rw [tw_len]; exact hi), tw_get, List.getElem?_eq_getElem hi]
    show some (adj ad ad2 w0.length w2.length i, te cI (adj ad ad2 w0.length w2.length) w0[i]) = some (ad i, te cI ad w0[i])
    rw [adj_old hb hab h0 i (Or.inl (by omega)), te_cl (List.all_eq_true.mp hc0 _ (List.getElem_mem hi)) (adj_old hb hab h0)]
  · rw [List.getElem?_append_right (by omega), List.getElem?_append_right (by rw [tw_len]; omega), tw_len, tw_get, List.getElem?_map]
    cases hx : w2[i - w0.length]? with
    | none => rfl
    | some x =>
      have hl : i - w0.length < w2.length := (List.getElem?_eq_some_iff.mp hx).1
      show some (adj ad ad2 w0.length w2.length i, te cI (adj ad ad2 w0.length w2.length) (shE w0.length x)) = some (ad2 (i - w0.length), te cI ad2 x)
      rw [sh_te (List.all_eq_true.mp hc2 _ (List.mem_of_getElem? hx))]
      have := adj_in (ad := ad) (ad2 := ad2) (a := w0.length) (b := w2.length) hl
      rw [show w0.length + (i - w0.length) = i by omega] at this
      rw [this]
/-- what the tables say of a constructor that is called -/
def CI0 (M : MI) (nA : Nat) : Prop := Cond.instanceMethod (mY M) ∈ GW ∧ Cond.initialized (mY M).cls ∈ GW ∧ Cond.code (mY M) (mC M) (mL M) none ∈ GW ∧ ((mY M).cls ≠ "java/lang/invoke/MethodHandle" ∧ (mY M).cls ≠ "java/lang/invoke/VarHandle" ∧ (parseMethodDescriptor (mY M).desc).map (fun d => d.parameters.length) = some nA) ∧ (mY M).name = "<init>" ∧ mT M = none
section CTOR
variable {M Mc : MI} {S : Scr} {pc : Nat} {ls : List (Option Value)} {st stk : List Value} {w0 w2 wc2 : PW} {k n : Nat} {P : Option Value → PW → Prop} {idx nA ci : Nat} {fs asc : List Value}
theorem call_make {p : Program} {l : Launch} {e : Env} {s : State} {m : MethodId} {args : Array Value} {below : List Frame} {meth : Method} {c : Code} {D : va_G} {cI : ClassId} {A : Nat → Prop} {ad0 : Nat → Nat} {n0 : Nat} {Q : State → Prop} {ad : Nat → Nat} {H : Heap} {locs : List Loc} {LS : Array Slot} {a : Array Value} {st0 : List Value}
    (C : Ctx M S p s m args meth c D cI A ad0) (hr : RetQ M p l e s m args below meth c D cI A ad0 n0 Q P) (hR : Rel D cI (mR M) A s.heap ad0 n0 ad (w0 ++ [.inr (ci, fs)]) H locs) (hl : lr ad (mL M) ls LS) (hfm : ∀ a, fs.map (tv a) = fs) (hz : ¬ (mR M).cells = 0) (hb : 1 ≤ wc2.length) (hab : w0.length + wc2.length ≤ 999) (hc0 : clW (w0.length + 1) w0 = true) (hc2 : inW wc2.length wc2 = true) (hls : clL (w0.length + 1) ls = true) (hst : clS (w0.length + 1) st = true) (hw2 : w0 ++ wc2.map (shE w0.length) = w2)
    (hrun : va_Run p l e (mR M) s m args below meth c H locs k n (mR Mc).cells (mR Mc).slots (F0 m pc LS st0) (st.map (tv ad)) (PQ Mc D cI (fun j => ad (w0.length + j)) [.inr (ci, fs)] H.size (fun r' w' => r' = none ∧ w' = wc2) a) (va_A (tw cI (fun j => ad (w0.length + j)) [.inr (ci, fs)]) H.size))
    (h : Ok M S (pc + 3) ls st w2 (k + (mR Mc).cells) (n + (mR Mc).slots) P) : W p l e (mR M) s m args below meth c H locs k n Q (F0 m pc LS st0) := by
  intro T hT X
  obtain ⟨v, st₀, t, T', L, h0, X', hL, e1, e2, hq, go⟩ := hrun T hT X
  obtain ⟨⟨r, wc', ad2, hoc, ⟨hr0, hw'⟩, hcl, -, -, hpre, hP', hD'⟩, hF1, hF2⟩ := hq
  subst hr0
  subst hw'
  have ev : v = none := by cases hoc; rfl
  subst ev
  rw [h0] at hF1 hF2
  have hA0 : ad2 0 = ad w0.length := hpre 0 (by show 0 < 1; omega)
  have et : tw cI (fun j => ad (w0.length + j)) [.inr (ci, fs)] = [(ad w0.length, .inr (ci, fs))] := by
    show [(ad (w0.length + 0), Sum.inr (ci, fs.map (tv _)))] = _
    rw [hfm]; rfl
  rw [et] at hF2 hL hD'
  have hlen0 : (w0 ++ [Sum.inr (ci, fs)] : PW).length = w0.length + 1 := by rw [List.length_append]; rfl
  have hold : ∀ (i : Nat) (x : PE), w0[i]? = some x → (w0 ++ [Sum.inr (ci, fs)] : PW)[i]? = some x := fun i x hx => by rw [List.getElem?_append_left (List.getElem?_eq_some_iff.mp hx).1]; exact hx
  have hlast : (w0 ++ [Sum.inr (ci, fs)] : PW)[w0.length]? = some (Sum.inr (ci, fs)) := by rw [List.getElem?_append_right (Nat.le_refl _), Nat.sub_self]; rfl
  have hin : ∀ q, va_A [(ad w0.length, (.inr (ci, fs) : va_E))] H.size q → q = ad w0.length ∨ H.size ≤ q := fun q hq => by
    rcases hq with ⟨j, x, hx⟩ | hq
    · have hj : j < 1 := (List.getElem?_eq_some_iff.mp hx).1
      rw [show j = 0 by omega] at hx
      cases hx
      exact Or.inl rfl
    · exact Or.inr hq
  have hsubA : ∀ q, va_A [(ad w0.length, (.inr (ci, fs) : va_E))] H.size q → A q := fun q hq => by
    rcases hin q hq with e | e
    · rw [e]; exact hR.2.1.2 w0.length _ (tw_at hlast)
    · exact C.2.2.2.2.1 q (Nat.le_trans hR.2.2.1.1 e)
  have hS : va_S A s.heap T'.heap (locs ++ L) := by
    refine ⟨Nat.le_trans hR.2.2.1.1 (by rw [e1]; exact hF1), fun q h1 h2 => ?_, fun q hq => ?_⟩
    · rw [e1, hF2 q (Nat.lt_of_lt_of_le h1 hR.2.2.1.1) (fun z => h2 (hsubA q z))]
      exact hR.2.2.1.2.1 q h1 h2
    · rcases List.mem_append.mp hq with h | h
      · exact hR.2.2.1.2.2 q h
      · exact hsubA _ (hL q h)
  have hapart : ∀ (i : Nat) (x : PE), w0[i]? = some x → ad i < H.size ∧ ¬ va_A [(ad w0.length, (.inr (ci, fs) : va_E))] H.size (ad i) := fun i x hx => by
    have h1 := (hR.1 i _ (tw_at (hold i x hx))).lt
    refine ⟨h1, fun z => ?_⟩
    have hil : i < w0.length := (List.getElem?_eq_some_iff.mp hx).1
    rcases hin _ z with e | e
    · have := hR.2.1.1 i w0.length _ _ (tw_at (hold i x hx)) (tw_at hlast) e
      omega
    · exact absurd h1 (Nat.not_lt.mpr e)
  have hR2 : Rel D cI (mR M) A s.heap ad0 n0 (adj ad ad2 w0.length wc'.length) w2 T'.heap (locs ++ L) := by
    subst hw2
    have hn0 := hR.2.2.2.2.1
    rw [hlen0] at hn0
    refine ⟨?_, ?_, hS, fun z => absurd z hz, by rw [List.length_append, List.length_map]; omega, fun i hi => ?_, ?_⟩
    · rw [tw_join hb hab hA0 hc0 hc2]
      refine va_P.app (fun i q hq => ?_) (by rw [e1]; exact hP')
      obtain ⟨x, hx, rfl⟩ := tw_of hq
      obtain ⟨g1, g2⟩ := hapart i x hx
      exact (hR.1 i _ (tw_at (hold i x hx))).kept (by show T'.heap[ad i]? = H[ad i]?; rw [e1]; exact hF2 _ g1 g2)
    · rw [tw_join hb hab hA0 hc0 hc2]
      refine va_D.app ⟨fun i j x y hi hj hxy => ?_, fun i q hq => ?_⟩ (hD'.weaken (fun _ q _ h => hsubA q.1 h)) (fun i j x y hx hy hxy => ?_)
      · obtain ⟨x', hx, rfl⟩ := tw_of hi
        obtain ⟨y', hy, rfl⟩ := tw_of hj
        exact hR.2.1.1 i j _ _ (tw_at (hold i x' hx)) (tw_at (hold j y' hy)) hxy
      · obtain ⟨x', hx, rfl⟩ := tw_of hq
        exact hR.2.1.2 i _ (tw_at (hold i x' hx))
      · obtain ⟨x', hx', rfl⟩ := tw_of hx
        exact (hapart i x' hx').2 (by show va_A _ _ (ad i); rw [show ad i = y.1 from hxy]; exact hD'.2 j y hy)
    · rw [adj_old hb hab hA0 i (Or.inl (by omega))]; exact hR.2.2.2.2.2.1 i hi
    · rw [adj_old hb hab hA0 999 (Or.inr rfl)]; exact hR.2.2.2.2.2.2
  have K := h p l e s m args below meth c D cI A ad0 n0 Q C hr (adj ad ad2 w0.length wc'.length) T'.heap (locs ++ L) LS hR2 (lr_cl hls (adj_old hb hab hA0) hl)
  rw [st_cl hst (adj_old hb hab hA0)] at K
  obtain ⟨t2, a1, b1⟩ := K T' rfl X'
  exact ⟨t2, go t2 a1, b1⟩
theorem ctor_pre {p : Program} {s : State} {m : MethodId} {args : Array Value} {meth : Method} {c : Code} {D : va_G} {cI : ClassId} {A : Nat → Prop} {ad0 : Nat → Nat} {n0 : Nat} {ad : Nat → Nat} {H : Heap} {locs : List Loc}
    (C : Ctx M S p s m args meth c D cI A ad0) (hR : Rel D cI (mR M) A s.heap ad0 n0 ad (w0 ++ [.inr (ci, fs)]) H locs) (hfm : ∀ a, fs.map (tv a) = fs) {av : List Value} : PreS s H (va_Pc av (PPc D cI (fun j => ad (w0.length + j)) [.inr (ci, fs)] H.size)) av := by
  have hlast : (w0 ++ [Sum.inr (ci, fs)] : PW)[w0.length]? = some (Sum.inr (ci, fs)) := by rw [List.getElem?_append_right (Nat.le_refl _), Nat.sub_self]; rfl
  have et : tw cI (fun j => ad (w0.length + j)) [.inr (ci, fs)] = [(ad w0.length, .inr (ci, fs))] := by
    show [(ad (w0.length + 0), Sum.inr (ci, fs.map (tv _)))] = _
    rw [hfm]; rfl
  have h1 := hR.1 w0.length _ (tw_at hlast)
  have h2 : va_at D vwCl (ad w0.length, .inr (ci, fs)) H := by
    have e3 : te cI ad (Sum.inr (ci, fs)) = .inr (ci, fs) := by show Sum.inr (ci, fs.map (tv ad)) = _; rw [hfm]
    rw [e3] at h1; exact h1
  refine ⟨ppc_blind, fun U hU hW => ⟨rfl, by rw [hU], ?_, va_K.moved hW.alike C.2.2.1, ?_, NWok.warm hW C.2.2.2.1⟩⟩
  · rw [hU, et]
    intro j q hq
    have hj : j < 1 := (List.getElem?_eq_some_iff.mp hq).1
    rw [show j = 0 by omega] at hq
    cases hq
    exact h2
  · rw [et]
    refine ⟨fun i j x y hi hj _ => ?_, fun _ _ _ => trivial⟩
    have h1 : i < 1 := (List.getElem?_eq_some_iff.mp hi).1
    have h2 : j < 1 := (List.getElem?_eq_some_iff.mp hj).1
    omega
theorem o_ctor (hM : PD Mc (.ref 0 :: asc) [.inr (ci, fs)] none wc2) (hd : decode (mC M) pc = .ok (.invokespecial idx, 3)) (hlink : Cond.methodLink (mY M).cls idx (mY Mc) ∈ GW) (cs : CI0 Mc nA) (hn : asc.length = nA) (hrm : Rm M Mc) (hst : asc.reverse ++ .ref w0.length :: st = stk) (has : ∀ a, asc.map (tv a) = asc) (hfm : ∀ a, fs.map (tv a) = fs) (hcat : catS st ≤ 8) (hk : k + (mR Mc).cells ≤ (mR M).cells) (hk2 : n + (mR Mc).slots ≤ (mR M).slots) (hz : ¬ (mR M).cells = 0) (hb : 1 ≤ wc2.length) (hab : w0.length + wc2.length ≤ 999) (hc0 : clW (w0.length + 1) w0 = true) (hc2 : inW wc2.length wc2 = true) (hls : clL (w0.length + 1) ls = true) (hstc : clS (w0.length + 1) st = true) (hw2 : w0 ++ wc2.map (shE w0.length) = w2)
    (h : Ok M S (pc + 3) ls st w2 (k + (mR Mc).cells) (n + (mR Mc).slots) P) : Ok M S pc ls stk (w0 ++ [.inr (ci, fs)]) k n P := by
  subst hst
  intro p l e s m args below meth c D cI A ad0 n0 Q C hr ad H locs LS hR hl
  have hM2 := hM l D cI (fun j => ad (w0.length + j)) H.size
  rw [cs.2.2.2.2.2] at hM2
  refine call_make C hr hR hl hfm hz hb hab hc0 hc2 hls hstc hw2 (va_runI (b := ad w0.length) (As := asc) (n := asc.length) ⟨C.1.1, C.1.2.1, C.1.2.2.1, C.1.2.2.2.1, C.2.1⟩ hM2 ⟨callB_of asc.length C.2.1 (gw_in cs.2.2.1) rfl rfl rfl (C.2.1 _ cs.2.1) (C.2.1 _ hlink) (by rw [hn]; exact cs.2.2.2.1) hrm, cs.2.2.2.2.1, C.2.1 _ cs.1⟩ ?_ rfl rfl hl.1 ?_ ?_ hd ⟨hk, hk2⟩) h
  · have e1 : (Value.ref 0 :: asc).map (tv (fun j => ad (w0.length + j))) = .ref (ad w0.length) :: asc := by
      rw [List.map_cons, has]; rfl
    rw [e1]
    exact ctor_pre C hR hfm
  · show (asc.reverse ++ .ref w0.length :: st).map (tv ad) = _
    rw [List.map_append, List.map_reverse, has]
    rfl
  · exact lv_room (by rw [catS_tv]; exact hcat)
theorem o_ctorN {host : String} (hM : PD Mc (.ref 0 :: asc) [.inr (ci, fs)] none wc2) (hd : decode (mC M) pc = .ok (.invokespecial idx, 3)) (hlink : Cond.methodLinkNest (mY M).cls idx (mY Mc) host ∈ NWl) (cs : CI0 Mc nA) (hn : asc.length = nA) (hrm : Rm M Mc) (hst : asc.reverse ++ .ref w0.length :: st = stk) (has : ∀ a, asc.map (tv a) = asc) (hfm : ∀ a, fs.map (tv a) = fs) (hcat : catS st ≤ 8) (hk : k + (mR Mc).cells ≤ (mR M).cells) (hk2 : n + (mR Mc).slots ≤ (mR M).slots) (hz : ¬ (mR M).cells = 0) (hb : 1 ≤ wc2.length) (hab : w0.length + wc2.length ≤ 999) (hc0 : clW (w0.length + 1) w0 = true) (hc2 : inW wc2.length wc2 = true) (hls : clL (w0.length + 1) ls = true) (hstc : clS (w0.length + 1) st = true) (hw2 : w0 ++ wc2.map (shE w0.length) = w2)
    (h : Ok M S (pc + 3) ls st w2 (k + (mR Mc).cells) (n + (mR Mc).slots) P) : Ok M S pc ls stk (w0 ++ [.inr (ci, fs)]) k n P := by
  subst hst
  intro p l e s m args below meth c D cI A ad0 n0 Q C hr ad H locs LS hR hl
  have hM2 := hM l D cI (fun j => ad (w0.length + j)) H.size
  rw [cs.2.2.2.2.2] at hM2
  refine call_make C hr hR hl hfm hz hb hab hc0 hc2 hls hstc hw2 (va_runIN (b := ad w0.length) (As := asc) (n := asc.length) ⟨C.1.1, C.1.2.1, C.1.2.2.1, C.1.2.2.2.1, C.2.1⟩ hM2 ⟨va_cnB asc.length C.2.1 (gw_in cs.2.2.1) rfl rfl rfl (C.2.2.2.1 _ hlink) (C.2.1 _ cs.2.1) (by rw [hn]; exact cs.2.2.2.1) hrm, cs.2.2.2.2.1, C.2.1 _ cs.1⟩ ?_ rfl rfl hl.1 ?_ ?_ hd ⟨hk, hk2⟩) h
  · have e1 : (Value.ref 0 :: asc).map (tv (fun j => ad (w0.length + j))) = .ref (ad w0.length) :: asc := by
      rw [List.map_cons, has]; rfl
    rw [e1]
    exact ctor_pre C hR hfm
  · show (asc.reverse ++ .ref w0.length :: st).map (tv ad) = _
    rw [List.map_append, List.map_reverse, has]
    rfl
  · exact lv_room (by rw [catS_tv]; exact hcat)
end CTOR
