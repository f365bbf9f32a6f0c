/-! CALLS: a callee's contract speaks of its own small world; 'is' says which cells of the caller's they are -/
def rv (is : List Nat) (v : Value) : Value := tv (fun j => is.getD j 0) v
def re (is : List Nat) : PE → PE
  | .inl x => .inl x
  | .inr o => .inr (o.1, o.2.map (rv is))
def pbk (ren : PE → PE) (w : PW) : List Nat → PW → PW
  | i :: is, e :: es => pbk ren (w.set i (ren e)) is es
  | _, _ => w
def pb (w : PW) (is : List Nat) (wc : PW) : PW := pbk (re is) w is wc
theorem pbk_len (ren : PE → PE) : ∀ (is : List Nat) (es w : PW), (pbk ren w is es).length = w.length
  | [], es, w => by cases es <;> rfl
  | i :: is, [], w => rfl
  | i :: is, e :: es, w => by rw [pbk, pbk_len, List.length_set]
theorem pbk_out (ren : PE → PE) : ∀ (is : List Nat) (es w : PW) (i : Nat), (∀ j, j < es.length → is[j]? ≠ some i) → (pbk ren w is es)[i]? = w[i]?
  | [], es, w, i, h => by cases es <;> rfl
  | i0 :: is, [], w, i, h => rfl
  | i0 :: is, e :: es, w, i, h => by
    rw [pbk, pbk_out ren is es _ i (fun j hj => by have := h (j + 1) (by simp; omega); simpa using this), List.getElem?_set, if_neg]
    have := h 0 (by simp)
    simpa using this
theorem pbk_in (ren : PE → PE) : ∀ (is : List Nat) (es w : PW) (i j : Nat) (e : PE), va_nd (is.take es.length) = true → is[j]? = some i → es[j]? = some e → i < w.length → (pbk ren w is es)[i]? = some (ren e)
  | [], es, w, i, j, e, _, h, _, _ => by simp at h
  | i0 :: is, [], w, i, j, e, _, _, h, _ => by simp at h
  | i0 :: is, e0 :: es, w, i, j, e, hn, hi, he, hl => by
    rw [pbk]
    cases j with
    | zero =>
      have e1 : i0 = i := by simpa using hi
      have e2 : e0 = e := by simpa using he
      subst e1; subst e2
      rw [pbk_out ren is es _ i0 (fun j hj hj2 => ?_), List.getElem?_set, if_pos rfl, if_pos hl]
      have a1 : ((i0 :: is).take (e0 :: es).length)[0]? = some i0 := by simp
      have a2 : ((i0 :: is).take (e0 :: es).length)[j + 1]? = some i0 := by
        rw [List.getElem?_take, if_pos (by simp; omega)]
        simpa using hj2
      have := va_nd_inj _ hn 0 (j + 1) i0 a1 a2
      omega
    | succ j =>
      refine pbk_in ren is es _ i j e ?_ (by simpa using hi) (by simpa using he) (by rw [List.length_set]; exact hl)
      have h2 : (i0 :: is).take (e0 :: es).length = i0 :: is.take es.length := by simp
      rw [h2, va_nd] at hn
      simp only [Bool.and_eq_true] at hn
      exact hn.2
theorem tv_rv (ad : Nat → Nat) (is : List Nat) (v : Value) : tv (fun j => ad (is.getD j 0)) v = tv ad (rv is v) := by cases v <;> rfl
theorem te_re (cI : ClassId) (ad : Nat → Nat) (is : List Nat) (e : PE) : te cI (fun j => ad (is.getD j 0)) e = te cI ad (re is e) := by
  cases e with
  | inl x => rfl
  | inr o =>
    show (Sum.inr (o.1, o.2.map (tv fun j => ad (is.getD j 0))) : va_E) = Sum.inr (o.1, (o.2.map (rv is)).map (tv ad))
    rw [List.map_map]
    congr 2
    exact List.map_congr_left (fun v _ => tv_rv ad is v)
/-- the callee's cells lie in the caller's world -/
def Emb (is : List Nat) (wc w : PW) : Prop := (is.take wc.length).map (fun i => w[i]?) = wc.map (fun e => some (re is e))
theorem Emb.at {is : List Nat} {wc w : PW} (h : Emb is wc w) {j : Nat} {e : PE} (he : wc[j]? = some e) : ∃ i, is[j]? = some i ∧ is.getD j 0 = i ∧ w[i]? = some (re is e) := by
  have hl : j < wc.length := (List.getElem?_eq_some_iff.mp he).1
  have h1 : ((is.take wc.length).map (fun i => w[i]?))[j]? = some (some (re is e)) := by rw [h, List.getElem?_map, he]; rfl
  rw [List.getElem?_map, List.getElem?_take, if_pos hl] at h1
  cases hi : is[j]? with
  | none => rw [hi] at h1; cases h1
  | some i =>
    rw [hi] at h1
    exact ⟨i, rfl, by simp [List.getD, hi], Option.some.inj h1⟩
section BACK
variable {M Mc : MI} {S : Scr} {pc : Nat} {ls : List (Option Value)} {st : List Value} {w wc : PW} {k n : Nat} {P Pc : Option Value → PW → Prop} {is : List Nat}
variable {p : Program} {l : Launch} {e : Env} {s : State} {m : MethodId} {args : Array Value} {below : List Frame} {meth : Method} {c : Code} {D : va_G} {cI : ClassId} {A : Nat → Prop} {ad0 ad : Nat → Nat} {n0 : Nat} {Q : State → Prop} {H : Heap} {locs : List Loc} {LS : Array Slot}
theorem sub_P (hR : Rel D cI (mR M) A s.heap ad0 n0 ad w H locs) (hE : Emb is wc w) : va_P D vwCl (tw cI (fun j => ad (is.getD j 0)) wc) H := by
  intro j q hq
  obtain ⟨x, hx, rfl⟩ := tw_of hq
  obtain ⟨i, h1, h2, h3⟩ := hE.at hx
  have := hR.1 i _ (tw_at h3)
  rw [te_re]
  simp only [h2]
  exact this
theorem sub_D (hR : Rel D cI (mR M) A s.heap ad0 n0 ad w H locs) (hE : Emb is wc w) (hnd : va_nd (is.take wc.length) = true) : va_D (fun _ => True) (tw cI (fun j => ad (is.getD j 0)) wc) := by
  refine ⟨fun a b x y ha hb hxy => ?_, fun _ _ _ => trivial⟩
  obtain ⟨x', hx, rfl⟩ := tw_of ha
  obtain ⟨y', hy, rfl⟩ := tw_of hb
  obtain ⟨i, h1, h2, h3⟩ := hE.at hx
  obtain ⟨i', g1, g2, g3⟩ := hE.at hy
  simp only [h2, g2] at hxy
  have e1 := hR.2.1.1 i i' _ _ (tw_at h3) (tw_at g3) hxy
  subst e1
  have la : a < wc.length := (List.getElem?_eq_some_iff.mp hx).1
  have lb : b < wc.length := (List.getElem?_eq_some_iff.mp hy).1
  exact va_nd_inj _ hnd a b i (by rw [List.getElem?_take, if_pos la]; exact h1) (by rw [List.getElem?_take, if_pos lb]; exact g1)
theorem sub_A (C : Ctx M S p s m args meth c D cI A ad0) (hR : Rel D cI (mR M) A s.heap ad0 n0 ad w H locs) (hE : Emb is wc w) : ∀ q, va_A (tw cI (fun j => ad (is.getD j 0)) wc) H.size q → A q := by
  intro q hq
  rcases hq with ⟨j, x, hx⟩ | hq
  · obtain ⟨y, hy, e1⟩ := tw_of hx
    obtain ⟨i, h1, h2, h3⟩ := hE.at hy
    have h4 := hR.2.1.2 i _ (tw_at h3)
    simp only [h2, Prod.mk.injEq] at e1
    rw [e1.1]; exact h4
  · exact C.2.2.2.2.1 q (Nat.le_trans hR.2.2.1.1 hq)
theorem rel_pb {H1 : Heap} {locs1 : List Loc} {wc2 : PW} (hR : Rel D cI (mR M) A s.heap ad0 n0 ad w H locs) (hE : Emb is wc w) (hnd : va_nd (is.take wc.length) = true) (hlen : wc2.length = wc.length)
    (hP : va_P D vwCl (tw cI (fun j => ad (is.getD j 0)) wc2) H1) (hk : ∀ q : Nat, q < H.size → ¬ va_A (tw cI (fun j => ad (is.getD j 0)) wc) H.size q → H1[q]? = H[q]?) (hS : va_S A s.heap H1 locs1) : Rel D cI (mR M) A s.heap ad0 n0 ad (pb w is wc2) H1 locs1 := by
  have hL : (pb w is wc2).length = w.length := pbk_len _ _ _ _
  refine ⟨fun i q hq => ?_, ⟨fun i j x y hi hj hxy => ?_, fun i q hq => ?_⟩, hS, fun z => ⟨(hR.2.2.2.1 z).1, hL.trans (hR.2.2.2.1 z).2⟩, by rw [hL]; exact hR.2.2.2.2.1, hR.2.2.2.2.2⟩
  · obtain ⟨x, hx, rfl⟩ := tw_of hq
    have hi : i < w.length := by rw [← hL]; exact (List.getElem?_eq_some_iff.mp hx).1
    by_cases hin : ∃ j, j < wc2.length ∧ is[j]? = some i
    · obtain ⟨j, hj, hji⟩ := hin
      have he : wc2[j]? = some wc2[j] := List.getElem?_eq_getElem hj
      have h1 := pbk_in (re is) is wc2 w i j wc2[j] (by rw [hlen]; exact hnd) hji he hi
      have h2 : (pb w is wc2)[i]? = some (re is wc2[j]) := h1
      rw [h2] at hx
      cases hx
      have h3 := hP j _ (tw_at he)
      rw [te_re] at h3
      have h4 : is.getD j 0 = i := by simp [List.getD, hji]
      simp only [h4] at h3
      exact h3
    · have h1 : (pb w is wc2)[i]? = w[i]? := pbk_out (re is) is wc2 w i (fun j hj hji => hin ⟨j, hj, hji⟩)
      rw [h1] at hx
      have h2 := hR.1 i _ (tw_at hx)
      refine h2.kept (hk _ h2.lt (fun hA => ?_))
      rcases hA with ⟨j, y, hy⟩ | hA
      · obtain ⟨z, hz, e1⟩ := tw_of hy
        obtain ⟨i', g1, g2, g3⟩ := hE.at hz
        simp only [g2, Prod.mk.injEq] at e1
        have := hR.2.1.1 i i' _ _ (tw_at hx) (tw_at g3) e1.1
        subst this
        exact hin ⟨j, by rw [hlen]; exact (List.getElem?_eq_some_iff.mp hz).1, g1⟩
      · exact absurd h2.lt (Nat.not_lt.mpr hA)
  · obtain ⟨x', hx, rfl⟩ := tw_of hi
    obtain ⟨y', hy, rfl⟩ := tw_of hj
    have hl1 : i < w.length := by rw [← hL]; exact (List.getElem?_eq_some_iff.mp hx).1
    have hl2 : j < w.length := by rw [← hL]; exact (List.getElem?_eq_some_iff.mp hy).1
    exact hR.2.1.1 i j _ _ (tw_at (List.getElem?_eq_getElem hl1)) (tw_at (List.getElem?_eq_getElem hl2)) hxy
  · obtain ⟨y, hy, rfl⟩ := tw_of hq
    have hlt : i < w.length := by rw [← hL]; exact (List.getElem?_eq_some_iff.mp hy).1
    have := hR.2.1.2 i (ad i, te cI ad w[i]) (tw_at (List.getElem?_eq_getElem hlt))
    exact this
theorem call_back {a : Array Value} {st0 : List Value} (hz : (mR Mc).cells = 0) (hz2 : (mR Mc).slots = 0) (C : Ctx M S p s m args meth c D cI A ad0) (hr : RetQ M p l e s m args below meth c D cI A ad0 n0 Q P) (hR : Rel D cI (mR M) A s.heap ad0 n0 ad w H locs) (hl : lr ad (mL M) ls LS) (hE : Emb is wc w) (hnd : va_nd (is.take wc.length) = true)
    (hrun : va_Run p l e (mR M) s m args below meth c H locs k n (mR Mc).cells (mR Mc).slots (F0 m pc LS st0) (st.map (tv ad)) (PQ Mc D cI (fun j => ad (is.getD j 0)) wc H.size Pc a) (va_A (tw cI (fun j => ad (is.getD j 0)) wc) H.size))
    (h : ∀ r wc2, Pc r wc2 → wc2.length = wc.length → Ok M S (pc + 3) ls (r.toList ++ st) (pb w is wc2) k n P) : W p l e (mR M) s m args below meth c H locs k n Q (F0 m pc LS st0) := by
  intro T hT X
  obtain ⟨v, st₀, t, T', L, h0, X', hL, e1, e2, hq, go⟩ := hrun T hT X
  obtain ⟨⟨r, wc2, ad2, hoc, hpost, hcl, hz', -, -, hP', hD'⟩, hF1, hF2⟩ := hq
  have ev : v = r := by cases hoc; rfl
  subst ev
  obtain ⟨rfl, hlen⟩ := hz' hz
  rw [h0] at hF1 hF2
  have hS : va_S A s.heap T'.heap (locs ++ L) := by
    refine ⟨Nat.le_trans hR.2.2.1.1 (by rw [e1]; exact hF1), fun q h1 h2 => ?_, fun q hq => ?_⟩
    · rw [e1, hF2 q (Nat.lt_of_lt_of_le h1 hR.2.2.1.1) (fun z => h2 (sub_A C hR hE q z))]
      exact hR.2.2.1.2.1 q h1 h2
    · rcases List.mem_append.mp hq with h | h
      · exact hR.2.2.1.2.2 q h
      · exact sub_A C hR hE _ (hL q h)
  have K := h v wc2 hpost hlen p l e s m args below meth c D cI A ad0 n0 Q C hr ad T'.heap (locs ++ L) LS (rel_pb hR hE hnd hlen (by rw [e1]; exact hP') (fun q h1 h2 => by rw [e1]; exact hF2 q h1 h2) hS) hl
  have e3 : (v.toList ++ st).map (tv ad) = v.toList ++ st.map (tv ad) := by
    rw [List.map_append]
    cases v with
    | none => rfl
    | some v => simp [hcl v rfl]
  rw [e3] at K
  rw [hz, hz2] at X'
  obtain ⟨t2, a1, b1⟩ := K T' rfl X'
  exact ⟨t2, go t2 a1, b1⟩
end BACK
theorem gw_good : ∀ w ∈ GW, goodWord w = true := fun w h => (List.mem_filter.mp h).2
theorem gw_in {y : MethodName} {cc : ByteArray} {nL : Nat} {rt : Option FieldType} (h : Cond.code y cc nL rt ∈ GW) : GoodIn GW (Cond.code y cc nL rt :: GW) := fun w hw => by
  rcases List.mem_cons.mp hw with rfl | hw
  · exact ⟨h, good_of_word (gw_good _ h)⟩
  · exact ⟨hw, good_of_word (gw_good _ hw)⟩
theorem nest_of : ∀ w, isNest w = true → ∃ a i x h, w = Cond.methodLinkNest a i x h := fun w h => by
  cases w <;> first | exact ⟨_, _, _, _, rfl⟩ | (simp [isNest] at h; done)
theorem NWok.warm {s U : State} (hW : s.WarmedH U.vm) (h : NWok s) : NWok U := fun w hw => by
  obtain ⟨a, i, x, g, rfl⟩ := nest_of w (List.mem_filter.mp hw).2
  exact va_Nw.warmM hW (h _ hw)
theorem ppc_blind {D : va_G} {cI : ClassId} {ad : Nat → Nat} {w : PW} {sz : Nat} {av : List Value} : FrameBlind (va_Pc av (PPc D cI ad w sz)) := fun a U g mk q => by
  obtain ⟨q0, q1, qP, qK, qD, qN⟩ := q
  refine ⟨q0, q1, qP, va_K.moved (u := U) (U := U.calling g mk a) (Vm.Alike.refl U.vm) qK, qD, fun w hw => ?_⟩
  obtain ⟨b, i, x, h, rfl⟩ := nest_of w (List.mem_filter.mp hw).2
  exact va_Nw.same rfl (rfl : U.vm = (U.calling g mk a).vm) (qN _ hw)
/-- what the tables say of a method that is called: of an object's, of a static one -/
def CV (M : MI) (nA : Nat) : Prop := Cond.instanceMethod (mY M) ∈ GW ∧ Cond.selects (mY M).cls (mY M) (mY M) ∈ GW ∧ Cond.initialized (mY M).cls ∈ GW ∧ Cond.code (mY M) (mC M) (mL M) (mT M) ∈ GW ∧ ((mY M).cls ≠ "java/lang/invoke/MethodHandle" ∧ (mY M).cls ≠ "java/lang/invoke/VarHandle" ∧ (parseMethodDescriptor (mY M).desc).map (fun d => d.parameters.length) = some nA)
def CS (M : MI) (nA : Nat) : Prop := Cond.static (mY M) ∈ GW ∧ Cond.initialized (mY M).cls ∈ GW ∧ Cond.code (mY M) (mC M) (mL M) (mT M) ∈ GW ∧ ((mY M).cls ≠ "java/lang/invoke/MethodHandle" ∧ (mY M).cls ≠ "java/lang/invoke/VarHandle" ∧ (parseMethodDescriptor (mY M).desc).map (fun d => d.parameters.length) = some nA)
def Rm (M Mc : MI) : Prop := (mR Mc).frames + 1 ≤ (mR M).frames ∧ 8 + (mL Mc + 11) + (mR Mc).locals ≤ (mR M).locals
section CALL
variable {M Mc : MI} {S : Scr} {pc : Nat} {ls : List (Option Value)} {st stk : List Value} {w wc : PW} {k n : Nat} {P Pc : Option Value → PW → Prop} {is : List Nat} {asc : List Value} {idx nA : Nat}
theorem map_rv (ad : Nat → Nat) (is : List Nat) (as : List Value) : as.map (tv (fun j => ad (is.getD j 0))) = (as.map (rv is)).map (tv ad) := by
  rw [List.map_map]
  exact List.map_congr_left (fun v _ => tv_rv ad is v)
theorem o_callS (hM : PM Mc asc wc Pc) (hz : (mR Mc).cells = 0 ∧ (mR Mc).slots = 0) (hd : decode (mC M) pc = .ok (.invokestatic idx, 3)) (hlink : Cond.methodLink (mY M).cls idx (mY Mc) ∈ GW) (cs : CS Mc nA) (hn : asc.length = nA) (hrm : Rm M Mc) (hE : Emb is wc w) (hnd : va_nd (is.take wc.length) = true) (hst : (asc.map (rv is)).reverse ++ st = stk) (hcat : catS st ≤ 8) (hk : k ≤ (mR M).cells) (hk2 : n ≤ (mR M).slots)
    (h : ∀ r wc2, Pc r wc2 → wc2.length = wc.length → Ok M S (pc + 3) ls (r.toList ++ st) (pb w is wc2) k n P) : Ok M S pc ls stk w k n P := by
  subst hst
  intro p l e s m args below meth c D cI A ad0 n0 Q C hr ad H locs LS hR hl
  refine call_back hz.1 hz.2 C hr hR hl hE hnd (va_runS (As := asc.map (tv (fun j => ad (is.getD j 0)))) (n := asc.length) ⟨C.1.1, C.1.2.1, C.1.2.2.1, C.1.2.2.2.1, C.2.1⟩ (hM l D cI (fun j => ad (is.getD j 0)) H.size) ⟨callB_of asc.length C.2.1 (gw_in cs.2.2.1) rfl rfl rfl (C.2.1 _ cs.2.1) (C.2.1 _ hlink) (by rw [hn]; exact cs.2.2.2) hrm, C.2.1 _ cs.1⟩ ⟨ppc_blind, fun U hU hW => ⟨rfl, by rw [hU], by rw [hU]; exact sub_P hR hE, va_K.moved hW.alike C.2.2.1, sub_D hR hE hnd, NWok.warm hW C.2.2.2.1⟩⟩ rfl (by rw [List.length_map]) hl.1 ?_ ?_ hd ⟨by rw [hz.1]; exact hk, by rw [hz.2]; exact hk2⟩) h
  · show ((asc.map (rv is)).reverse ++ st).map (tv ad) = _
    rw [List.map_append, List.map_reverse, map_rv]
  · exact lv_room (by rw [catS_tv]; exact hcat)
theorem o_callSN {host : String} (hM : PM Mc asc wc Pc) (hz : (mR Mc).cells = 0 ∧ (mR Mc).slots = 0) (hd : decode (mC M) pc = .ok (.invokestatic idx, 3)) (hlink : Cond.methodLinkNest (mY M).cls idx (mY Mc) host ∈ NWl) (cs : CS Mc nA) (hn : asc.length = nA) (hrm : Rm M Mc) (hE : Emb is wc w) (hnd : va_nd (is.take wc.length) = true) (hst : (asc.map (rv is)).reverse ++ st = stk) (hcat : catS st ≤ 8) (hk : k ≤ (mR M).cells) (hk2 : n ≤ (mR M).slots)
    (h : ∀ r wc2, Pc r wc2 → wc2.length = wc.length → Ok M S (pc + 3) ls (r.toList ++ st) (pb w is wc2) k n P) : Ok M S pc ls stk w k n P := by
  subst hst
  intro p l e s m args below meth c D cI A ad0 n0 Q C hr ad H locs LS hR hl
  refine call_back hz.1 hz.2 C hr hR hl hE hnd (va_runSN (As := asc.map (tv (fun j => ad (is.getD j 0)))) (n := asc.length) ⟨C.1.1, C.1.2.1, C.1.2.2.1, C.1.2.2.2.1, C.2.1⟩ (hM l D cI (fun j => ad (is.getD j 0)) H.size) ⟨va_cnB asc.length C.2.1 (gw_in cs.2.2.1) rfl rfl rfl (C.2.2.2.1 _ hlink) (C.2.1 _ cs.2.1) (by rw [hn]; exact cs.2.2.2) hrm, C.2.1 _ cs.1, trivial⟩ ⟨ppc_blind, fun U hU hW => ⟨rfl, by rw [hU], by rw [hU]; exact sub_P hR hE, va_K.moved hW.alike C.2.2.1, sub_D hR hE hnd, NWok.warm hW C.2.2.2.1⟩⟩ rfl (by rw [List.length_map]) hl.1 ?_ ?_ hd ⟨by rw [hz.1]; exact hk, by rw [hz.2]; exact hk2⟩) h
  · show ((asc.map (rv is)).reverse ++ st).map (tv ad) = _
    rw [List.map_append, List.map_reverse, map_rv]
  · exact lv_room (by rw [catS_tv]; exact hcat)
theorem o_callV {ci N j0 : Nat} {T : u_T} {fs : List Value} (hM : PM Mc (.ref j0 :: asc) wc Pc) (hz : (mR Mc).cells = 0 ∧ (mR Mc).slots = 0) (hd : decode (mC M) pc = .ok (.invokevirtual idx, 3)) (hlink : Cond.methodLink (mY M).cls idx (mY Mc) ∈ GW) (cs : CV Mc nA) (hn : asc.length = nA) (hrm : Rm M Mc) (hc : vwCl[ci]? = some ((mY Mc).cls, T, N)) (hw : wc[j0]? = some (.inr (ci, fs))) (hE : Emb is wc w) (hnd : va_nd (is.take wc.length) = true) (hst : (asc.map (rv is)).reverse ++ rv is (.ref j0) :: st = stk) (hcat : catS st ≤ 8) (hk : k ≤ (mR M).cells) (hk2 : n ≤ (mR M).slots)
    (h : ∀ r wc2, Pc r wc2 → wc2.length = wc.length → Ok M S (pc + 3) ls (r.toList ++ st) (pb w is wc2) k n P) : Ok M S pc ls stk w k n P := by
  subst hst
  intro p l e s m args below meth c D cI A ad0 n0 Q C hr ad H locs LS hR hl
  refine call_back hz.1 hz.2 C hr hR hl hE hnd (va_runV (b := ad (is.getD j0 0)) (C := (mY Mc).cls) (As := asc.map (tv (fun j => ad (is.getD j 0)))) (n := asc.length) ⟨C.1.1, C.1.2.1, C.1.2.2.1, C.1.2.2.2.1, C.2.1⟩ (hM l D cI (fun j => ad (is.getD j 0)) H.size) ⟨callB_of asc.length C.2.1 (gw_in cs.2.2.2.1) rfl rfl rfl (C.2.1 _ cs.2.2.1) (C.2.1 _ hlink) (by rw [hn]; exact cs.2.2.2.2) hrm, C.2.1 _ cs.1, C.2.1 _ cs.2.1⟩ ⟨ppc_blind, va_recv C.2.2.1 (sub_P hR hE) hc (q0 := j0) (tw_at hw), fun U hU hW => ⟨rfl, by rw [hU], by rw [hU]; exact sub_P hR hE, va_K.moved hW.alike C.2.2.1, sub_D hR hE hnd, NWok.warm hW C.2.2.2.1⟩⟩ rfl (by rw [List.length_map]) hl.1 ?_ ?_ hd ⟨by rw [hz.1]; exact hk, by rw [hz.2]; exact hk2⟩) h
  · show ((asc.map (rv is)).reverse ++ rv is (.ref j0) :: st).map (tv ad) = _
    rw [List.map_append, List.map_reverse, map_rv]
    rfl
  · exact lv_room (by rw [catS_tv]; exact hcat)
end CALL
/-- a contract that says just what comes back -/
def PD (M : MI) (as : List Value) (w : PW) (r : Option Value) (w2 : PW) : Prop := PM M as w (fun r' w' => r' = r ∧ w' = w2)
section CALLD
variable {M Mc : MI} {S : Scr} {pc : Nat} {ls : List (Option Value)} {st stk : List Value} {w wc wc2 w2 : PW} {r : Option Value} {k n : Nat} {P : Option Value → PW → Prop} {is : List Nat} {asc : List Value} {idx nA : Nat}
theorem o_callSd (hM : PD Mc asc wc r wc2) (hz : (mR Mc).cells = 0 ∧ (mR Mc).slots = 0) (hd : decode (mC M) pc = .ok (.invokestatic idx, 3)) (hlink : Cond.methodLink (mY M).cls idx (mY Mc) ∈ GW) (cs : CS Mc nA) (hn : asc.length = nA) (hrm : Rm M Mc) (hE : Emb is wc w) (hnd : va_nd (is.take wc.length) = true) (hst : (asc.map (rv is)).reverse ++ st = stk) (hcat : catS st ≤ 8) (hk : k ≤ (mR M).cells) (hk2 : n ≤ (mR M).slots) (hw2 : pb w is wc2 = w2)
    (h : Ok M S (pc + 3) ls (r.toList ++ st) w2 k n P) : Ok M S pc ls stk w k n P :=
  o_callS hM hz hd hlink cs hn hrm hE hnd hst hcat hk hk2 (fun _ _ q _ => by obtain ⟨rfl, rfl⟩ := q; rw [hw2]; exact h)
theorem o_callSNd {host : String} (hM : PD Mc asc wc r wc2) (hz : (mR Mc).cells = 0 ∧ (mR Mc).slots = 0) (hd : decode (mC M) pc = .ok (.invokestatic idx, 3)) (hlink : Cond.methodLinkNest (mY M).cls idx (mY Mc) host ∈ NWl) (cs : CS Mc nA) (hn : asc.length = nA) (hrm : Rm M Mc) (hE : Emb is wc w) (hnd : va_nd (is.take wc.length) = true) (hst : (asc.map (rv is)).reverse ++ st = stk) (hcat : catS st ≤ 8) (hk : k ≤ (mR M).cells) (hk2 : n ≤ (mR M).slots) (hw2 : pb w is wc2 = w2)
    (h : Ok M S (pc + 3) ls (r.toList ++ st) w2 k n P) : Ok M S pc ls stk w k n P :=
  o_callSN hM hz hd hlink cs hn hrm hE hnd hst hcat hk hk2 (fun _ _ q _ => by obtain ⟨rfl, rfl⟩ := q; rw [hw2]; exact h)
theorem o_callVd {ci N j0 : Nat} {T : u_T} {fs : List Value} (hM : PD Mc (.ref j0 :: asc) wc r wc2) (hz : (mR Mc).cells = 0 ∧ (mR Mc).slots = 0) (hd : decode (mC M) pc = .ok (.invokevirtual idx, 3)) (hlink : Cond.methodLink (mY M).cls idx (mY Mc) ∈ GW) (cs : CV Mc nA) (hn : asc.length = nA) (hrm : Rm M Mc) (hc : vwCl[ci]? = some ((mY Mc).cls, T, N)) (hw : wc[j0]? = some (.inr (ci, fs))) (hE : Emb is wc w) (hnd : va_nd (is.take wc.length) = true) (hst : (asc.map (rv is)).reverse ++ rv is (.ref j0) :: st = stk) (hcat : catS st ≤ 8) (hk : k ≤ (mR M).cells) (hk2 : n ≤ (mR M).slots) (hw2 : pb w is wc2 = w2)
    (h : Ok M S (pc + 3) ls (r.toList ++ st) w2 k n P) : Ok M S pc ls stk w k n P :=
  o_callV hM hz hd hlink cs hn hrm hc hw hE hnd hst hcat hk hk2 (fun _ _ q _ => by obtain ⟨rfl, rfl⟩ := q; rw [hw2]; exact h)
end CALLD
