/-! A SMALL MACHINE over a pure world: cells are a list, a reference is a place in it ('ad' says at which address it lies). Ok: from here the method comes to its end with Post. PM: a method's contract. -/
abbrev PE : Type := (Nat × (Nat → Int32)) ⊕ (Nat × List Value)
abbrev PW : Type := List PE
def tv (ad : Nat → Nat) : Value → Value
  | .ref i => .ref (ad i)
  | v => v
def te (cI : ClassId) (ad : Nat → Nat) : PE → va_E
  | .inl x => .inl (cI, x.1, .inl x.2)
  | .inr o => .inr (o.1, o.2.map (tv ad))
def tw (cI : ClassId) (ad : Nat → Nat) (w : PW) : va_W := w.mapIdx (fun i e => (ad i, te cI ad e))
theorem tv_cat (ad : Nat → Nat) (v : Value) : (tv ad v).category = v.category := by cases v <;> rfl
theorem tw_get (cI : ClassId) (ad : Nat → Nat) (w : PW) (k : Nat) : (tw cI ad w)[k]? = (w[k]?).map (fun e => (ad k, te cI ad e)) := by simp [tw]
theorem tw_at {cI : ClassId} {ad : Nat → Nat} {w : PW} {k : Nat} {e : PE} (h : w[k]? = some e) : (tw cI ad w)[k]? = some (ad k, te cI ad e) := by rw [tw_get, h]; rfl
theorem tw_of {cI : ClassId} {ad : Nat → Nat} {w : PW} {k : Nat} {q : Nat × va_E} (h : (tw cI ad w)[k]? = some q) : ∃ e, w[k]? = some e ∧ q = (ad k, te cI ad e) := by
  rw [tw_get] at h
  cases hw : w[k]? with
  | none => rw [hw] at h; cases h
  | some e => rw [hw] at h; exact ⟨e, rfl, (Option.some.inj h).symm⟩
theorem tw_set (cI : ClassId) (ad : Nat → Nat) (w : PW) (k : Nat) (e : PE) : tw cI ad (w.set k e) = (tw cI ad w).set k (ad k, te cI ad e) := by
  apply List.ext_getElem?
  intro i
  rw [tw_get, List.getElem?_set, List.getElem?_set, tw_get]
  by_cases h : k = i
  · subst h
    by_cases h2 : k < w.length
    · simp [h2, tw]
    · simp [h2, tw]
  · simp [h]
theorem tw_len (cI : ClassId) (ad : Nat → Nat) (w : PW) : (tw cI ad w).length = w.length := by simp [tw]
-- locals
def lcl (ls : List (Option Value)) : Nat → List (Option Value)
  | 0 => ls
  | j + 1 => match ls[j]? with
    | some (some v) => if v.category = 2 then ls.set j none else ls
    | _ => ls
def st1 (ls : List (Option Value)) (i : Nat) (v : Value) : List (Option Value) := (lcl ls i).set i (some v)
def st2 (ls : List (Option Value)) (i : Nat) (v : Value) : List (Option Value) := ((lcl ls i).set i (some v)).set (i + 1) none
def fl (ad : Nat → Nat) (ls : List (Option Value)) : List (Nat × Value) := (List.range ls.length).filterMap (fun i => (ls[i]?).bind (fun o => o.map (fun v => (i, tv ad v))))
theorem fl_mem {ad : Nat → Nat} {ls : List (Option Value)} {i : Nat} {v : Value} (h : ls[i]? = some (some v)) : (i, tv ad v) ∈ fl ad ls := by
  refine List.mem_filterMap.mpr ⟨i, List.mem_range.mpr (List.getElem?_eq_some_iff.mp h).1, ?_⟩
  rw [h]; rfl
theorem fl_of {ad : Nat → Nat} {ls : List (Option Value)} {q : Nat × Value} (h : q ∈ fl ad ls) : ∃ v, ls[q.1]? = some (some v) ∧ q.2 = tv ad v := by
  obtain ⟨i, -, hi⟩ := List.mem_filterMap.mp h
  cases ho : ls[i]? with
  | none => rw [ho] at hi; cases hi
  | some o =>
    rw [ho] at hi
    cases o with
    | none => cases hi
    | some v =>
      have e : (i, tv ad v) = q := Option.some.inj hi
      subst e
      exact ⟨v, ho, rfl⟩
def lr (ad : Nat → Nat) (nL : Nat) (ls : List (Option Value)) (LS : Array Slot) : Prop := LS.size = nL ∧ lv_wf LS ∧ ∀ (i : Nat) (v : Value), ls[i]? = some (some v) → LS[i]? = some (.val (tv ad v))
theorem lr_has {ad : Nat → Nat} {nL : Nat} {ls : List (Option Value)} {LS : Array Slot} (h : lr ad nL ls LS) : lv_has LS nL (fl ad ls) := ⟨h.1, h.2.1, fun q hq => by
  obtain ⟨v, h1, h2⟩ := fl_of hq
  rw [h2]; exact h.2.2 _ _ h1⟩
theorem lcl_get {ls : List (Option Value)} {i j : Nat} {v : Value} (h : (lcl ls i)[j]? = some (some v)) : ls[j]? = some (some v) ∧ ¬ (j + 1 = i ∧ v.category = 2) := by
  cases i with
  | zero => exact ⟨h, fun e => by omega⟩
  | succ k =>
    simp only [lcl] at h
    by_cases hj : j = k
    · subst hj
      cases ho : ls[j]? with
      | none => simp [ho] at h
      | some o =>
        cases o with
        | none => simp [ho] at h
        | some u =>
          simp only [ho] at h
          by_cases hc : u.category = 2
          · rw [if_pos hc, List.getElem?_set] at h
            by_cases hl : j < ls.length
            · simp [hl] at h
            · simp [hl] at h
          · rw [if_neg hc, ho] at h
            have e : u = v := by simpa using h
            subst e
            exact ⟨rfl, fun e => hc e.2⟩
    · refine ⟨?_, fun e => hj (by omega)⟩
      have key : ∀ l : List (Option Value), (l.set k none)[j]? = l[j]? := fun l => by rw [List.getElem?_set, if_neg (fun e => hj e.symm)]
      split at h
      · split at h
        · rw [key] at h; exact h
        · exact h
      · exact h
theorem lr_st1 {ad : Nat → Nat} {nL i : Nat} {ls : List (Option Value)} {LS' : Array Slot} {x : Value}
    (h : lv_has LS' nL ((i, tv ad x) :: (fl ad ls).filter (fun q => !(q.1 == i) && !(q.1 + 1 == i && q.2.category == 2)))) : lr ad nL (st1 ls i x) LS' := by
  refine ⟨h.1, h.2.1, fun j v hj => ?_⟩
  unfold st1 at hj
  rw [List.getElem?_set] at hj
  by_cases hij : i = j
  · subst hij
    simp only [if_true] at hj
    split at hj
    · have e : x = v := by simpa using hj
      subst e
      exact h.2.2 (i, tv ad x) List.mem_cons_self
    · cases hj
  · rw [if_neg hij] at hj
    obtain ⟨h1, h2⟩ := lcl_get hj
    refine h.2.2 (j, tv ad v) (List.mem_cons_of_mem _ (List.mem_filter.mpr ⟨fl_mem h1, ?_⟩))
    have hji : ¬ j = i := fun e => hij e.symm
    by_cases hk : j + 1 = i
    · have hc : ¬ v.category = 2 := fun e => h2 ⟨hk, e⟩
      simp [hji, tv_cat, hc]
    · simp [hji, hk]
theorem lr_st2 {ad : Nat → Nat} {nL i : Nat} {ls : List (Option Value)} {LS' : Array Slot} {x : Value}
    (h : lv_has LS' nL ((i, tv ad x) :: (fl ad ls).filter (fun q => !(q.1 == i) && (!(q.1 == i + 1) && !(q.1 + 1 == i && q.2.category == 2))))) : lr ad nL (st2 ls i x) LS' := by
  refine ⟨h.1, h.2.1, fun j v hj => ?_⟩
  unfold st2 at hj
  rw [List.getElem?_set] at hj
  by_cases hi1 : i + 1 = j
  · rw [if_pos hi1] at hj
    split at hj
    · simp at hj
    · cases hj
  · rw [if_neg hi1, List.getElem?_set] at hj
    by_cases hij : i = j
    · subst hij
      simp only [if_true] at hj
      split at hj
      · have e : x = v := by simpa using hj
        subst e
        exact h.2.2 (i, tv ad x) List.mem_cons_self
      · cases hj
    · rw [if_neg hij] at hj
      obtain ⟨h1, h2⟩ := lcl_get hj
      refine h.2.2 (j, tv ad v) (List.mem_cons_of_mem _ (List.mem_filter.mpr ⟨fl_mem h1, ?_⟩))
      have hji : ¬ j = i := fun e => hij e.symm
      have hji1 : ¬ j = i + 1 := fun e => hi1 e.symm
      by_cases hk : j + 1 = i
      · have hc : ¬ v.category = 2 := fun e => h2 ⟨hk, e⟩
        simp [hji, hji1, tv_cat, hc]
      · simp [hji, hji1, hk]
-- a method: its name, its code, its locals, what it answers, its room
abbrev MI : Type := MethodName × ByteArray × Nat × Option FieldType × Room
abbrev mY (M : MI) : MethodName := M.1
abbrev mC (M : MI) : ByteArray := M.2.1
abbrev mL (M : MI) : Nat := M.2.2.1
abbrev mT (M : MI) : Option FieldType := M.2.2.2.1
abbrev mR (M : MI) : Room := M.2.2.2.2
def NWok (U : State) : Prop := ∀ w ∈ NWl, va_Nw w U
abbrev Scr : Type := Option (Nat × (Nat → Int32))
def Ctx (M : MI) (S : Scr) (p : Program) (s : State) (m : MethodId) (args : Array Value) (meth : Method) (c : Code) (D : va_G) (cI : ClassId) (A : Nat → Prop) (ad0 : Nat → Nat) : Prop :=
  (p.tables.exec = Jvm.exec ∧ c.code = mC M ∧ c.maxLocals = mL M ∧ s.vm.findClass (mY M).cls = some m.cls ∧ meth.name = (mY M).name) ∧ (∀ w ∈ GW, w.before args s = true) ∧ va_K D vwCl [(cI, .int)] s ∧ NWok s ∧ (∀ q, s.heap.size ≤ q → A q) ∧
  (∀ q, S = some q → va_X (ad0 999) q.1 q.2 s s.heap ∧ ad0 999 < s.heap.size ∧ ¬ A (ad0 999))
def Rel (D : va_G) (cI : ClassId) (R : Room) (A : Nat → Prop) (H0 : Heap) (ad0 : Nat → Nat) (n0 : Nat) (ad : Nat → Nat) (w : PW) (H : Heap) (locs : List Loc) : Prop :=
  va_P D vwCl (tw cI ad w) H ∧ va_D A (tw cI ad w) ∧ va_S A H0 H locs ∧ (R.cells = 0 → ad = ad0 ∧ w.length = n0) ∧ n0 ≤ w.length ∧ (∀ i, i < n0 → ad i = ad0 i) ∧ ad 999 = ad0 999
def retI (M : MI) (pc : Nat) : Option Value → Prop
  | none => mT M = none ∧ decode (mC M) pc = .ok (.return_, 1)
  | some (.int v) => decode (mC M) pc = .ok (.ireturn, 1) ∧ ∃ ty, mT M = some ty ∧ narrow ty (.int v) = .int v
  | some (.long _) => mT M = some .long ∧ decode (mC M) pc = .ok (.lreturn, 1)
  | _ => False
def RetQ (M : MI) (p : Program) (l : Launch) (e : Env) (s : State) (m : MethodId) (args : Array Value) (below : List Frame) (meth : Method) (c : Code) (D : va_G) (cI : ClassId) (A : Nat → Prop) (ad0 : Nat → Nat) (n0 : Nat) (Q : State → Prop) (Post : Option Value → PW → Prop) : Prop :=
  ∀ (pc : Nat) (LS : Array Slot) (r : Option Value) (w : PW) (ad : Nat → Nat) (H : Heap) (locs : List Loc), Rel D cI (mR M) A s.heap ad0 n0 ad w H locs → Post r w → retI M pc r →
    W p l e (mR M) s m args below meth c H locs (mR M).cells (mR M).slots Q (F0 m pc LS r.toList)
def Ok (M : MI) (S : Scr) (pc : Nat) (ls : List (Option Value)) (st : List Value) (w : PW) (k n : Nat) (Post : Option Value → PW → Prop) : Prop :=
  ∀ (p : Program) (l : Launch) (e : Env) (s : State) (m : MethodId) (args : Array Value) (below : List Frame) (meth : Method) (c : Code) (D : va_G) (cI : ClassId) (A : Nat → Prop) (ad0 : Nat → Nat) (n0 : Nat) (Q : State → Prop),
    Ctx M S p s m args meth c D cI A ad0 → RetQ M p l e s m args below meth c D cI A ad0 n0 Q Post →
    ∀ (ad : Nat → Nat) (H : Heap) (locs : List Loc) (LS : Array Slot), Rel D cI (mR M) A s.heap ad0 n0 ad w H locs → lr ad (mL M) ls LS →
      W p l e (mR M) s m args below meth c H locs k n Q (F0 m pc LS (st.map (tv ad)))
-- contracts
def PPc (D : va_G) (cI : ClassId) (ad : Nat → Nat) (w : PW) (sz : Nat) : State → Prop := fun U => U.heap.size = sz ∧ va_P D vwCl (tw cI ad w) U.heap ∧ va_K D vwCl [(cI, .int)] U ∧ va_D (fun _ => True) (tw cI ad w) ∧ NWok U
def PQ (M : MI) (D : va_G) (cI : ClassId) (ad : Nat → Nat) (w : PW) (sz : Nat) (Post : Option Value → PW → Prop) : Array Value → State → Outcome → State → Prop := fun _ st oc t =>
  (∃ (r : Option Value) (w' : PW) (ad' : Nat → Nat), oc = .returned r ∧ Post r w' ∧ (∀ v, r = some v → ∀ a : Nat → Nat, tv a v = v) ∧ ((mR M).cells = 0 → ad' = ad ∧ w'.length = w.length) ∧ w.length ≤ w'.length ∧ (∀ i, i < w.length → ad' i = ad i) ∧
    va_P D vwCl (tw cI ad' w') t.heap ∧ va_D (va_A (tw cI ad w) sz) (tw cI ad' w')) ∧ va_F (va_A (tw cI ad w) sz) st t
def PM (M : MI) (as : List Value) (w : PW) (Post : Option Value → PW → Prop) : Prop :=
  ∀ (l : Launch) (D : va_G) (cI : ClassId) (ad : Nat → Nat) (sz : Nat), Met l (mY M) (Cond.code (mY M) (mC M) (mL M) (mT M) :: GW) (mR M) (va_Pc (as.map (tv ad)) (PPc D cI ad w sz)) (PQ M D cI ad w sz Post) (mR M).cells (mR M).slots (va_A (tw cI ad w) sz)
-- the entry
def enl : List Value → List (Option Value)
  | [] => []
  | v :: vs => if v.category = 2 then some v :: none :: enl vs else some v :: enl vs
theorem enl_args {ad : Nat → Nat} : ∀ (as : List Value) (k j : Nat) (v : Value), (enl as)[j]? = some (some v) → (k + j, tv ad v) ∈ lv_args k (as.map (tv ad))
  | [], _, _, _, h => by simp [enl] at h
  | a :: as, k, j, v, h => by
    simp only [enl] at h
    simp only [List.map_cons, lv_args]
    by_cases hc : a.category = 2
    · rw [if_pos hc] at h
      match j, h with
      | 0, h =>
        have e : a = v := by simpa using h
        subst e
        exact List.mem_cons_self
      | 1, h => simp at h
      | j + 2, h =>
        have h' : (enl as)[j]? = some (some v) := by simpa using h
        have := enl_args (ad := ad) as (k + 2) j v h'
        rw [tv_cat, hc]
        refine List.mem_cons_of_mem _ ?_
        rwa [show k + (j + 2) = k + 2 + j by omega]
    · rw [if_neg hc] at h
      have hc1 : a.category = 1 := (lv_cat a).resolve_right hc
      match j, h with
      | 0, h =>
        have e : a = v := by simpa using h
        subst e
        exact List.mem_cons_self
      | j + 1, h =>
        have h' : (enl as)[j]? = some (some v) := by simpa using h
        have := enl_args (ad := ad) as (k + 1) j v h'
        rw [tv_cat, hc1]
        refine List.mem_cons_of_mem _ ?_
        rwa [show k + (j + 1) = k + 1 + j by omega]
theorem lgsl_len (ad : Nat → Nat) : ∀ as : List Value, (lg_sl (as.map (tv ad))).length = (enl as).length
  | [] => rfl
  | a :: as => by
    have ih := lgsl_len ad as
    simp only [lg_sl, List.map_cons, List.flatMap_cons, List.length_append, enl, tv_cat] at ih ⊢
    by_cases hc : a.category = 2
    · simp only [hc, if_true, List.length_cons, List.length_nil]; omega
    · simp only [if_neg hc, List.length_cons, List.length_nil]; omega
theorem rel_end {D : va_G} {cI : ClassId} {R : Room} {A : Nat → Prop} {s t : State} {ad0 : Nat → Nat} {n0 : Nat} {ad : Nat → Nat} {w : PW} {H : Heap} {locs : List Loc} (h : Rel D cI R A s.heap ad0 n0 ad w H locs) (ht : t.heap = H) : va_F A s t := h.2.2.1.F ht
theorem PM.of {M : MI} {as : List Value} {w : PW} {Post : Option Value → PW → Prop} (hy : plainName (mY M).cls = true) (hn : (enl as).length ≤ mL M) (hok : Ok M none 0 (enl as) [] w 0 0 Post) : PM M as w Post := by
  intro l D cI ad sz
  refine Met.ofW (cc := mC M) (maxL := mL M) (ret := mT M) hy rfl ?_
  intro p e s m args below meth c s₁ B hml hv
  obtain ⟨rfl, hsz, hP, hK, hD0, hN⟩ := hv
  have hts := atoms_spec (ws := Cond.code (mY M) (mC M) (mL M) (mT M) :: GW) B.pre
  have hown : s.vm.findClass (mY M).cls = some m.cls := findClass_of_methodNamed B.named
  have hnm : meth.name = (mY M).name := (name_of_methodNamed B.named B.method).1
  subst hsz
  have hD := hD0.self (sz := s.heap.size)
  have hl := lv_entry (as.map (tv ad)) (n := mL M) (by rw [lgsl_len]; exact hn)
  rw [lg_entry_eq]
  refine hok p l e s m _ below meth c D cI (va_A (tw cI ad w) s.heap.size) ad w.length _ ⟨⟨B.exec, B.bytes, hml, hown, hnm⟩, fun w hw => hts w (List.mem_cons_of_mem _ hw), hK, hN, fun q h => Or.inr h, fun q h => by cases h⟩ ?_ ad s.heap [] _ ⟨hP, hD, va_S.rf, fun _ => ⟨rfl, rfl⟩, Nat.le_refl _, fun _ _ => rfl, rfl⟩ ⟨hl.1, hl.2.1, fun i v hi => ?_⟩
  · intro pc LS r w' ad' H locs hR hp hr
    have hq : ∀ t : State, t.heap = H → (∀ v, r = some v → ∀ a : Nat → Nat, tv a v = v) → PQ M D cI ad w s.heap.size Post (as.map (tv ad)).toArray s (.returned r) t := fun t ht hv =>
      ⟨⟨r, w', ad', rfl, hp, hv, hR.2.2.2.1, hR.2.2.2.2.1, hR.2.2.2.2.2.1, by rw [ht]; exact hR.1, hR.2.1⟩, rel_end hR ht⟩
    match r, hr, hq with
    | none, hr, hq => exact W.vret B.exec B.bytes (B.returns.trans hr.1) (fun t ht _ => hq t ht (fun v h => by cases h)) hR.2.2.1.2.2 hr.2 B.notSynchronized
    | some (.int v), hr, hq =>
      obtain ⟨hd, ty, h1, h2⟩ := hr
      exact W.zret B.exec B.bytes (B.returns.trans h1) h2 (fun t ht _ => hq t ht (fun v h => by cases h; intro a; rfl)) hR.2.2.1.2.2 hd B.notSynchronized
    | some (.long v), hr, hq => exact W.lret B.exec B.bytes (B.returns.trans hr.1) (fun t ht _ => hq t ht (fun v h => by cases h; intro a; rfl)) hR.2.2.1.2.2 hr.2 B.notSynchronized
  · have := hl.2.2 (i, tv ad v) (by have := enl_args (ad := ad) as 0 i v hi; rwa [Nat.zero_add] at this)
    exact this
