/-! THE LAW: the class and the reference side by side -/
def mLw (nm : String) : MI := (⟨RL, nm, "([I)Z"⟩, code, 4, ret, room_1)
abbrev lwW (σ : St) (m mw mf ga : Nat → Int32) (τ : St) (m2 wa fr : Nat → Int32) (pl : Int32) (nu : Nat → Int32) (sd : Int32) : PW := [.inr (4, [.ref 1, .ref 13, .ref 25, .int σ.2.2.1, .ref 37, .ref 40, .ref 42, .ref 43]), .inr (3, [.ref 2, .ref 10, .ref 11, .ref 12, .int (σ.1 1), .int (σ.1 2), .int (σ.1 3)]), .inr (0, [.ref 3, .ref 4, .ref 5, .ref 6, .ref 7, .ref 8, .ref 9, .int (σ.1 0)]), .inl (9, kdO σ.1), .inl (9, fgO σ.1), .inl (9, frO σ.1), .inl (9, inO σ.1), .inl (9, wdO σ.1), .inl (64, wsO σ.1), .inl (64, fsO σ.1), .inl (7, rmO σ.1), .inl (7, glO σ.1), .inl (7, mdO σ.1), .inr (3, [.ref 14, .ref 22, .ref 23, .ref 24, .int (m 1), .int (m 2), .int (m 3)]), .inr (0, [.ref 15, .ref 16, .ref 17, .ref 18, .ref 19, .ref 20, .ref 21, .int (m 0)]), .inl (9, kdO m), .inl (9, fgO m), .inl (9, frO m), .inl (9, inO m), .inl (9, wdO m), .inl (64, mw), .inl (64, mf), .inl (7, rmO m), .inl (7, glO m), .inl (7, mdO m), .inr (3, [.ref 26, .ref 34, .ref 35, .ref 36, .int (σ.2.1 1), .int (σ.2.1 2), .int (σ.2.1 3)]), .inr (0, [.ref 27, .ref 28, .ref 29, .ref 30, .ref 31, .ref 32, .ref 33, .int (σ.2.1 0)]), .inl (9, kdO σ.2.1), .inl (9, fgO σ.2.1), .inl (9, frO σ.2.1), .inl (9, inO σ.2.1), .inl (9, wdO σ.2.1), .inl (64, wsO σ.2.1), .inl (64, fsO σ.2.1), .inl (7, rmO σ.2.1), .inl (7, glO σ.2.1), .inl (7, mdO σ.2.1), .inr (1, [.ref 38]), .inr (2, [.ref 39, .int (nI σ.2.2.2.2.1)]), .inl (96, σ.2.2.2.1), .inr (2, [.ref 41, .int (nI σ.2.2.2.2.2.2.1)]), .inl (16, σ.2.2.2.2.2.1), .inl (7, σ.2.2.2.2.2.2.2), .inl (8, ga), .inr (5, [.ref 45, .ref 46, .ref 47, .ref 48, .ref 49, .int τ.2.2.1, .ref 50, .ref 51, .ref 52, .int (nI τ.2.2.2.2.1), .int (nI τ.2.2.2.2.2.2.1), .int pl, .ref 53, .int sd]), .inl (71, τ.1), .inl (71, m2), .inl (71, τ.2.1), .inl (71, wa), .inl (64, fr), .inl (96, τ.2.2.2.1), .inl (16, τ.2.2.2.2.2.1), .inl (7, τ.2.2.2.2.2.2.2), .inl (4, nu)]
abbrev isX : List Nat := [0, 42, 1, 2, 3, 4, 5, 6, 7, 8, 9, 10, 11, 12, 13, 14, 15, 16, 17, 18, 19, 20, 21, 22, 23, 24, 43, 40, 41, 37, 38, 39, 25, 26, 27, 28, 29, 30, 31, 32, 33, 34, 35, 36]
abbrev isM : List Nat := [44, 45, 46, 47, 48, 49, 50, 51, 52, 53]
theorem emX {σ τ : St} {m mw mf ga m2 wa fr : Nat → Int32} {pl : Int32} {nu : Nat → Int32} {sd : Int32} : Emb isX (xW σ.1 (wsO σ.1) (fsO σ.1) m mw mf σ.2.1 (wsO σ.2.1) (fsO σ.2.1) σ.2.2.2.1 σ.2.2.2.2.2.1 σ.2.2.2.2.2.2.2 ga σ.2.2.1 (nI σ.2.2.2.2.1) (nI σ.2.2.2.2.2.2.1)) (lwW σ m mw mf ga τ m2 wa fr pl nu sd) := rfl
theorem emM {σ τ : St} {m mw mf ga m2 wa fr : Nat → Int32} {pl : Int32} {nu : Nat → Int32} {sd : Int32} : Emb isM (mSt τ m2 wa fr pl nu sd) (lwW σ m mw mf ga τ m2 wa fr pl nu sd) := rfl
theorem pb_emb {w wc w2 : PW} {is : List Nat} (a : Nat) (hl : w2.length = w.length) (hE : Emb is wc w2) (his : is.take wc.length = is) (hin : ∀ i, i < a → i ∈ is) (hnd : va_nd is = true) (hdr : w2.drop a = w.drop a) : pb w is wc = w2 := by
  have hL : (pb w is wc).length = w.length := pbk_len _ _ _ _
  apply List.ext_getElem?
  intro i
  by_cases hlt : i < w.length
  · by_cases hj : ∃ j, j < wc.length ∧ is[j]? = some i
    · obtain ⟨j, hj1, hj2⟩ := hj
      have he : wc[j]? = some wc[j] := List.getElem?_eq_getElem hj1
      obtain ⟨i', g1, g2, g3⟩ := hE.at he
      have e1 : i' = i := Option.some.inj (g1.symm.trans hj2)
      subst e1
      rw [g3]
      exact pbk_in (re is) is wc w i' j wc[j] (by rw [his]; exact hnd) hj2 he hlt
    · have h1 : (pb w is wc)[i]? = w[i]? := pbk_out (re is) is wc w i (fun j hj1 hj2 => hj ⟨j, hj1, hj2⟩)
      have hge : a ≤ i := Nat.not_lt.mp (fun z => by
        obtain ⟨j, hj1, hj2⟩ := List.getElem_of_mem (hin i z)
        have hlen : j < wc.length := by
          have h2 : is.length = min wc.length is.length := by
            have := congrArg List.length his
            rw [List.length_take] at this
            exact this.symm
          omega
        exact hj ⟨j, hlen, by rw [List.getElem?_eq_getElem hj1, hj2]⟩)
      have h2 : (w2.drop a)[i - a]? = (w.drop a)[i - a]? := by rw [hdr]
      rw [List.getElem?_drop, List.getElem?_drop, show a + (i - a) = i by omega] at h2
      rw [h1, h2]
  · rw [List.getElem?_eq_none (by omega), List.getElem?_eq_none (by omega)]
theorem pbX {σ τ ρ : St} {m mw mf ga m2 wa fr : Nat → Int32} {pl : Int32} {nu : Nat → Int32} {sd : Int32} {n1 n2 n3 n4 : Nat → Int32} : pb (lwW σ m mw mf ga τ m2 wa fr pl nu sd) isX (xW ρ.1 (wsO ρ.1) (fsO ρ.1) n1 n2 n3 ρ.2.1 (wsO ρ.2.1) (fsO ρ.2.1) ρ.2.2.2.1 ρ.2.2.2.2.2.1 ρ.2.2.2.2.2.2.2 n4 ρ.2.2.1 (nI ρ.2.2.2.2.1) (nI ρ.2.2.2.2.2.2.1)) = lwW ρ n1 n2 n3 n4 τ m2 wa fr pl nu sd := pb_emb 44 rfl emX rfl (by decide) rfl rfl
theorem pbM {σ τ ρ : St} {m mw mf ga m2 wa fr : Nat → Int32} {pl : Int32} {nu : Nat → Int32} {sd : Int32} {n2 na nf : Nat → Int32} {np : Int32} {nn : Nat → Int32} {ns : Int32} : pb (lwW σ m mw mf ga τ m2 wa fr pl nu sd) isM (mSt ρ n2 na nf np nn ns) = lwW σ m mw mf ga ρ n2 na nf np nn ns := pb_seg 44 (Nat.le_of_ble_eq_true rfl) rfl rfl rfl
section LAW
variable {nm : String} {S : Scr} {pc idx nA k n : Nat} {ls : List (Option Value)} {st stk asc : List Value} {Mc : MI} {P : Option Value → PW → Prop} {σ τ : St} {m mw mf ga m2 wa fr : Nat → Int32} {pl : Int32} {nu : Nat → Int32} {sd : Int32} {res : Res}
theorem law_x (hM : PM Mc (.ref 0 :: asc) (xW σ.1 (wsO σ.1) (fsO σ.1) m mw mf σ.2.1 (wsO σ.2.1) (fsO σ.2.1) σ.2.2.2.1 σ.2.2.2.2.2.1 σ.2.2.2.2.2.2.2 ga σ.2.2.1 (nI σ.2.2.2.2.1) (nI σ.2.2.2.2.2.2.1)) (CP res)) (hz : (mR Mc).cells = 0 ∧ (mR Mc).slots = 0) (hd : decode code pc = .ok (.invokevirtual idx, 3)) (hlink : Cond.methodLink RL idx (mY Mc) ∈ GW) (cs : CV Mc nA) (hn : asc.length = nA) (hrm : Rm (mLw nm) Mc) (hc : vwCl[4]? = some ((mY Mc).cls, TX4, 8)) (has : asc.map (rv isX) = asc) (hst : asc.reverse ++ .ref 0 :: st = stk) (hcat : catS st ≤ 8) (hk : k ≤ 600000) (hk2 : n ≤ 7302250)
    (h : ∀ n1 n2 n3 n4, Ok (mLw nm) S (pc + 3) ls (res.1.toList ++ st) (lwW res.2 n1 n2 n3 n4 τ m2 wa fr pl nu sd) k n P) : Ok (mLw nm) S pc ls stk (lwW σ m mw mf ga τ m2 wa fr pl nu sd) k n P := by
  refine o_callV (is := isX) hM hz hd hlink cs hn hrm hc rfl emX rfl (by rw [has]; exact hst) hcat hk hk2 (fun r wc2 hq _ => ?_)
  obtain ⟨n1, n2, n3, n4, rfl, rfl⟩ := hq
  rw [pbX]
  exact h n1 n2 n3 n4
theorem law_m (hM : PM Mc (.ref 0 :: asc) (mSt τ m2 wa fr pl nu sd) (MP res)) (hz : (mR Mc).cells = 0 ∧ (mR Mc).slots = 0) (hd : decode code pc = .ok (.invokevirtual idx, 3)) (hlink : Cond.methodLink RL idx (mY Mc) ∈ GW) (cs : CV Mc nA) (hn : asc.length = nA) (hrm : Rm (mLw nm) Mc) (hc : vwCl[5]? = some ((mY Mc).cls, TX5, 14)) (has : asc.map (rv isM) = asc) (hst : asc.reverse ++ .ref 44 :: st = stk) (hcat : catS st ≤ 8) (hk : k ≤ 600000) (hk2 : n ≤ 7302250)
    (h : ∀ n1 n2 n3 n4 n5 n6, Ok (mLw nm) S (pc + 3) ls (res.1.toList ++ st) (lwW σ m mw mf ga res.2 n1 n2 n3 n4 n5 n6) k n P) : Ok (mLw nm) S pc ls stk (lwW σ m mw mf ga τ m2 wa fr pl nu sd) k n P := by
  refine o_callV (is := isM) hM hz hd hlink cs hn hrm hc rfl emM rfl (by rw [has]; exact hst) hcat hk hk2 (fun r wc2 hq _ => ?_)
  obtain ⟨n1, n2, n3, n4, n5, n6, rfl, rfl⟩ := hq
  rw [pbM]
  exact h n1 n2 n3 n4 n5 n6
end LAW
theorem sc_in {i j L : Nat} (h : i + j < L) (hL : L ≤ 3072) : vp_in (nI i + nI j) L := by rw [nI_add]; exact vp_in_nI h (by omega)
theorem cmp_self (x : Int64) : lg_cmp x x = 0 := by
  unfold lg_cmp
  rw [if_neg (show ¬ x > x from fun h => Int64.lt_irrefl h), if_pos rfl]
theorem lw6 {i L : Nat} (hi : i ≤ 3072) (hL : L ≤ 3072) (h : ¬ nI L - 6 < nI i) : i + 6 ≤ L := by
  have h1 : ¬ (nI L - nI 6).toInt < (nI i).toInt := fun z => h (Int32.lt_iff_toInt_lt.mpr z)
  rw [pk_sub_toInt (by omega) (by omega), nI_toInt (by omega)] at h1
  omega
theorem lwc_0 {nm : String} {L k n i : Nat} {xs : Nat → Int32} {P : Option Value → PW → Prop} (hk : k ≤ 600000) (hn : n ≤ 7302250) (h6 : i + 6 ≤ L) (hL : L ≤ 3072) {σ : St} (hσ : Inv σ) (hN : ∀ (τ : St) (m mw mf ga m2 wa fr : Nat → Int32) (pl : Int32) (nu : Nat → Int32) (sd : Int32), Inv τ → Ok (mLw nm) (some (L, xs)) 1300 [some (.ref 999), some (.ref 0), some (.ref 44), some (.int (nI i))] [] (lwW τ m mw mf ga τ m2 wa fr pl nu sd) k n P) {m mw mf ga m2 wa fr : Nat → Int32} {pl : Int32} {nu : Nat → Int32} {sd : Int32} : Ok (mLw nm) (some (L, xs)) 208 [some (.ref 999), some (.ref 0), some (.ref 44), some (.int (nI i))] [] (lwW σ m mw mf ga σ m2 wa fr pl nu sd) k n P := by
  have hS := hσ.1
  have hLt := hσ.2.2.1
  refine o_aload_n dL_law_208 rfl rfl ?_
  refine o_aload_n dL_law_209 rfl rfl ?_
  refine o_iload_n dL_law_210 rfl rfl ?_
  refine o_iconst dL_law_211 ic_1 ?_
  refine o_iadd dL_law_212 ?_
  refine o_sld dL_law_213 rfl (sc_in (j := 1) (by omega) hL) ?_
  generalize hg1 : xs (nI i + 1).toNatClampNeg = a1
  have hG : GI (s_letter a1 σ) := g_letter hσ
  obtain ⟨⟨v, hv⟩, hI⟩ := hG
  refine law_x (σ := σ) (asc := [.int a1]) (res := s_letter a1 σ) (tX4_letter hS hLt) ⟨rfl, rfl⟩ dL_law_214 wd229 cvX4_letter rfl ⟨(Nat.le_of_ble_eq_true rfl), (Nat.le_of_ble_eq_true rfl)⟩ hcX4 rfl rfl (Nat.le_of_ble_eq_true rfl) hk hn (fun n1 n2 n3 n4 => ?_)
  rw [hv]
  refine o_aload_n dL_law_217 rfl rfl ?_
  refine o_aload_n dL_law_218 rfl rfl ?_
  refine o_iload_n dL_law_219 rfl rfl ?_
  refine o_iconst dL_law_220 ic_1 ?_
  refine o_iadd dL_law_221 ?_
  refine o_sld dL_law_222 rfl (sc_in (j := 1) (by omega) hL) ?_
  rw [hg1]
  refine law_m (τ := σ) (asc := [.int a1]) (res := s_letter a1 σ) (tX5_letter hS hLt) ⟨rfl, rfl⟩ dL_law_223 wd729 cvX5_letter rfl ⟨(Nat.le_of_ble_eq_true rfl), (Nat.le_of_ble_eq_true rfl)⟩ hcX5 rfl rfl (Nat.le_of_ble_eq_true rfl) hk hn (fun p1 p2 p3 p4 p5 p6 => ?_)
  rw [hv]
  exact o_icmp_eq (tgt := 1300) dL_law_226 (by decide) (fun _ => hN _ _ _ _ _ _ _ _ _ _ _ hI) (fun c => absurd rfl c)
theorem lwc_1 {nm : String} {L k n i : Nat} {xs : Nat → Int32} {P : Option Value → PW → Prop} (hk : k ≤ 600000) (hn : n ≤ 7302250) (h6 : i + 6 ≤ L) (hL : L ≤ 3072) {σ : St} (hσ : Inv σ) (hN : ∀ (τ : St) (m mw mf ga m2 wa fr : Nat → Int32) (pl : Int32) (nu : Nat → Int32) (sd : Int32), Inv τ → Ok (mLw nm) (some (L, xs)) 1300 [some (.ref 999), some (.ref 0), some (.ref 44), some (.int (nI i))] [] (lwW τ m mw mf ga τ m2 wa fr pl nu sd) k n P) {m mw mf ga m2 wa fr : Nat → Int32} {pl : Int32} {nu : Nat → Int32} {sd : Int32} : Ok (mLw nm) (some (L, xs)) 231 [some (.ref 999), some (.ref 0), some (.ref 44), some (.int (nI i))] [] (lwW σ m mw mf ga σ m2 wa fr pl nu sd) k n P := by
  have hS := hσ.1
  have hLt := hσ.2.2.1
  refine o_aload_n dL_law_231 rfl rfl ?_
  have hG : GI (s_town  σ) := g_town hσ
  obtain ⟨⟨v, hv⟩, hI⟩ := hG
  refine law_x (σ := σ) (asc := []) (res := s_town  σ) (tX4_town hS hLt) ⟨rfl, rfl⟩ dL_law_232 wd249 cvX4_town rfl ⟨(Nat.le_of_ble_eq_true rfl), (Nat.le_of_ble_eq_true rfl)⟩ hcX4 rfl rfl (Nat.le_of_ble_eq_true rfl) hk hn (fun n1 n2 n3 n4 => ?_)
  rw [hv]
  refine o_aload_n dL_law_235 rfl rfl ?_
  refine law_m (τ := σ) (asc := []) (res := s_town  σ) (tX5_town hS hLt) ⟨rfl, rfl⟩ dL_law_236 wd737 cvX5_town rfl ⟨(Nat.le_of_ble_eq_true rfl), (Nat.le_of_ble_eq_true rfl)⟩ hcX5 rfl rfl (Nat.le_of_ble_eq_true rfl) hk hn (fun p1 p2 p3 p4 p5 p6 => ?_)
  rw [hv]
  exact o_icmp_eq (tgt := 1300) dL_law_239 (by decide) (fun _ => hN _ _ _ _ _ _ _ _ _ _ _ hI) (fun c => absurd rfl c)
theorem lwc_2 {nm : String} {L k n i : Nat} {xs : Nat → Int32} {P : Option Value → PW → Prop} (hk : k ≤ 600000) (hn : n ≤ 7302250) (h6 : i + 6 ≤ L) (hL : L ≤ 3072) {σ : St} (hσ : Inv σ) (hN : ∀ (τ : St) (m mw mf ga m2 wa fr : Nat → Int32) (pl : Int32) (nu : Nat → Int32) (sd : Int32), Inv τ → Ok (mLw nm) (some (L, xs)) 1300 [some (.ref 999), some (.ref 0), some (.ref 44), some (.int (nI i))] [] (lwW τ m mw mf ga τ m2 wa fr pl nu sd) k n P) {m mw mf ga m2 wa fr : Nat → Int32} {pl : Int32} {nu : Nat → Int32} {sd : Int32} : Ok (mLw nm) (some (L, xs)) 244 [some (.ref 999), some (.ref 0), some (.ref 44), some (.int (nI i))] [] (lwW σ m mw mf ga σ m2 wa fr pl nu sd) k n P := by
  have hS := hσ.1
  refine o_aload_n dL_law_244 rfl rfl ?_
  refine o_aload_n dL_law_245 rfl rfl ?_
  refine o_iload_n dL_law_246 rfl rfl ?_
  refine o_iconst dL_law_247 ic_1 ?_
  refine o_iadd dL_law_248 ?_
  refine o_sld dL_law_249 rfl (sc_in (j := 1) (by omega) hL) ?_
  generalize hg1 : xs (nI i + 1).toNatClampNeg = a1
  refine o_aload_n dL_law_250 rfl rfl ?_
  refine o_iload_n dL_law_251 rfl rfl ?_
  refine o_iconst dL_law_252 ic_2 ?_
  refine o_iadd dL_law_253 ?_
  refine o_sld dL_law_254 rfl (sc_in (j := 2) (by omega) hL) ?_
  generalize hg2 : xs (nI i + 2).toNatClampNeg = a2
  have hG : GI (s_door a1 a2 σ) := g_door hσ
  obtain ⟨⟨v, hv⟩, hI⟩ := hG
  refine law_x (σ := σ) (asc := [.int a1, .int a2]) (res := s_door a1 a2 σ) (tX4_door hS) ⟨rfl, rfl⟩ dL_law_255 wd375 cvX4_door rfl ⟨(Nat.le_of_ble_eq_true rfl), (Nat.le_of_ble_eq_true rfl)⟩ hcX4 rfl rfl (Nat.le_of_ble_eq_true rfl) hk hn (fun n1 n2 n3 n4 => ?_)
  rw [hv]
  refine o_aload_n dL_law_258 rfl rfl ?_
  refine o_aload_n dL_law_259 rfl rfl ?_
  refine o_iload_n dL_law_260 rfl rfl ?_
  refine o_iconst dL_law_261 ic_1 ?_
  refine o_iadd dL_law_262 ?_
  refine o_sld dL_law_263 rfl (sc_in (j := 1) (by omega) hL) ?_
  rw [hg1]
  refine o_aload_n dL_law_264 rfl rfl ?_
  refine o_iload_n dL_law_265 rfl rfl ?_
  refine o_iconst dL_law_266 ic_2 ?_
  refine o_iadd dL_law_267 ?_
  refine o_sld dL_law_268 rfl (sc_in (j := 2) (by omega) hL) ?_
  rw [hg2]
  refine law_m (τ := σ) (asc := [.int a1, .int a2]) (res := s_door a1 a2 σ) (tX5_door hS) ⟨rfl, rfl⟩ dL_law_269 wd836 cvX5_door rfl ⟨(Nat.le_of_ble_eq_true rfl), (Nat.le_of_ble_eq_true rfl)⟩ hcX5 rfl rfl (Nat.le_of_ble_eq_true rfl) hk hn (fun p1 p2 p3 p4 p5 p6 => ?_)
  rw [hv]
  exact o_icmp_eq (tgt := 1300) dL_law_272 (by decide) (fun _ => hN _ _ _ _ _ _ _ _ _ _ _ hI) (fun c => absurd rfl c)
theorem lwc_3 {nm : String} {L k n i : Nat} {xs : Nat → Int32} {P : Option Value → PW → Prop} (hk : k ≤ 600000) (hn : n ≤ 7302250) (h6 : i + 6 ≤ L) (hL : L ≤ 3072) {σ : St} (hσ : Inv σ) (hN : ∀ (τ : St) (m mw mf ga m2 wa fr : Nat → Int32) (pl : Int32) (nu : Nat → Int32) (sd : Int32), Inv τ → Ok (mLw nm) (some (L, xs)) 1300 [some (.ref 999), some (.ref 0), some (.ref 44), some (.int (nI i))] [] (lwW τ m mw mf ga τ m2 wa fr pl nu sd) k n P) {m mw mf ga m2 wa fr : Nat → Int32} {pl : Int32} {nu : Nat → Int32} {sd : Int32} : Ok (mLw nm) (some (L, xs)) 277 [some (.ref 999), some (.ref 0), some (.ref 44), some (.int (nI i))] [] (lwW σ m mw mf ga σ m2 wa fr pl nu sd) k n P := by
  have hS := hσ.1
  refine o_aload_n dL_law_277 rfl rfl ?_
  refine o_aload_n dL_law_278 rfl rfl ?_
  refine o_iload_n dL_law_279 rfl rfl ?_
  refine o_iconst dL_law_280 ic_1 ?_
  refine o_iadd dL_law_281 ?_
  refine o_sld dL_law_282 rfl (sc_in (j := 1) (by omega) hL) ?_
  generalize hg1 : xs (nI i + 1).toNatClampNeg = a1
  refine o_aload_n dL_law_283 rfl rfl ?_
  refine o_iload_n dL_law_284 rfl rfl ?_
  refine o_iconst dL_law_285 ic_2 ?_
  refine o_iadd dL_law_286 ?_
  refine o_sld dL_law_287 rfl (sc_in (j := 2) (by omega) hL) ?_
  generalize hg2 : xs (nI i + 2).toNatClampNeg = a2
  have hG : GI (s_person a1 a2 σ) := g_person hσ
  obtain ⟨⟨v, hv⟩, hI⟩ := hG
  refine law_x (σ := σ) (asc := [.int a1, .int a2]) (res := s_person a1 a2 σ) (tX4_person hS) ⟨rfl, rfl⟩ dL_law_288 wd380 cvX4_person rfl ⟨(Nat.le_of_ble_eq_true rfl), (Nat.le_of_ble_eq_true rfl)⟩ hcX4 rfl rfl (Nat.le_of_ble_eq_true rfl) hk hn (fun n1 n2 n3 n4 => ?_)
  rw [hv]
  refine o_aload_n dL_law_291 rfl rfl ?_
  refine o_aload_n dL_law_292 rfl rfl ?_
  refine o_iload_n dL_law_293 rfl rfl ?_
  refine o_iconst dL_law_294 ic_1 ?_
  refine o_iadd dL_law_295 ?_
  refine o_sld dL_law_296 rfl (sc_in (j := 1) (by omega) hL) ?_
  rw [hg1]
  refine o_aload_n dL_law_297 rfl rfl ?_
  refine o_iload_n dL_law_298 rfl rfl ?_
  refine o_iconst dL_law_299 ic_2 ?_
  refine o_iadd dL_law_300 ?_
  refine o_sld dL_law_301 rfl (sc_in (j := 2) (by omega) hL) ?_
  rw [hg2]
  refine law_m (τ := σ) (asc := [.int a1, .int a2]) (res := s_person a1 a2 σ) (tX5_person hS) ⟨rfl, rfl⟩ dL_law_302 wd840 cvX5_person rfl ⟨(Nat.le_of_ble_eq_true rfl), (Nat.le_of_ble_eq_true rfl)⟩ hcX5 rfl rfl (Nat.le_of_ble_eq_true rfl) hk hn (fun p1 p2 p3 p4 p5 p6 => ?_)
  rw [hv]
  exact o_icmp_eq (tgt := 1300) dL_law_305 (by decide) (fun _ => hN _ _ _ _ _ _ _ _ _ _ _ hI) (fun c => absurd rfl c)
theorem lwc_4 {nm : String} {L k n i : Nat} {xs : Nat → Int32} {P : Option Value → PW → Prop} (hk : k ≤ 600000) (hn : n ≤ 7302250) (h6 : i + 6 ≤ L) (hL : L ≤ 3072) {σ : St} (hσ : Inv σ) (hN : ∀ (τ : St) (m mw mf ga m2 wa fr : Nat → Int32) (pl : Int32) (nu : Nat → Int32) (sd : Int32), Inv τ → Ok (mLw nm) (some (L, xs)) 1300 [some (.ref 999), some (.ref 0), some (.ref 44), some (.int (nI i))] [] (lwW τ m mw mf ga τ m2 wa fr pl nu sd) k n P) {m mw mf ga m2 wa fr : Nat → Int32} {pl : Int32} {nu : Nat → Int32} {sd : Int32} : Ok (mLw nm) (some (L, xs)) 310 [some (.ref 999), some (.ref 0), some (.ref 44), some (.int (nI i))] [] (lwW σ m mw mf ga σ m2 wa fr pl nu sd) k n P := by
  have hS := hσ.1
  refine o_aload_n dL_law_310 rfl rfl ?_
  refine o_aload_n dL_law_311 rfl rfl ?_
  refine o_iload_n dL_law_312 rfl rfl ?_
  refine o_iconst dL_law_313 ic_1 ?_
  refine o_iadd dL_law_314 ?_
  refine o_sld dL_law_315 rfl (sc_in (j := 1) (by omega) hL) ?_
  generalize hg1 : xs (nI i + 1).toNatClampNeg = a1
  have hG : GI (s_wedges a1 σ) := g_wedges hσ
  obtain ⟨⟨v, hv⟩, hI⟩ := hG
  refine law_x (σ := σ) (asc := [.int a1]) (res := s_wedges a1 σ) (tX4_wedges hS) ⟨rfl, rfl⟩ dL_law_316 wd386 cvX4_wedges rfl ⟨(Nat.le_of_ble_eq_true rfl), (Nat.le_of_ble_eq_true rfl)⟩ hcX4 rfl rfl (Nat.le_of_ble_eq_true rfl) hk hn (fun n1 n2 n3 n4 => ?_)
  rw [hv]
  refine o_aload_n dL_law_319 rfl rfl ?_
  refine o_aload_n dL_law_320 rfl rfl ?_
  refine o_iload_n dL_law_321 rfl rfl ?_
  refine o_iconst dL_law_322 ic_1 ?_
  refine o_iadd dL_law_323 ?_
  refine o_sld dL_law_324 rfl (sc_in (j := 1) (by omega) hL) ?_
  rw [hg1]
  refine law_m (τ := σ) (asc := [.int a1]) (res := s_wedges a1 σ) (tX5_wedges hS) ⟨rfl, rfl⟩ dL_law_325 wd844 cvX5_wedges rfl ⟨(Nat.le_of_ble_eq_true rfl), (Nat.le_of_ble_eq_true rfl)⟩ hcX5 rfl rfl (Nat.le_of_ble_eq_true rfl) hk hn (fun p1 p2 p3 p4 p5 p6 => ?_)
  rw [hv]
  exact o_icmp_eq (tgt := 1300) dL_law_328 (by decide) (fun _ => hN _ _ _ _ _ _ _ _ _ _ _ hI) (fun c => absurd rfl c)
theorem lwc_5 {nm : String} {L k n i : Nat} {xs : Nat → Int32} {P : Option Value → PW → Prop} (hk : k ≤ 600000) (hn : n ≤ 7302250) (h6 : i + 6 ≤ L) (hL : L ≤ 3072) {σ : St} (hσ : Inv σ) (hN : ∀ (τ : St) (m mw mf ga m2 wa fr : Nat → Int32) (pl : Int32) (nu : Nat → Int32) (sd : Int32), Inv τ → Ok (mLw nm) (some (L, xs)) 1300 [some (.ref 999), some (.ref 0), some (.ref 44), some (.int (nI i))] [] (lwW τ m mw mf ga τ m2 wa fr pl nu sd) k n P) {m mw mf ga m2 wa fr : Nat → Int32} {pl : Int32} {nu : Nat → Int32} {sd : Int32} : Ok (mLw nm) (some (L, xs)) 333 [some (.ref 999), some (.ref 0), some (.ref 44), some (.int (nI i))] [] (lwW σ m mw mf ga σ m2 wa fr pl nu sd) k n P := by
  have hS := hσ.1
  refine o_aload_n dL_law_333 rfl rfl ?_
  refine o_aload_n dL_law_334 rfl rfl ?_
  refine o_iload_n dL_law_335 rfl rfl ?_
  refine o_iconst dL_law_336 ic_1 ?_
  refine o_iadd dL_law_337 ?_
  refine o_sld dL_law_338 rfl (sc_in (j := 1) (by omega) hL) ?_
  generalize hg1 : xs (nI i + 1).toNatClampNeg = a1
  have hG : GI (s_turns a1 σ) := g_turns hσ
  obtain ⟨⟨v, hv⟩, hI⟩ := hG
  refine law_x (σ := σ) (asc := [.int a1]) (res := s_turns a1 σ) (tX4_turns hS) ⟨rfl, rfl⟩ dL_law_339 wd391 cvX4_turns rfl ⟨(Nat.le_of_ble_eq_true rfl), (Nat.le_of_ble_eq_true rfl)⟩ hcX4 rfl rfl (Nat.le_of_ble_eq_true rfl) hk hn (fun n1 n2 n3 n4 => ?_)
  rw [hv]
  refine o_aload_n dL_law_342 rfl rfl ?_
  refine o_aload_n dL_law_343 rfl rfl ?_
  refine o_iload_n dL_law_344 rfl rfl ?_
  refine o_iconst dL_law_345 ic_1 ?_
  refine o_iadd dL_law_346 ?_
  refine o_sld dL_law_347 rfl (sc_in (j := 1) (by omega) hL) ?_
  rw [hg1]
  refine law_m (τ := σ) (asc := [.int a1]) (res := s_turns a1 σ) (tX5_turns hS) ⟨rfl, rfl⟩ dL_law_348 wd848 cvX5_turns rfl ⟨(Nat.le_of_ble_eq_true rfl), (Nat.le_of_ble_eq_true rfl)⟩ hcX5 rfl rfl (Nat.le_of_ble_eq_true rfl) hk hn (fun p1 p2 p3 p4 p5 p6 => ?_)
  rw [hv]
  exact o_icmp_eq (tgt := 1300) dL_law_351 (by decide) (fun _ => hN _ _ _ _ _ _ _ _ _ _ _ hI) (fun c => absurd rfl c)
theorem lwc_6 {nm : String} {L k n i : Nat} {xs : Nat → Int32} {P : Option Value → PW → Prop} (hk : k ≤ 600000) (hn : n ≤ 7302250) (h6 : i + 6 ≤ L) (hL : L ≤ 3072) {σ : St} (hσ : Inv σ) (hN : ∀ (τ : St) (m mw mf ga m2 wa fr : Nat → Int32) (pl : Int32) (nu : Nat → Int32) (sd : Int32), Inv τ → Ok (mLw nm) (some (L, xs)) 1300 [some (.ref 999), some (.ref 0), some (.ref 44), some (.int (nI i))] [] (lwW τ m mw mf ga τ m2 wa fr pl nu sd) k n P) {m mw mf ga m2 wa fr : Nat → Int32} {pl : Int32} {nu : Nat → Int32} {sd : Int32} : Ok (mLw nm) (some (L, xs)) 356 [some (.ref 999), some (.ref 0), some (.ref 44), some (.int (nI i))] [] (lwW σ m mw mf ga σ m2 wa fr pl nu sd) k n P := by
  have hS := hσ.1
  refine o_aload_n dL_law_356 rfl rfl ?_
  refine o_aload_n dL_law_357 rfl rfl ?_
  refine o_iload_n dL_law_358 rfl rfl ?_
  refine o_iconst dL_law_359 ic_1 ?_
  refine o_iadd dL_law_360 ?_
  refine o_sld dL_law_361 rfl (sc_in (j := 1) (by omega) hL) ?_
  generalize hg1 : xs (nI i + 1).toNatClampNeg = a1
  refine o_aload_n dL_law_362 rfl rfl ?_
  refine o_iload_n dL_law_363 rfl rfl ?_
  refine o_iconst dL_law_364 ic_2 ?_
  refine o_iadd dL_law_365 ?_
  refine o_sld dL_law_366 rfl (sc_in (j := 2) (by omega) hL) ?_
  generalize hg2 : xs (nI i + 2).toNatClampNeg = a2
  have hG : GI (s_sets 50 a1 a2 σ) := g_stands hσ
  obtain ⟨⟨v, hv⟩, hI⟩ := hG
  refine law_x (σ := σ) (asc := [.int a1, .int a2]) (res := s_sets 50 a1 a2 σ) (tX4_stands hS) ⟨rfl, rfl⟩ dL_law_367 wd396 cvX4_stands rfl ⟨(Nat.le_of_ble_eq_true rfl), (Nat.le_of_ble_eq_true rfl)⟩ hcX4 rfl rfl (Nat.le_of_ble_eq_true rfl) hk hn (fun n1 n2 n3 n4 => ?_)
  rw [hv]
  refine o_aload_n dL_law_370 rfl rfl ?_
  refine o_aload_n dL_law_371 rfl rfl ?_
  refine o_iload_n dL_law_372 rfl rfl ?_
  refine o_iconst dL_law_373 ic_1 ?_
  refine o_iadd dL_law_374 ?_
  refine o_sld dL_law_375 rfl (sc_in (j := 1) (by omega) hL) ?_
  rw [hg1]
  refine o_aload_n dL_law_376 rfl rfl ?_
  refine o_iload_n dL_law_377 rfl rfl ?_
  refine o_iconst dL_law_378 ic_2 ?_
  refine o_iadd dL_law_379 ?_
  refine o_sld dL_law_380 rfl (sc_in (j := 2) (by omega) hL) ?_
  rw [hg2]
  refine law_m (τ := σ) (asc := [.int a1, .int a2]) (res := s_sets 50 a1 a2 σ) (tX5_stands hS) ⟨rfl, rfl⟩ dL_law_381 wd852 cvX5_stands rfl ⟨(Nat.le_of_ble_eq_true rfl), (Nat.le_of_ble_eq_true rfl)⟩ hcX5 rfl rfl (Nat.le_of_ble_eq_true rfl) hk hn (fun p1 p2 p3 p4 p5 p6 => ?_)
  rw [hv]
  exact o_icmp_eq (tgt := 1300) dL_law_384 (by decide) (fun _ => hN _ _ _ _ _ _ _ _ _ _ _ hI) (fun c => absurd rfl c)
theorem lwc_7 {nm : String} {L k n i : Nat} {xs : Nat → Int32} {P : Option Value → PW → Prop} (hk : k ≤ 600000) (hn : n ≤ 7302250) (h6 : i + 6 ≤ L) (hL : L ≤ 3072) {σ : St} (hσ : Inv σ) (hN : ∀ (τ : St) (m mw mf ga m2 wa fr : Nat → Int32) (pl : Int32) (nu : Nat → Int32) (sd : Int32), Inv τ → Ok (mLw nm) (some (L, xs)) 1300 [some (.ref 999), some (.ref 0), some (.ref 44), some (.int (nI i))] [] (lwW τ m mw mf ga τ m2 wa fr pl nu sd) k n P) {m mw mf ga m2 wa fr : Nat → Int32} {pl : Int32} {nu : Nat → Int32} {sd : Int32} : Ok (mLw nm) (some (L, xs)) 389 [some (.ref 999), some (.ref 0), some (.ref 44), some (.int (nI i))] [] (lwW σ m mw mf ga σ m2 wa fr pl nu sd) k n P := by
  have hS := hσ.1
  refine o_aload_n dL_law_389 rfl rfl ?_
  refine o_aload_n dL_law_390 rfl rfl ?_
  refine o_iload_n dL_law_391 rfl rfl ?_
  refine o_iconst dL_law_392 ic_1 ?_
  refine o_iadd dL_law_393 ?_
  refine o_sld dL_law_394 rfl (sc_in (j := 1) (by omega) hL) ?_
  generalize hg1 : xs (nI i + 1).toNatClampNeg = a1
  refine o_aload_n dL_law_395 rfl rfl ?_
  refine o_iload_n dL_law_396 rfl rfl ?_
  refine o_iconst dL_law_397 ic_2 ?_
  refine o_iadd dL_law_398 ?_
  refine o_sld dL_law_399 rfl (sc_in (j := 2) (by omega) hL) ?_
  generalize hg2 : xs (nI i + 2).toNatClampNeg = a2
  have hG : GI (s_sets 51 a1 a2 σ) := g_wants hσ
  obtain ⟨⟨v, hv⟩, hI⟩ := hG
  refine law_x (σ := σ) (asc := [.int a1, .int a2]) (res := s_sets 51 a1 a2 σ) (tX4_wants hS) ⟨rfl, rfl⟩ dL_law_400 wd404 cvX4_wants rfl ⟨(Nat.le_of_ble_eq_true rfl), (Nat.le_of_ble_eq_true rfl)⟩ hcX4 rfl rfl (Nat.le_of_ble_eq_true rfl) hk hn (fun n1 n2 n3 n4 => ?_)
  rw [hv]
  refine o_aload_n dL_law_403 rfl rfl ?_
  refine o_aload_n dL_law_404 rfl rfl ?_
  refine o_iload_n dL_law_405 rfl rfl ?_
  refine o_iconst dL_law_406 ic_1 ?_
  refine o_iadd dL_law_407 ?_
  refine o_sld dL_law_408 rfl (sc_in (j := 1) (by omega) hL) ?_
  rw [hg1]
  refine o_aload_n dL_law_409 rfl rfl ?_
  refine o_iload_n dL_law_410 rfl rfl ?_
  refine o_iconst dL_law_411 ic_2 ?_
  refine o_iadd dL_law_412 ?_
  refine o_sld dL_law_413 rfl (sc_in (j := 2) (by omega) hL) ?_
  rw [hg2]
  refine law_m (τ := σ) (asc := [.int a1, .int a2]) (res := s_sets 51 a1 a2 σ) (tX5_wants hS) ⟨rfl, rfl⟩ dL_law_414 wd864 cvX5_wants rfl ⟨(Nat.le_of_ble_eq_true rfl), (Nat.le_of_ble_eq_true rfl)⟩ hcX5 rfl rfl (Nat.le_of_ble_eq_true rfl) hk hn (fun p1 p2 p3 p4 p5 p6 => ?_)
  rw [hv]
  exact o_icmp_eq (tgt := 1300) dL_law_417 (by decide) (fun _ => hN _ _ _ _ _ _ _ _ _ _ _ hI) (fun c => absurd rfl c)
theorem lwc_8 {nm : String} {L k n i : Nat} {xs : Nat → Int32} {P : Option Value → PW → Prop} (hk : k ≤ 600000) (hn : n ≤ 7302250) (h6 : i + 6 ≤ L) (hL : L ≤ 3072) {σ : St} (hσ : Inv σ) (hN : ∀ (τ : St) (m mw mf ga m2 wa fr : Nat → Int32) (pl : Int32) (nu : Nat → Int32) (sd : Int32), Inv τ → Ok (mLw nm) (some (L, xs)) 1300 [some (.ref 999), some (.ref 0), some (.ref 44), some (.int (nI i))] [] (lwW τ m mw mf ga τ m2 wa fr pl nu sd) k n P) {m mw mf ga m2 wa fr : Nat → Int32} {pl : Int32} {nu : Nat → Int32} {sd : Int32} : Ok (mLw nm) (some (L, xs)) 422 [some (.ref 999), some (.ref 0), some (.ref 44), some (.int (nI i))] [] (lwW σ m mw mf ga σ m2 wa fr pl nu sd) k n P := by
  have hS := hσ.1
  refine o_aload_n dL_law_422 rfl rfl ?_
  refine o_aload_n dL_law_423 rfl rfl ?_
  refine o_iload_n dL_law_424 rfl rfl ?_
  refine o_iconst dL_law_425 ic_1 ?_
  refine o_iadd dL_law_426 ?_
  refine o_sld dL_law_427 rfl (sc_in (j := 1) (by omega) hL) ?_
  generalize hg1 : xs (nI i + 1).toNatClampNeg = a1
  refine o_aload_n dL_law_428 rfl rfl ?_
  refine o_iload_n dL_law_429 rfl rfl ?_
  refine o_iconst dL_law_430 ic_2 ?_
  refine o_iadd dL_law_431 ?_
  refine o_sld dL_law_432 rfl (sc_in (j := 2) (by omega) hL) ?_
  generalize hg2 : xs (nI i + 2).toNatClampNeg = a2
  have hG : GI (s_moods a1 a2 σ) := g_moods hσ
  obtain ⟨⟨v, hv⟩, hI⟩ := hG
  refine law_x (σ := σ) (asc := [.int a1, .int a2]) (res := s_moods a1 a2 σ) (tX4_moods hS) ⟨rfl, rfl⟩ dL_law_433 wd408 cvX4_moods rfl ⟨(Nat.le_of_ble_eq_true rfl), (Nat.le_of_ble_eq_true rfl)⟩ hcX4 rfl rfl (Nat.le_of_ble_eq_true rfl) hk hn (fun n1 n2 n3 n4 => ?_)
  rw [hv]
  refine o_aload_n dL_law_436 rfl rfl ?_
  refine o_aload_n dL_law_437 rfl rfl ?_
  refine o_iload_n dL_law_438 rfl rfl ?_
  refine o_iconst dL_law_439 ic_1 ?_
  refine o_iadd dL_law_440 ?_
  refine o_sld dL_law_441 rfl (sc_in (j := 1) (by omega) hL) ?_
  rw [hg1]
  refine o_aload_n dL_law_442 rfl rfl ?_
  refine o_iload_n dL_law_443 rfl rfl ?_
  refine o_iconst dL_law_444 ic_2 ?_
  refine o_iadd dL_law_445 ?_
  refine o_sld dL_law_446 rfl (sc_in (j := 2) (by omega) hL) ?_
  rw [hg2]
  refine law_m (τ := σ) (asc := [.int a1, .int a2]) (res := s_moods a1 a2 σ) (tX5_moods hS) ⟨rfl, rfl⟩ dL_law_447 wd868 cvX5_moods rfl ⟨(Nat.le_of_ble_eq_true rfl), (Nat.le_of_ble_eq_true rfl)⟩ hcX5 rfl rfl (Nat.le_of_ble_eq_true rfl) hk hn (fun p1 p2 p3 p4 p5 p6 => ?_)
  rw [hv]
  exact o_icmp_eq (tgt := 1300) dL_law_450 (by decide) (fun _ => hN _ _ _ _ _ _ _ _ _ _ _ hI) (fun c => absurd rfl c)
theorem lwc_9 {nm : String} {L k n i : Nat} {xs : Nat → Int32} {P : Option Value → PW → Prop} (hk : k ≤ 600000) (hn : n ≤ 7302250) (h6 : i + 6 ≤ L) (hL : L ≤ 3072) {σ : St} (hσ : Inv σ) (hN : ∀ (τ : St) (m mw mf ga m2 wa fr : Nat → Int32) (pl : Int32) (nu : Nat → Int32) (sd : Int32), Inv τ → Ok (mLw nm) (some (L, xs)) 1300 [some (.ref 999), some (.ref 0), some (.ref 44), some (.int (nI i))] [] (lwW τ m mw mf ga τ m2 wa fr pl nu sd) k n P) {m mw mf ga m2 wa fr : Nat → Int32} {pl : Int32} {nu : Nat → Int32} {sd : Int32} : Ok (mLw nm) (some (L, xs)) 455 [some (.ref 999), some (.ref 0), some (.ref 44), some (.int (nI i))] [] (lwW σ m mw mf ga σ m2 wa fr pl nu sd) k n P := by
  have hS := hσ.1
  refine o_aload_n dL_law_455 rfl rfl ?_
  refine o_aload_n dL_law_456 rfl rfl ?_
  refine o_iload_n dL_law_457 rfl rfl ?_
  refine o_iconst dL_law_458 ic_1 ?_
  refine o_iadd dL_law_459 ?_
  refine o_sld dL_law_460 rfl (sc_in (j := 1) (by omega) hL) ?_
  generalize hg1 : xs (nI i + 1).toNatClampNeg = a1
  refine o_aload_n dL_law_461 rfl rfl ?_
  refine o_iload_n dL_law_462 rfl rfl ?_
  refine o_iconst dL_law_463 ic_2 ?_
  refine o_iadd dL_law_464 ?_
  refine o_sld dL_law_465 rfl (sc_in (j := 2) (by omega) hL) ?_
  generalize hg2 : xs (nI i + 2).toNatClampNeg = a2
  refine o_aload_n dL_law_466 rfl rfl ?_
  refine o_iload_n dL_law_467 rfl rfl ?_
  refine o_iconst dL_law_468 ic_3 ?_
  refine o_iadd dL_law_469 ?_
  refine o_sld dL_law_470 rfl (sc_in (j := 3) (by omega) hL) ?_
  generalize hg3 : xs (nI i + 3).toNatClampNeg = a3
  have hG : GI (s_changes a1 a2 a3 σ) := g_changes hσ
  obtain ⟨⟨v, hv⟩, hI⟩ := hG
  refine law_x (σ := σ) (asc := [.int a1, .int a2, .int a3]) (res := s_changes a1 a2 a3 σ) (tX4_changes hS) ⟨rfl, rfl⟩ dL_law_471 wd416 cvX4_changes rfl ⟨(Nat.le_of_ble_eq_true rfl), (Nat.le_of_ble_eq_true rfl)⟩ hcX4 rfl rfl (Nat.le_of_ble_eq_true rfl) hk hn (fun n1 n2 n3 n4 => ?_)
  rw [hv]
  refine o_aload_n dL_law_474 rfl rfl ?_
  refine o_aload_n dL_law_475 rfl rfl ?_
  refine o_iload_n dL_law_476 rfl rfl ?_
  refine o_iconst dL_law_477 ic_1 ?_
  refine o_iadd dL_law_478 ?_
  refine o_sld dL_law_479 rfl (sc_in (j := 1) (by omega) hL) ?_
  rw [hg1]
  refine o_aload_n dL_law_480 rfl rfl ?_
  refine o_iload_n dL_law_481 rfl rfl ?_
  refine o_iconst dL_law_482 ic_2 ?_
  refine o_iadd dL_law_483 ?_
  refine o_sld dL_law_484 rfl (sc_in (j := 2) (by omega) hL) ?_
  rw [hg2]
  refine o_aload_n dL_law_485 rfl rfl ?_
  refine o_iload_n dL_law_486 rfl rfl ?_
  refine o_iconst dL_law_487 ic_3 ?_
  refine o_iadd dL_law_488 ?_
  refine o_sld dL_law_489 rfl (sc_in (j := 3) (by omega) hL) ?_
  rw [hg3]
  refine law_m (τ := σ) (asc := [.int a1, .int a2, .int a3]) (res := s_changes a1 a2 a3 σ) (tX5_changes hS) ⟨rfl, rfl⟩ dL_law_490 wd875 cvX5_changes rfl ⟨(Nat.le_of_ble_eq_true rfl), (Nat.le_of_ble_eq_true rfl)⟩ hcX5 rfl rfl (Nat.le_of_ble_eq_true rfl) hk hn (fun p1 p2 p3 p4 p5 p6 => ?_)
  rw [hv]
  exact o_icmp_eq (tgt := 1300) dL_law_493 (by decide) (fun _ => hN _ _ _ _ _ _ _ _ _ _ _ hI) (fun c => absurd rfl c)
theorem lwc_10 {nm : String} {L k n i : Nat} {xs : Nat → Int32} {P : Option Value → PW → Prop} (hk : k ≤ 600000) (hn : n ≤ 7302250) (h6 : i + 6 ≤ L) (hL : L ≤ 3072) {σ : St} (hσ : Inv σ) (hN : ∀ (τ : St) (m mw mf ga m2 wa fr : Nat → Int32) (pl : Int32) (nu : Nat → Int32) (sd : Int32), Inv τ → Ok (mLw nm) (some (L, xs)) 1300 [some (.ref 999), some (.ref 0), some (.ref 44), some (.int (nI i))] [] (lwW τ m mw mf ga τ m2 wa fr pl nu sd) k n P) {m mw mf ga m2 wa fr : Nat → Int32} {pl : Int32} {nu : Nat → Int32} {sd : Int32} : Ok (mLw nm) (some (L, xs)) 498 [some (.ref 999), some (.ref 0), some (.ref 44), some (.int (nI i))] [] (lwW σ m mw mf ga σ m2 wa fr pl nu sd) k n P := by
  have hS := hσ.1
  refine o_aload_n dL_law_498 rfl rfl ?_
  refine o_aload_n dL_law_499 rfl rfl ?_
  refine o_iload_n dL_law_500 rfl rfl ?_
  refine o_iconst dL_law_501 ic_1 ?_
  refine o_iadd dL_law_502 ?_
  refine o_sld dL_law_503 rfl (sc_in (j := 1) (by omega) hL) ?_
  generalize hg1 : xs (nI i + 1).toNatClampNeg = a1
  have hG : GI (s_hours a1 σ) := g_hours hσ
  obtain ⟨⟨v, hv⟩, hI⟩ := hG
  refine law_x (σ := σ) (asc := [.int a1]) (res := s_hours a1 σ) (tX4_hours hS) ⟨rfl, rfl⟩ dL_law_504 wd420 cvX4_hours rfl ⟨(Nat.le_of_ble_eq_true rfl), (Nat.le_of_ble_eq_true rfl)⟩ hcX4 rfl rfl (Nat.le_of_ble_eq_true rfl) hk hn (fun n1 n2 n3 n4 => ?_)
  rw [hv]
  refine o_aload_n dL_law_507 rfl rfl ?_
  refine o_aload_n dL_law_508 rfl rfl ?_
  refine o_iload_n dL_law_509 rfl rfl ?_
  refine o_iconst dL_law_510 ic_1 ?_
  refine o_iadd dL_law_511 ?_
  refine o_sld dL_law_512 rfl (sc_in (j := 1) (by omega) hL) ?_
  rw [hg1]
  refine law_m (τ := σ) (asc := [.int a1]) (res := s_hours a1 σ) (tX5_hours hS) ⟨rfl, rfl⟩ dL_law_513 wd879 cvX5_hours rfl ⟨(Nat.le_of_ble_eq_true rfl), (Nat.le_of_ble_eq_true rfl)⟩ hcX5 rfl rfl (Nat.le_of_ble_eq_true rfl) hk hn (fun p1 p2 p3 p4 p5 p6 => ?_)
  rw [hv]
  exact o_icmp_eq (tgt := 1300) dL_law_516 (by decide) (fun _ => hN _ _ _ _ _ _ _ _ _ _ _ hI) (fun c => absurd rfl c)
theorem lwc_11 {nm : String} {L k n i : Nat} {xs : Nat → Int32} {P : Option Value → PW → Prop} (hk : k ≤ 600000) (hn : n ≤ 7302250) (h6 : i + 6 ≤ L) (hL : L ≤ 3072) {σ : St} (hσ : Inv σ) (hN : ∀ (τ : St) (m mw mf ga m2 wa fr : Nat → Int32) (pl : Int32) (nu : Nat → Int32) (sd : Int32), Inv τ → Ok (mLw nm) (some (L, xs)) 1300 [some (.ref 999), some (.ref 0), some (.ref 44), some (.int (nI i))] [] (lwW τ m mw mf ga τ m2 wa fr pl nu sd) k n P) {m mw mf ga m2 wa fr : Nat → Int32} {pl : Int32} {nu : Nat → Int32} {sd : Int32} : Ok (mLw nm) (some (L, xs)) 521 [some (.ref 999), some (.ref 0), some (.ref 44), some (.int (nI i))] [] (lwW σ m mw mf ga σ m2 wa fr pl nu sd) k n P := by
  have hS := hσ.1
  refine o_aload_n dL_law_521 rfl rfl ?_
  refine o_aload_n dL_law_522 rfl rfl ?_
  refine o_iload_n dL_law_523 rfl rfl ?_
  refine o_iconst dL_law_524 ic_1 ?_
  refine o_iadd dL_law_525 ?_
  refine o_sld dL_law_526 rfl (sc_in (j := 1) (by omega) hL) ?_
  generalize hg1 : xs (nI i + 1).toNatClampNeg = a1
  refine o_aload_n dL_law_527 rfl rfl ?_
  refine o_iload_n dL_law_528 rfl rfl ?_
  refine o_iconst dL_law_529 ic_2 ?_
  refine o_iadd dL_law_530 ?_
  refine o_sld dL_law_531 rfl (sc_in (j := 2) (by omega) hL) ?_
  generalize hg2 : xs (nI i + 2).toNatClampNeg = a2
  refine o_aload_n dL_law_532 rfl rfl ?_
  refine o_iload_n dL_law_533 rfl rfl ?_
  refine o_iconst dL_law_534 ic_3 ?_
  refine o_iadd dL_law_535 ?_
  refine o_sld dL_law_536 rfl (sc_in (j := 3) (by omega) hL) ?_
  generalize hg3 : xs (nI i + 3).toNatClampNeg = a3
  have hG : GI (s_personThen a1 a2 a3 σ) := g_personThen hσ
  obtain ⟨⟨v, hv⟩, hI⟩ := hG
  refine law_x (σ := σ) (asc := [.int a1, .int a2, .int a3]) (res := s_personThen a1 a2 a3 σ) (tX4_personThen hS) ⟨rfl, rfl⟩ dL_law_537 wd439 cvX4_personThen rfl ⟨(Nat.le_of_ble_eq_true rfl), (Nat.le_of_ble_eq_true rfl)⟩ hcX4 rfl rfl (Nat.le_of_ble_eq_true rfl) hk hn (fun n1 n2 n3 n4 => ?_)
  rw [hv]
  refine o_aload_n dL_law_540 rfl rfl ?_
  refine o_aload_n dL_law_541 rfl rfl ?_
  refine o_iload_n dL_law_542 rfl rfl ?_
  refine o_iconst dL_law_543 ic_1 ?_
  refine o_iadd dL_law_544 ?_
  refine o_sld dL_law_545 rfl (sc_in (j := 1) (by omega) hL) ?_
  rw [hg1]
  refine o_aload_n dL_law_546 rfl rfl ?_
  refine o_iload_n dL_law_547 rfl rfl ?_
  refine o_iconst dL_law_548 ic_2 ?_
  refine o_iadd dL_law_549 ?_
  refine o_sld dL_law_550 rfl (sc_in (j := 2) (by omega) hL) ?_
  rw [hg2]
  refine o_aload_n dL_law_551 rfl rfl ?_
  refine o_iload_n dL_law_552 rfl rfl ?_
  refine o_iconst dL_law_553 ic_3 ?_
  refine o_iadd dL_law_554 ?_
  refine o_sld dL_law_555 rfl (sc_in (j := 3) (by omega) hL) ?_
  rw [hg3]
  refine law_m (τ := σ) (asc := [.int a1, .int a2, .int a3]) (res := s_personThen a1 a2 a3 σ) (tX5_personThen hS) ⟨rfl, rfl⟩ dL_law_556 wd889 cvX5_personThen rfl ⟨(Nat.le_of_ble_eq_true rfl), (Nat.le_of_ble_eq_true rfl)⟩ hcX5 rfl rfl (Nat.le_of_ble_eq_true rfl) hk hn (fun p1 p2 p3 p4 p5 p6 => ?_)
  rw [hv]
  exact o_icmp_eq (tgt := 1300) dL_law_559 (by decide) (fun _ => hN _ _ _ _ _ _ _ _ _ _ _ hI) (fun c => absurd rfl c)
theorem lwc_12 {nm : String} {L k n i : Nat} {xs : Nat → Int32} {P : Option Value → PW → Prop} (hk : k ≤ 600000) (hn : n ≤ 7302250) (h6 : i + 6 ≤ L) (hL : L ≤ 3072) {σ : St} (hσ : Inv σ) (hN : ∀ (τ : St) (m mw mf ga m2 wa fr : Nat → Int32) (pl : Int32) (nu : Nat → Int32) (sd : Int32), Inv τ → Ok (mLw nm) (some (L, xs)) 1300 [some (.ref 999), some (.ref 0), some (.ref 44), some (.int (nI i))] [] (lwW τ m mw mf ga τ m2 wa fr pl nu sd) k n P) {m mw mf ga m2 wa fr : Nat → Int32} {pl : Int32} {nu : Nat → Int32} {sd : Int32} : Ok (mLw nm) (some (L, xs)) 564 [some (.ref 999), some (.ref 0), some (.ref 44), some (.int (nI i))] [] (lwW σ m mw mf ga σ m2 wa fr pl nu sd) k n P := by
  have hS := hσ.1
  refine o_aload_n dL_law_564 rfl rfl ?_
  refine o_aload_n dL_law_565 rfl rfl ?_
  refine o_iload_n dL_law_566 rfl rfl ?_
  refine o_iconst dL_law_567 ic_1 ?_
  refine o_iadd dL_law_568 ?_
  refine o_sld dL_law_569 rfl (sc_in (j := 1) (by omega) hL) ?_
  generalize hg1 : xs (nI i + 1).toNatClampNeg = a1
  have hG : GI (s_letThen a1 σ) := g_letThen hσ
  obtain ⟨⟨v, hv⟩, hI⟩ := hG
  refine law_x (σ := σ) (asc := [.int a1]) (res := s_letThen a1 σ) (tX4_letThen hS) ⟨rfl, rfl⟩ dL_law_570 wd446 cvX4_letThen rfl ⟨(Nat.le_of_ble_eq_true rfl), (Nat.le_of_ble_eq_true rfl)⟩ hcX4 rfl rfl (Nat.le_of_ble_eq_true rfl) hk hn (fun n1 n2 n3 n4 => ?_)
  rw [hv]
  refine o_aload_n dL_law_573 rfl rfl ?_
  refine o_aload_n dL_law_574 rfl rfl ?_
  refine o_iload_n dL_law_575 rfl rfl ?_
  refine o_iconst dL_law_576 ic_1 ?_
  refine o_iadd dL_law_577 ?_
  refine o_sld dL_law_578 rfl (sc_in (j := 1) (by omega) hL) ?_
  rw [hg1]
  refine law_m (τ := σ) (asc := [.int a1]) (res := s_letThen a1 σ) (tX5_letThen hS) ⟨rfl, rfl⟩ dL_law_579 wd897 cvX5_letThen rfl ⟨(Nat.le_of_ble_eq_true rfl), (Nat.le_of_ble_eq_true rfl)⟩ hcX5 rfl rfl (Nat.le_of_ble_eq_true rfl) hk hn (fun p1 p2 p3 p4 p5 p6 => ?_)
  rw [hv]
  exact o_icmp_eq (tgt := 1300) dL_law_582 (by decide) (fun _ => hN _ _ _ _ _ _ _ _ _ _ _ hI) (fun c => absurd rfl c)
theorem lwc_13 {nm : String} {L k n i : Nat} {xs : Nat → Int32} {P : Option Value → PW → Prop} (hk : k ≤ 600000) (hn : n ≤ 7302250) (h6 : i + 6 ≤ L) (hL : L ≤ 3072) {σ : St} (hσ : Inv σ) (hN : ∀ (τ : St) (m mw mf ga m2 wa fr : Nat → Int32) (pl : Int32) (nu : Nat → Int32) (sd : Int32), Inv τ → Ok (mLw nm) (some (L, xs)) 1300 [some (.ref 999), some (.ref 0), some (.ref 44), some (.int (nI i))] [] (lwW τ m mw mf ga τ m2 wa fr pl nu sd) k n P) {m mw mf ga m2 wa fr : Nat → Int32} {pl : Int32} {nu : Nat → Int32} {sd : Int32} : Ok (mLw nm) (some (L, xs)) 587 [some (.ref 999), some (.ref 0), some (.ref 44), some (.int (nI i))] [] (lwW σ m mw mf ga σ m2 wa fr pl nu sd) k n P := by
  have hS := hσ.1
  refine o_aload_n dL_law_587 rfl rfl ?_
  refine o_aload_n dL_law_588 rfl rfl ?_
  refine o_iload_n dL_law_589 rfl rfl ?_
  refine o_iconst dL_law_590 ic_1 ?_
  refine o_iadd dL_law_591 ?_
  refine o_sld dL_law_592 rfl (sc_in (j := 1) (by omega) hL) ?_
  generalize hg1 : xs (nI i + 1).toNatClampNeg = a1
  refine o_aload_n dL_law_593 rfl rfl ?_
  refine o_iload_n dL_law_594 rfl rfl ?_
  refine o_iconst dL_law_595 ic_2 ?_
  refine o_iadd dL_law_596 ?_
  refine o_sld dL_law_597 rfl (sc_in (j := 2) (by omega) hL) ?_
  generalize hg2 : xs (nI i + 2).toNatClampNeg = a2
  have hG : GI (s_comes a1 a2 σ) := g_comes hσ
  obtain ⟨⟨v, hv⟩, hI⟩ := hG
  refine law_x (σ := σ) (asc := [.int a1, .int a2]) (res := s_comes a1 a2 σ) (tX4_comes hS) ⟨rfl, rfl⟩ dL_law_598 wd450 cvX4_comes rfl ⟨(Nat.le_of_ble_eq_true rfl), (Nat.le_of_ble_eq_true rfl)⟩ hcX4 rfl rfl (Nat.le_of_ble_eq_true rfl) hk hn (fun n1 n2 n3 n4 => ?_)
  rw [hv]
  refine o_aload_n dL_law_601 rfl rfl ?_
  refine o_aload_n dL_law_602 rfl rfl ?_
  refine o_iload_n dL_law_603 rfl rfl ?_
  refine o_iconst dL_law_604 ic_1 ?_
  refine o_iadd dL_law_605 ?_
  refine o_sld dL_law_606 rfl (sc_in (j := 1) (by omega) hL) ?_
  rw [hg1]
  refine o_aload_n dL_law_607 rfl rfl ?_
  refine o_iload_n dL_law_608 rfl rfl ?_
  refine o_iconst dL_law_609 ic_2 ?_
  refine o_iadd dL_law_610 ?_
  refine o_sld dL_law_611 rfl (sc_in (j := 2) (by omega) hL) ?_
  rw [hg2]
  refine law_m (τ := σ) (asc := [.int a1, .int a2]) (res := s_comes a1 a2 σ) (tX5_comes hS) ⟨rfl, rfl⟩ dL_law_612 wd901 cvX5_comes rfl ⟨(Nat.le_of_ble_eq_true rfl), (Nat.le_of_ble_eq_true rfl)⟩ hcX5 rfl rfl (Nat.le_of_ble_eq_true rfl) hk hn (fun p1 p2 p3 p4 p5 p6 => ?_)
  rw [hv]
  exact o_icmp_eq (tgt := 1300) dL_law_615 (by decide) (fun _ => hN _ _ _ _ _ _ _ _ _ _ _ hI) (fun c => absurd rfl c)
theorem lwc_14 {nm : String} {L k n i : Nat} {xs : Nat → Int32} {P : Option Value → PW → Prop} (hk : k ≤ 600000) (hn : n ≤ 7302250) (h6 : i + 6 ≤ L) (hL : L ≤ 3072) {σ : St} (hσ : Inv σ) (hN : ∀ (τ : St) (m mw mf ga m2 wa fr : Nat → Int32) (pl : Int32) (nu : Nat → Int32) (sd : Int32), Inv τ → Ok (mLw nm) (some (L, xs)) 1300 [some (.ref 999), some (.ref 0), some (.ref 44), some (.int (nI i))] [] (lwW τ m mw mf ga τ m2 wa fr pl nu sd) k n P) {m mw mf ga m2 wa fr : Nat → Int32} {pl : Int32} {nu : Nat → Int32} {sd : Int32} : Ok (mLw nm) (some (L, xs)) 620 [some (.ref 999), some (.ref 0), some (.ref 44), some (.int (nI i))] [] (lwW σ m mw mf ga σ m2 wa fr pl nu sd) k n P := by
  have hS := hσ.1
  refine o_aload_n dL_law_620 rfl rfl ?_
  refine o_aload_n dL_law_621 rfl rfl ?_
  refine o_iload_n dL_law_622 rfl rfl ?_
  refine o_iconst dL_law_623 ic_1 ?_
  refine o_iadd dL_law_624 ?_
  refine o_sld dL_law_625 rfl (sc_in (j := 1) (by omega) hL) ?_
  generalize hg1 : xs (nI i + 1).toNatClampNeg = a1
  have hG : GI (s_home a1 σ) := g_home hσ
  obtain ⟨⟨v, hv⟩, hI⟩ := hG
  refine law_x (σ := σ) (asc := [.int a1]) (res := s_home a1 σ) (tX4_home hS) ⟨rfl, rfl⟩ dL_law_626 wd458 cvX4_home rfl ⟨(Nat.le_of_ble_eq_true rfl), (Nat.le_of_ble_eq_true rfl)⟩ hcX4 rfl rfl (Nat.le_of_ble_eq_true rfl) hk hn (fun n1 n2 n3 n4 => ?_)
  rw [hv]
  refine o_aload_n dL_law_629 rfl rfl ?_
  refine o_aload_n dL_law_630 rfl rfl ?_
  refine o_iload_n dL_law_631 rfl rfl ?_
  refine o_iconst dL_law_632 ic_1 ?_
  refine o_iadd dL_law_633 ?_
  refine o_sld dL_law_634 rfl (sc_in (j := 1) (by omega) hL) ?_
  rw [hg1]
  refine law_m (τ := σ) (asc := [.int a1]) (res := s_home a1 σ) (tX5_home hS) ⟨rfl, rfl⟩ dL_law_635 wd909 cvX5_home rfl ⟨(Nat.le_of_ble_eq_true rfl), (Nat.le_of_ble_eq_true rfl)⟩ hcX5 rfl rfl (Nat.le_of_ble_eq_true rfl) hk hn (fun p1 p2 p3 p4 p5 p6 => ?_)
  rw [hv]
  exact o_icmp_eq (tgt := 1300) dL_law_638 (by decide) (fun _ => hN _ _ _ _ _ _ _ _ _ _ _ hI) (fun c => absurd rfl c)
theorem lwc_15 {nm : String} {L k n i : Nat} {xs : Nat → Int32} {P : Option Value → PW → Prop} (hk : k ≤ 600000) (hn : n ≤ 7302250) (h6 : i + 6 ≤ L) (hL : L ≤ 3072) {σ : St} (hσ : Inv σ) (hN : ∀ (τ : St) (m mw mf ga m2 wa fr : Nat → Int32) (pl : Int32) (nu : Nat → Int32) (sd : Int32), Inv τ → Ok (mLw nm) (some (L, xs)) 1300 [some (.ref 999), some (.ref 0), some (.ref 44), some (.int (nI i))] [] (lwW τ m mw mf ga τ m2 wa fr pl nu sd) k n P) {m mw mf ga m2 wa fr : Nat → Int32} {pl : Int32} {nu : Nat → Int32} {sd : Int32} : Ok (mLw nm) (some (L, xs)) 643 [some (.ref 999), some (.ref 0), some (.ref 44), some (.int (nI i))] [] (lwW σ m mw mf ga σ m2 wa fr pl nu sd) k n P := by
  have hS := hσ.1
  refine o_aload_n dL_law_643 rfl rfl ?_
  have hG : GI (s_shutIn  σ) := g_shutIn hσ
  obtain ⟨⟨v, hv⟩, hI⟩ := hG
  refine law_x (σ := σ) (asc := []) (res := s_shutIn  σ) (tX4_shutIn hS) ⟨rfl, rfl⟩ dL_law_644 wd466 cvX4_shutIn rfl ⟨(Nat.le_of_ble_eq_true rfl), (Nat.le_of_ble_eq_true rfl)⟩ hcX4 rfl rfl (Nat.le_of_ble_eq_true rfl) hk hn (fun n1 n2 n3 n4 => ?_)
  rw [hv]
  refine o_aload_n dL_law_647 rfl rfl ?_
  refine law_m (τ := σ) (asc := []) (res := s_shutIn  σ) (tX5_shutIn hS) ⟨rfl, rfl⟩ dL_law_648 wd917 cvX5_shutIn rfl ⟨(Nat.le_of_ble_eq_true rfl), (Nat.le_of_ble_eq_true rfl)⟩ hcX5 rfl rfl (Nat.le_of_ble_eq_true rfl) hk hn (fun p1 p2 p3 p4 p5 p6 => ?_)
  rw [hv]
  exact o_icmp_eq (tgt := 1300) dL_law_651 (by decide) (fun _ => hN _ _ _ _ _ _ _ _ _ _ _ hI) (fun c => absurd rfl c)
theorem lwc_16 {nm : String} {L k n i : Nat} {xs : Nat → Int32} {P : Option Value → PW → Prop} (hk : k ≤ 600000) (hn : n ≤ 7302250) (h6 : i + 6 ≤ L) (hL : L ≤ 3072) {σ : St} (hσ : Inv σ) (hN : ∀ (τ : St) (m mw mf ga m2 wa fr : Nat → Int32) (pl : Int32) (nu : Nat → Int32) (sd : Int32), Inv τ → Ok (mLw nm) (some (L, xs)) 1300 [some (.ref 999), some (.ref 0), some (.ref 44), some (.int (nI i))] [] (lwW τ m mw mf ga τ m2 wa fr pl nu sd) k n P) {m mw mf ga m2 wa fr : Nat → Int32} {pl : Int32} {nu : Nat → Int32} {sd : Int32} : Ok (mLw nm) (some (L, xs)) 656 [some (.ref 999), some (.ref 0), some (.ref 44), some (.int (nI i))] [] (lwW σ m mw mf ga σ m2 wa fr pl nu sd) k n P := by
  have hS := hσ.1
  refine o_aload_n dL_law_656 rfl rfl ?_
  have hG : GI (s_stuck  σ) := g_stuck hσ
  obtain ⟨⟨v, hv⟩, hI⟩ := hG
  refine law_x (σ := σ) (asc := []) (res := s_stuck  σ) (tX4_stuck hS) ⟨rfl, rfl⟩ dL_law_657 wd474 cvX4_stuck rfl ⟨(Nat.le_of_ble_eq_true rfl), (Nat.le_of_ble_eq_true rfl)⟩ hcX4 rfl rfl (Nat.le_of_ble_eq_true rfl) hk hn (fun n1 n2 n3 n4 => ?_)
  rw [hv]
  refine o_aload_n dL_law_660 rfl rfl ?_
  refine law_m (τ := σ) (asc := []) (res := s_stuck  σ) (tX5_stuck hS) ⟨rfl, rfl⟩ dL_law_661 wd921 cvX5_stuck rfl ⟨(Nat.le_of_ble_eq_true rfl), (Nat.le_of_ble_eq_true rfl)⟩ hcX5 rfl rfl (Nat.le_of_ble_eq_true rfl) hk hn (fun p1 p2 p3 p4 p5 p6 => ?_)
  rw [hv]
  exact o_icmp_eq (tgt := 1300) dL_law_664 (by decide) (fun _ => hN _ _ _ _ _ _ _ _ _ _ _ hI) (fun c => absurd rfl c)
theorem lwc_17 {nm : String} {L k n i : Nat} {xs : Nat → Int32} {P : Option Value → PW → Prop} (hk : k ≤ 600000) (hn : n ≤ 7302250) (h6 : i + 6 ≤ L) (hL : L ≤ 3072) {σ : St} (hσ : Inv σ) (hN : ∀ (τ : St) (m mw mf ga m2 wa fr : Nat → Int32) (pl : Int32) (nu : Nat → Int32) (sd : Int32), Inv τ → Ok (mLw nm) (some (L, xs)) 1300 [some (.ref 999), some (.ref 0), some (.ref 44), some (.int (nI i))] [] (lwW τ m mw mf ga τ m2 wa fr pl nu sd) k n P) {m mw mf ga m2 wa fr : Nat → Int32} {pl : Int32} {nu : Nat → Int32} {sd : Int32} : Ok (mLw nm) (some (L, xs)) 669 [some (.ref 999), some (.ref 0), some (.ref 44), some (.int (nI i))] [] (lwW σ m mw mf ga σ m2 wa fr pl nu sd) k n P := by
  have hS := hσ.1
  refine o_aload_n dL_law_669 rfl rfl ?_
  refine o_aload_n dL_law_670 rfl rfl ?_
  refine o_iload_n dL_law_671 rfl rfl ?_
  refine o_iconst dL_law_672 ic_1 ?_
  refine o_iadd dL_law_673 ?_
  refine o_sld dL_law_674 rfl (sc_in (j := 1) (by omega) hL) ?_
  generalize hg1 : xs (nI i + 1).toNatClampNeg = a1
  refine o_aload_n dL_law_675 rfl rfl ?_
  refine o_iload_n dL_law_676 rfl rfl ?_
  refine o_iconst dL_law_677 ic_2 ?_
  refine o_iadd dL_law_678 ?_
  refine o_sld dL_law_679 rfl (sc_in (j := 2) (by omega) hL) ?_
  generalize hg2 : xs (nI i + 2).toNatClampNeg = a2
  refine o_aload_n dL_law_680 rfl rfl ?_
  refine o_iload_n dL_law_681 rfl rfl ?_
  refine o_iconst dL_law_682 ic_3 ?_
  refine o_iadd dL_law_683 ?_
  refine o_sld dL_law_684 rfl (sc_in (j := 3) (by omega) hL) ?_
  generalize hg3 : xs (nI i + 3).toNatClampNeg = a3
  have hG : GI (s_way a1 a2 a3 σ) := g_way hσ
  obtain ⟨⟨v, hv⟩, hI⟩ := hG
  refine law_x (σ := σ) (asc := [.int a1, .int a2, .int a3]) (res := s_way a1 a2 a3 σ) (tX4_way hS) ⟨rfl, rfl⟩ dL_law_685 wd478 cvX4_way rfl ⟨(Nat.le_of_ble_eq_true rfl), (Nat.le_of_ble_eq_true rfl)⟩ hcX4 rfl rfl (Nat.le_of_ble_eq_true rfl) hk hn (fun n1 n2 n3 n4 => ?_)
  rw [hv]
  refine o_aload_n dL_law_688 rfl rfl ?_
  refine o_aload_n dL_law_689 rfl rfl ?_
  refine o_iload_n dL_law_690 rfl rfl ?_
  refine o_iconst dL_law_691 ic_1 ?_
  refine o_iadd dL_law_692 ?_
  refine o_sld dL_law_693 rfl (sc_in (j := 1) (by omega) hL) ?_
  rw [hg1]
  refine o_aload_n dL_law_694 rfl rfl ?_
  refine o_iload_n dL_law_695 rfl rfl ?_
  refine o_iconst dL_law_696 ic_2 ?_
  refine o_iadd dL_law_697 ?_
  refine o_sld dL_law_698 rfl (sc_in (j := 2) (by omega) hL) ?_
  rw [hg2]
  refine o_aload_n dL_law_699 rfl rfl ?_
  refine o_iload_n dL_law_700 rfl rfl ?_
  refine o_iconst dL_law_701 ic_3 ?_
  refine o_iadd dL_law_702 ?_
  refine o_sld dL_law_703 rfl (sc_in (j := 3) (by omega) hL) ?_
  rw [hg3]
  refine law_m (τ := σ) (asc := [.int a1, .int a2, .int a3]) (res := s_way a1 a2 a3 σ) (tX5_way hS) ⟨rfl, rfl⟩ dL_law_704 wd932 cvX5_way rfl ⟨(Nat.le_of_ble_eq_true rfl), (Nat.le_of_ble_eq_true rfl)⟩ hcX5 rfl rfl (Nat.le_of_ble_eq_true rfl) hk hn (fun p1 p2 p3 p4 p5 p6 => ?_)
  rw [hv]
  exact o_icmp_eq (tgt := 1300) dL_law_707 (by decide) (fun _ => hN _ _ _ _ _ _ _ _ _ _ _ hI) (fun c => absurd rfl c)
theorem lwc_18 {nm : String} {L k n i : Nat} {xs : Nat → Int32} {P : Option Value → PW → Prop} (hk : k ≤ 600000) (hn : n ≤ 7302250) (h6 : i + 6 ≤ L) (hL : L ≤ 3072) {σ : St} (hσ : Inv σ) (hN : ∀ (τ : St) (m mw mf ga m2 wa fr : Nat → Int32) (pl : Int32) (nu : Nat → Int32) (sd : Int32), Inv τ → Ok (mLw nm) (some (L, xs)) 1300 [some (.ref 999), some (.ref 0), some (.ref 44), some (.int (nI i))] [] (lwW τ m mw mf ga τ m2 wa fr pl nu sd) k n P) {m mw mf ga m2 wa fr : Nat → Int32} {pl : Int32} {nu : Nat → Int32} {sd : Int32} : Ok (mLw nm) (some (L, xs)) 712 [some (.ref 999), some (.ref 0), some (.ref 44), some (.int (nI i))] [] (lwW σ m mw mf ga σ m2 wa fr pl nu sd) k n P := by
  have hS := hσ.1
  refine o_aload_n dL_law_712 rfl rfl ?_
  refine o_aload_n dL_law_713 rfl rfl ?_
  refine o_iload_n dL_law_714 rfl rfl ?_
  refine o_iconst dL_law_715 ic_1 ?_
  refine o_iadd dL_law_716 ?_
  refine o_sld dL_law_717 rfl (sc_in (j := 1) (by omega) hL) ?_
  generalize hg1 : xs (nI i + 1).toNatClampNeg = a1
  have hG : GI (s_round a1 σ) := g_round hσ
  obtain ⟨⟨v, hv⟩, hI⟩ := hG
  refine law_x (σ := σ) (asc := [.int a1]) (res := s_round a1 σ) (tX4_round hS) ⟨rfl, rfl⟩ dL_law_718 wd487 cvX4_round rfl ⟨(Nat.le_of_ble_eq_true rfl), (Nat.le_of_ble_eq_true rfl)⟩ hcX4 rfl rfl (Nat.le_of_ble_eq_true rfl) hk hn (fun n1 n2 n3 n4 => ?_)
  rw [hv]
  refine o_aload_n dL_law_721 rfl rfl ?_
  refine o_aload_n dL_law_722 rfl rfl ?_
  refine o_iload_n dL_law_723 rfl rfl ?_
  refine o_iconst dL_law_724 ic_1 ?_
  refine o_iadd dL_law_725 ?_
  refine o_sld dL_law_726 rfl (sc_in (j := 1) (by omega) hL) ?_
  rw [hg1]
  refine law_m (τ := σ) (asc := [.int a1]) (res := s_round a1 σ) (tX5_round hS) ⟨rfl, rfl⟩ dL_law_727 wd936 cvX5_round rfl ⟨(Nat.le_of_ble_eq_true rfl), (Nat.le_of_ble_eq_true rfl)⟩ hcX5 rfl rfl (Nat.le_of_ble_eq_true rfl) hk hn (fun p1 p2 p3 p4 p5 p6 => ?_)
  rw [hv]
  exact o_icmp_eq (tgt := 1300) dL_law_730 (by decide) (fun _ => hN _ _ _ _ _ _ _ _ _ _ _ hI) (fun c => absurd rfl c)
theorem lwc_19 {nm : String} {L k n i : Nat} {xs : Nat → Int32} {P : Option Value → PW → Prop} (hk : k ≤ 600000) (hn : n ≤ 7302250) (h6 : i + 6 ≤ L) (hL : L ≤ 3072) {σ : St} (hσ : Inv σ) (hN : ∀ (τ : St) (m mw mf ga m2 wa fr : Nat → Int32) (pl : Int32) (nu : Nat → Int32) (sd : Int32), Inv τ → Ok (mLw nm) (some (L, xs)) 1300 [some (.ref 999), some (.ref 0), some (.ref 44), some (.int (nI i))] [] (lwW τ m mw mf ga τ m2 wa fr pl nu sd) k n P) {m mw mf ga m2 wa fr : Nat → Int32} {pl : Int32} {nu : Nat → Int32} {sd : Int32} : Ok (mLw nm) (some (L, xs)) 735 [some (.ref 999), some (.ref 0), some (.ref 44), some (.int (nI i))] [] (lwW σ m mw mf ga σ m2 wa fr pl nu sd) k n P := by
  have hS := hσ.1
  refine o_aload_n dL_law_735 rfl rfl ?_
  refine o_aload_n dL_law_736 rfl rfl ?_
  refine o_iload_n dL_law_737 rfl rfl ?_
  refine o_iconst dL_law_738 ic_1 ?_
  refine o_iadd dL_law_739 ?_
  refine o_sld dL_law_740 rfl (sc_in (j := 1) (by omega) hL) ?_
  generalize hg1 : xs (nI i + 1).toNatClampNeg = a1
  have hG : GI (s_reach a1 σ) := g_reach hσ
  obtain ⟨⟨v, hv⟩, hI⟩ := hG
  refine law_x (σ := σ) (asc := [.int a1]) (res := s_reach a1 σ) (tX4_reach hS) ⟨rfl, rfl⟩ dL_law_741 wd491 cvX4_reach rfl ⟨(Nat.le_of_ble_eq_true rfl), (Nat.le_of_ble_eq_true rfl)⟩ hcX4 rfl rfl (Nat.le_of_ble_eq_true rfl) hk hn (fun n1 n2 n3 n4 => ?_)
  rw [hv]
  refine o_aload_n dL_law_744 rfl rfl ?_
  refine o_aload_n dL_law_745 rfl rfl ?_
  refine o_iload_n dL_law_746 rfl rfl ?_
  refine o_iconst dL_law_747 ic_1 ?_
  refine o_iadd dL_law_748 ?_
  refine o_sld dL_law_749 rfl (sc_in (j := 1) (by omega) hL) ?_
  rw [hg1]
  refine law_m (τ := σ) (asc := [.int a1]) (res := s_reach a1 σ) (tX5_reach hS) ⟨rfl, rfl⟩ dL_law_750 wd940 cvX5_reach rfl ⟨(Nat.le_of_ble_eq_true rfl), (Nat.le_of_ble_eq_true rfl)⟩ hcX5 rfl rfl (Nat.le_of_ble_eq_true rfl) hk hn (fun p1 p2 p3 p4 p5 p6 => ?_)
  rw [hv]
  exact o_icmp_eq (tgt := 1300) dL_law_753 (by decide) (fun _ => hN _ _ _ _ _ _ _ _ _ _ _ hI) (fun c => absurd rfl c)
theorem lwc_20 {nm : String} {L k n i : Nat} {xs : Nat → Int32} {P : Option Value → PW → Prop} (hk : k ≤ 600000) (hn : n ≤ 7302250) (h6 : i + 6 ≤ L) (hL : L ≤ 3072) {σ : St} (hσ : Inv σ) (hN : ∀ (τ : St) (m mw mf ga m2 wa fr : Nat → Int32) (pl : Int32) (nu : Nat → Int32) (sd : Int32), Inv τ → Ok (mLw nm) (some (L, xs)) 1300 [some (.ref 999), some (.ref 0), some (.ref 44), some (.int (nI i))] [] (lwW τ m mw mf ga τ m2 wa fr pl nu sd) k n P) {m mw mf ga m2 wa fr : Nat → Int32} {pl : Int32} {nu : Nat → Int32} {sd : Int32} : Ok (mLw nm) (some (L, xs)) 758 [some (.ref 999), some (.ref 0), some (.ref 44), some (.int (nI i))] [] (lwW σ m mw mf ga σ m2 wa fr pl nu sd) k n P := by
  have hS := hσ.1
  refine o_aload_n dL_law_758 rfl rfl ?_
  have hG : GI (s_open  σ) := g_open hσ
  obtain ⟨⟨v, hv⟩, hI⟩ := hG
  refine law_x (σ := σ) (asc := []) (res := s_open  σ) (tX4_open hS) ⟨rfl, rfl⟩ dL_law_759 wd495 cvX4_open rfl ⟨(Nat.le_of_ble_eq_true rfl), (Nat.le_of_ble_eq_true rfl)⟩ hcX4 rfl rfl (Nat.le_of_ble_eq_true rfl) hk hn (fun n1 n2 n3 n4 => ?_)
  rw [hv]
  refine o_aload_n dL_law_762 rfl rfl ?_
  refine law_m (τ := σ) (asc := []) (res := s_open  σ) (tX5_open hS) ⟨rfl, rfl⟩ dL_law_763 wd944 cvX5_open rfl ⟨(Nat.le_of_ble_eq_true rfl), (Nat.le_of_ble_eq_true rfl)⟩ hcX5 rfl rfl (Nat.le_of_ble_eq_true rfl) hk hn (fun p1 p2 p3 p4 p5 p6 => ?_)
  rw [hv]
  exact o_icmp_eq (tgt := 1300) dL_law_766 (by decide) (fun _ => hN _ _ _ _ _ _ _ _ _ _ _ hI) (fun c => absurd rfl c)
theorem lwc_21 {nm : String} {L k n i : Nat} {xs : Nat → Int32} {P : Option Value → PW → Prop} (hk : k ≤ 600000) (hn : n ≤ 7302250) (h6 : i + 6 ≤ L) (hL : L ≤ 3072) {σ : St} (hσ : Inv σ) (hN : ∀ (τ : St) (m mw mf ga m2 wa fr : Nat → Int32) (pl : Int32) (nu : Nat → Int32) (sd : Int32), Inv τ → Ok (mLw nm) (some (L, xs)) 1300 [some (.ref 999), some (.ref 0), some (.ref 44), some (.int (nI i))] [] (lwW τ m mw mf ga τ m2 wa fr pl nu sd) k n P) {m mw mf ga m2 wa fr : Nat → Int32} {pl : Int32} {nu : Nat → Int32} {sd : Int32} : Ok (mLw nm) (some (L, xs)) 771 [some (.ref 999), some (.ref 0), some (.ref 44), some (.int (nI i))] [] (lwW σ m mw mf ga σ m2 wa fr pl nu sd) k n P := by
  have hS := hσ.1
  refine o_aload_n dL_law_771 rfl rfl ?_
  refine o_aload_n dL_law_772 rfl rfl ?_
  refine o_iload_n dL_law_773 rfl rfl ?_
  refine o_iconst dL_law_774 ic_1 ?_
  refine o_iadd dL_law_775 ?_
  refine o_sld dL_law_776 rfl (sc_in (j := 1) (by omega) hL) ?_
  generalize hg1 : xs (nI i + 1).toNatClampNeg = a1
  refine o_aload_n dL_law_777 rfl rfl ?_
  refine o_iload_n dL_law_778 rfl rfl ?_
  refine o_iconst dL_law_779 ic_2 ?_
  refine o_iadd dL_law_780 ?_
  refine o_sld dL_law_781 rfl (sc_in (j := 2) (by omega) hL) ?_
  generalize hg2 : xs (nI i + 2).toNatClampNeg = a2
  have hG : GI (s_helper a1 a2 σ) := g_helper hσ
  obtain ⟨⟨v, hv⟩, hI⟩ := hG
  refine law_x (σ := σ) (asc := [.int a1, .int a2]) (res := s_helper a1 a2 σ) (tX4_helper hS) ⟨rfl, rfl⟩ dL_law_782 wd500 cvX4_helper rfl ⟨(Nat.le_of_ble_eq_true rfl), (Nat.le_of_ble_eq_true rfl)⟩ hcX4 rfl rfl (Nat.le_of_ble_eq_true rfl) hk hn (fun n1 n2 n3 n4 => ?_)
  rw [hv]
  refine o_aload_n dL_law_785 rfl rfl ?_
  refine o_aload_n dL_law_786 rfl rfl ?_
  refine o_iload_n dL_law_787 rfl rfl ?_
  refine o_iconst dL_law_788 ic_1 ?_
  refine o_iadd dL_law_789 ?_
  refine o_sld dL_law_790 rfl (sc_in (j := 1) (by omega) hL) ?_
  rw [hg1]
  refine o_aload_n dL_law_791 rfl rfl ?_
  refine o_iload_n dL_law_792 rfl rfl ?_
  refine o_iconst dL_law_793 ic_2 ?_
  refine o_iadd dL_law_794 ?_
  refine o_sld dL_law_795 rfl (sc_in (j := 2) (by omega) hL) ?_
  rw [hg2]
  refine law_m (τ := σ) (asc := [.int a1, .int a2]) (res := s_helper a1 a2 σ) (tX5_helper hS) ⟨rfl, rfl⟩ dL_law_796 wd948 cvX5_helper rfl ⟨(Nat.le_of_ble_eq_true rfl), (Nat.le_of_ble_eq_true rfl)⟩ hcX5 rfl rfl (Nat.le_of_ble_eq_true rfl) hk hn (fun p1 p2 p3 p4 p5 p6 => ?_)
  rw [hv]
  exact o_icmp_eq (tgt := 1300) dL_law_799 (by decide) (fun _ => hN _ _ _ _ _ _ _ _ _ _ _ hI) (fun c => absurd rfl c)
theorem lwc_22 {nm : String} {L k n i : Nat} {xs : Nat → Int32} {P : Option Value → PW → Prop} (hk : k ≤ 600000) (hn : n ≤ 7302250) (h6 : i + 6 ≤ L) (hL : L ≤ 3072) {σ : St} (hσ : Inv σ) (hN : ∀ (τ : St) (m mw mf ga m2 wa fr : Nat → Int32) (pl : Int32) (nu : Nat → Int32) (sd : Int32), Inv τ → Ok (mLw nm) (some (L, xs)) 1300 [some (.ref 999), some (.ref 0), some (.ref 44), some (.int (nI i))] [] (lwW τ m mw mf ga τ m2 wa fr pl nu sd) k n P) {m mw mf ga m2 wa fr : Nat → Int32} {pl : Int32} {nu : Nat → Int32} {sd : Int32} : Ok (mLw nm) (some (L, xs)) 804 [some (.ref 999), some (.ref 0), some (.ref 44), some (.int (nI i))] [] (lwW σ m mw mf ga σ m2 wa fr pl nu sd) k n P := by
  have hS := hσ.1
  refine o_aload_n dL_law_804 rfl rfl ?_
  refine o_aload_n dL_law_805 rfl rfl ?_
  refine o_iload_n dL_law_806 rfl rfl ?_
  refine o_iconst dL_law_807 ic_1 ?_
  refine o_iadd dL_law_808 ?_
  refine o_sld dL_law_809 rfl (sc_in (j := 1) (by omega) hL) ?_
  generalize hg1 : xs (nI i + 1).toNatClampNeg = a1
  refine o_aload_n dL_law_810 rfl rfl ?_
  refine o_iload_n dL_law_811 rfl rfl ?_
  refine o_iconst dL_law_812 ic_2 ?_
  refine o_iadd dL_law_813 ?_
  refine o_sld dL_law_814 rfl (sc_in (j := 2) (by omega) hL) ?_
  generalize hg2 : xs (nI i + 2).toNatClampNeg = a2
  have hG : GI (s_fewest a1 a2 σ) := g_fewest hσ
  obtain ⟨⟨v, hv⟩, hI⟩ := hG
  refine law_x (σ := σ) (asc := [.int a1, .int a2]) (res := s_fewest a1 a2 σ) (tX4_fewest hS) ⟨rfl, rfl⟩ dL_law_815 wd509 cvX4_fewest rfl ⟨(Nat.le_of_ble_eq_true rfl), (Nat.le_of_ble_eq_true rfl)⟩ hcX4 rfl rfl (Nat.le_of_ble_eq_true rfl) hk hn (fun n1 n2 n3 n4 => ?_)
  rw [hv]
  refine o_aload_n dL_law_818 rfl rfl ?_
  refine o_aload_n dL_law_819 rfl rfl ?_
  refine o_iload_n dL_law_820 rfl rfl ?_
  refine o_iconst dL_law_821 ic_1 ?_
  refine o_iadd dL_law_822 ?_
  refine o_sld dL_law_823 rfl (sc_in (j := 1) (by omega) hL) ?_
  rw [hg1]
  refine o_aload_n dL_law_824 rfl rfl ?_
  refine o_iload_n dL_law_825 rfl rfl ?_
  refine o_iconst dL_law_826 ic_2 ?_
  refine o_iadd dL_law_827 ?_
  refine o_sld dL_law_828 rfl (sc_in (j := 2) (by omega) hL) ?_
  rw [hg2]
  refine law_m (τ := σ) (asc := [.int a1, .int a2]) (res := s_fewest a1 a2 σ) (tX5_fewest hS) ⟨rfl, rfl⟩ dL_law_829 wd952 cvX5_fewest rfl ⟨(Nat.le_of_ble_eq_true rfl), (Nat.le_of_ble_eq_true rfl)⟩ hcX5 rfl rfl (Nat.le_of_ble_eq_true rfl) hk hn (fun p1 p2 p3 p4 p5 p6 => ?_)
  rw [hv]
  exact o_icmp_eq (tgt := 1300) dL_law_832 (by decide) (fun _ => hN _ _ _ _ _ _ _ _ _ _ _ hI) (fun c => absurd rfl c)
theorem lwc_23 {nm : String} {L k n i : Nat} {xs : Nat → Int32} {P : Option Value → PW → Prop} (hk : k ≤ 600000) (hn : n ≤ 7302250) (h6 : i + 6 ≤ L) (hL : L ≤ 3072) {σ : St} (hσ : Inv σ) (hN : ∀ (τ : St) (m mw mf ga m2 wa fr : Nat → Int32) (pl : Int32) (nu : Nat → Int32) (sd : Int32), Inv τ → Ok (mLw nm) (some (L, xs)) 1300 [some (.ref 999), some (.ref 0), some (.ref 44), some (.int (nI i))] [] (lwW τ m mw mf ga τ m2 wa fr pl nu sd) k n P) {m mw mf ga m2 wa fr : Nat → Int32} {pl : Int32} {nu : Nat → Int32} {sd : Int32} : Ok (mLw nm) (some (L, xs)) 837 [some (.ref 999), some (.ref 0), some (.ref 44), some (.int (nI i))] [] (lwW σ m mw mf ga σ m2 wa fr pl nu sd) k n P := by
  have hS := hσ.1
  refine o_aload_n dL_law_837 rfl rfl ?_
  refine o_aload_n dL_law_838 rfl rfl ?_
  refine o_iload_n dL_law_839 rfl rfl ?_
  refine o_iconst dL_law_840 ic_1 ?_
  refine o_iadd dL_law_841 ?_
  refine o_sld dL_law_842 rfl (sc_in (j := 1) (by omega) hL) ?_
  generalize hg1 : xs (nI i + 1).toNatClampNeg = a1
  have hG : GI (s_bestDoor false a1 σ) := g_bestDoor hσ
  obtain ⟨⟨v, hv⟩, hI⟩ := hG
  refine law_x (σ := σ) (asc := [.int a1]) (res := s_bestDoor false a1 σ) (tX4_turn hS) ⟨rfl, rfl⟩ dL_law_843 wd523 cvX4_turn rfl ⟨(Nat.le_of_ble_eq_true rfl), (Nat.le_of_ble_eq_true rfl)⟩ hcX4 rfl rfl (Nat.le_of_ble_eq_true rfl) hk hn (fun n1 n2 n3 n4 => ?_)
  rw [hv]
  refine o_aload_n dL_law_846 rfl rfl ?_
  refine o_aload_n dL_law_847 rfl rfl ?_
  refine o_iload_n dL_law_848 rfl rfl ?_
  refine o_iconst dL_law_849 ic_1 ?_
  refine o_iadd dL_law_850 ?_
  refine o_sld dL_law_851 rfl (sc_in (j := 1) (by omega) hL) ?_
  rw [hg1]
  refine law_m (τ := σ) (asc := [.int a1]) (res := s_bestDoor false a1 σ) (tX5_turn hS) ⟨rfl, rfl⟩ dL_law_852 wd956 cvX5_turn rfl ⟨(Nat.le_of_ble_eq_true rfl), (Nat.le_of_ble_eq_true rfl)⟩ hcX5 rfl rfl (Nat.le_of_ble_eq_true rfl) hk hn (fun p1 p2 p3 p4 p5 p6 => ?_)
  rw [hv]
  exact o_icmp_eq (tgt := 1300) dL_law_855 (by decide) (fun _ => hN _ _ _ _ _ _ _ _ _ _ _ hI) (fun c => absurd rfl c)
theorem lwc_24 {nm : String} {L k n i : Nat} {xs : Nat → Int32} {P : Option Value → PW → Prop} (hk : k ≤ 600000) (hn : n ≤ 7302250) (h6 : i + 6 ≤ L) (hL : L ≤ 3072) {σ : St} (hσ : Inv σ) (hN : ∀ (τ : St) (m mw mf ga m2 wa fr : Nat → Int32) (pl : Int32) (nu : Nat → Int32) (sd : Int32), Inv τ → Ok (mLw nm) (some (L, xs)) 1300 [some (.ref 999), some (.ref 0), some (.ref 44), some (.int (nI i))] [] (lwW τ m mw mf ga τ m2 wa fr pl nu sd) k n P) {m mw mf ga m2 wa fr : Nat → Int32} {pl : Int32} {nu : Nat → Int32} {sd : Int32} : Ok (mLw nm) (some (L, xs)) 860 [some (.ref 999), some (.ref 0), some (.ref 44), some (.int (nI i))] [] (lwW σ m mw mf ga σ m2 wa fr pl nu sd) k n P := by
  have hS := hσ.1
  refine o_aload_n dL_law_860 rfl rfl ?_
  refine o_aload_n dL_law_861 rfl rfl ?_
  refine o_iload_n dL_law_862 rfl rfl ?_
  refine o_iconst dL_law_863 ic_1 ?_
  refine o_iadd dL_law_864 ?_
  refine o_sld dL_law_865 rfl (sc_in (j := 1) (by omega) hL) ?_
  generalize hg1 : xs (nI i + 1).toNatClampNeg = a1
  have hG : GI (s_bestDoor true a1 σ) := g_bestDoor hσ
  obtain ⟨⟨v, hv⟩, hI⟩ := hG
  refine law_x (σ := σ) (asc := [.int a1]) (res := s_bestDoor true a1 σ) (tX4_wedge hS) ⟨rfl, rfl⟩ dL_law_866 wd531 cvX4_wedge rfl ⟨(Nat.le_of_ble_eq_true rfl), (Nat.le_of_ble_eq_true rfl)⟩ hcX4 rfl rfl (Nat.le_of_ble_eq_true rfl) hk hn (fun n1 n2 n3 n4 => ?_)
  rw [hv]
  refine o_aload_n dL_law_869 rfl rfl ?_
  refine o_aload_n dL_law_870 rfl rfl ?_
  refine o_iload_n dL_law_871 rfl rfl ?_
  refine o_iconst dL_law_872 ic_1 ?_
  refine o_iadd dL_law_873 ?_
  refine o_sld dL_law_874 rfl (sc_in (j := 1) (by omega) hL) ?_
  rw [hg1]
  refine law_m (τ := σ) (asc := [.int a1]) (res := s_bestDoor true a1 σ) (tX5_wedge hS) ⟨rfl, rfl⟩ dL_law_875 wd964 cvX5_wedge rfl ⟨(Nat.le_of_ble_eq_true rfl), (Nat.le_of_ble_eq_true rfl)⟩ hcX5 rfl rfl (Nat.le_of_ble_eq_true rfl) hk hn (fun p1 p2 p3 p4 p5 p6 => ?_)
  rw [hv]
  exact o_icmp_eq (tgt := 1300) dL_law_878 (by decide) (fun _ => hN _ _ _ _ _ _ _ _ _ _ _ hI) (fun c => absurd rfl c)
theorem lwc_25 {nm : String} {L k n i : Nat} {xs : Nat → Int32} {P : Option Value → PW → Prop} (hk : k ≤ 600000) (hn : n ≤ 7302250) (h6 : i + 6 ≤ L) (hL : L ≤ 3072) {σ : St} (hσ : Inv σ) (hN : ∀ (τ : St) (m mw mf ga m2 wa fr : Nat → Int32) (pl : Int32) (nu : Nat → Int32) (sd : Int32), Inv τ → Ok (mLw nm) (some (L, xs)) 1300 [some (.ref 999), some (.ref 0), some (.ref 44), some (.int (nI i))] [] (lwW τ m mw mf ga τ m2 wa fr pl nu sd) k n P) {m mw mf ga m2 wa fr : Nat → Int32} {pl : Int32} {nu : Nat → Int32} {sd : Int32} : Ok (mLw nm) (some (L, xs)) 883 [some (.ref 999), some (.ref 0), some (.ref 44), some (.int (nI i))] [] (lwW σ m mw mf ga σ m2 wa fr pl nu sd) k n P := by
  have hS := hσ.1
  refine o_aload_n dL_law_883 rfl rfl ?_
  refine o_aload_n dL_law_884 rfl rfl ?_
  refine o_iload_n dL_law_885 rfl rfl ?_
  refine o_iconst dL_law_886 ic_1 ?_
  refine o_iadd dL_law_887 ?_
  refine o_sld dL_law_888 rfl (sc_in (j := 1) (by omega) hL) ?_
  generalize hg1 : xs (nI i + 1).toNatClampNeg = a1
  refine o_aload_n dL_law_889 rfl rfl ?_
  refine o_iload_n dL_law_890 rfl rfl ?_
  refine o_iconst dL_law_891 ic_2 ?_
  refine o_iadd dL_law_892 ?_
  refine o_sld dL_law_893 rfl (sc_in (j := 2) (by omega) hL) ?_
  generalize hg2 : xs (nI i + 2).toNatClampNeg = a2
  have hG : GI (s_holds a1 a2 σ) := g_holds hσ
  obtain ⟨⟨v, hv⟩, hI⟩ := hG
  refine law_x (σ := σ) (asc := [.int a1, .int a2]) (res := s_holds a1 a2 σ) (tX4_holds hS) ⟨rfl, rfl⟩ dL_law_894 wd535 cvX4_holds rfl ⟨(Nat.le_of_ble_eq_true rfl), (Nat.le_of_ble_eq_true rfl)⟩ hcX4 rfl rfl (Nat.le_of_ble_eq_true rfl) hk hn (fun n1 n2 n3 n4 => ?_)
  rw [hv]
  refine o_aload_n dL_law_897 rfl rfl ?_
  refine o_aload_n dL_law_898 rfl rfl ?_
  refine o_iload_n dL_law_899 rfl rfl ?_
  refine o_iconst dL_law_900 ic_1 ?_
  refine o_iadd dL_law_901 ?_
  refine o_sld dL_law_902 rfl (sc_in (j := 1) (by omega) hL) ?_
  rw [hg1]
  refine o_aload_n dL_law_903 rfl rfl ?_
  refine o_iload_n dL_law_904 rfl rfl ?_
  refine o_iconst dL_law_905 ic_2 ?_
  refine o_iadd dL_law_906 ?_
  refine o_sld dL_law_907 rfl (sc_in (j := 2) (by omega) hL) ?_
  rw [hg2]
  refine law_m (τ := σ) (asc := [.int a1, .int a2]) (res := s_holds a1 a2 σ) (tX5_holds hS) ⟨rfl, rfl⟩ dL_law_908 wd968 cvX5_holds rfl ⟨(Nat.le_of_ble_eq_true rfl), (Nat.le_of_ble_eq_true rfl)⟩ hcX5 rfl rfl (Nat.le_of_ble_eq_true rfl) hk hn (fun p1 p2 p3 p4 p5 p6 => ?_)
  rw [hv]
  exact o_icmp_eq (tgt := 1300) dL_law_911 (by decide) (fun _ => hN _ _ _ _ _ _ _ _ _ _ _ hI) (fun c => absurd rfl c)
theorem lwc_26 {nm : String} {L k n i : Nat} {xs : Nat → Int32} {P : Option Value → PW → Prop} (hk : k ≤ 600000) (hn : n ≤ 7302250) (h6 : i + 6 ≤ L) (hL : L ≤ 3072) {σ : St} (hσ : Inv σ) (hN : ∀ (τ : St) (m mw mf ga m2 wa fr : Nat → Int32) (pl : Int32) (nu : Nat → Int32) (sd : Int32), Inv τ → Ok (mLw nm) (some (L, xs)) 1300 [some (.ref 999), some (.ref 0), some (.ref 44), some (.int (nI i))] [] (lwW τ m mw mf ga τ m2 wa fr pl nu sd) k n P) {m mw mf ga m2 wa fr : Nat → Int32} {pl : Int32} {nu : Nat → Int32} {sd : Int32} : Ok (mLw nm) (some (L, xs)) 916 [some (.ref 999), some (.ref 0), some (.ref 44), some (.int (nI i))] [] (lwW σ m mw mf ga σ m2 wa fr pl nu sd) k n P := by
  have hS := hσ.1
  refine o_aload_n dL_law_916 rfl rfl ?_
  refine o_aload_n dL_law_917 rfl rfl ?_
  refine o_iload_n dL_law_918 rfl rfl ?_
  refine o_iconst dL_law_919 ic_1 ?_
  refine o_iadd dL_law_920 ?_
  refine o_sld dL_law_921 rfl (sc_in (j := 1) (by omega) hL) ?_
  generalize hg1 : xs (nI i + 1).toNatClampNeg = a1
  have hG : GI (s_crowd a1 σ) := g_crowd hσ
  obtain ⟨⟨v, hv⟩, hI⟩ := hG
  refine law_x (σ := σ) (asc := [.int a1]) (res := s_crowd a1 σ) (tX4_crowd hS) ⟨rfl, rfl⟩ dL_law_922 wd544 cvX4_crowd rfl ⟨(Nat.le_of_ble_eq_true rfl), (Nat.le_of_ble_eq_true rfl)⟩ hcX4 rfl rfl (Nat.le_of_ble_eq_true rfl) hk hn (fun n1 n2 n3 n4 => ?_)
  rw [hv]
  refine o_aload_n dL_law_925 rfl rfl ?_
  refine o_aload_n dL_law_926 rfl rfl ?_
  refine o_iload_n dL_law_927 rfl rfl ?_
  refine o_iconst dL_law_928 ic_1 ?_
  refine o_iadd dL_law_929 ?_
  refine o_sld dL_law_930 rfl (sc_in (j := 1) (by omega) hL) ?_
  rw [hg1]
  refine law_m (τ := σ) (asc := [.int a1]) (res := s_crowd a1 σ) (tX5_crowd hS) ⟨rfl, rfl⟩ dL_law_931 wd973 cvX5_crowd rfl ⟨(Nat.le_of_ble_eq_true rfl), (Nat.le_of_ble_eq_true rfl)⟩ hcX5 rfl rfl (Nat.le_of_ble_eq_true rfl) hk hn (fun p1 p2 p3 p4 p5 p6 => ?_)
  rw [hv]
  exact o_icmp_eq (tgt := 1300) dL_law_934 (by decide) (fun _ => hN _ _ _ _ _ _ _ _ _ _ _ hI) (fun c => absurd rfl c)
theorem lwc_27 {nm : String} {L k n i : Nat} {xs : Nat → Int32} {P : Option Value → PW → Prop} (hk : k ≤ 600000) (hn : n ≤ 7302250) (h6 : i + 6 ≤ L) (hL : L ≤ 3072) {σ : St} (hσ : Inv σ) (hN : ∀ (τ : St) (m mw mf ga m2 wa fr : Nat → Int32) (pl : Int32) (nu : Nat → Int32) (sd : Int32), Inv τ → Ok (mLw nm) (some (L, xs)) 1300 [some (.ref 999), some (.ref 0), some (.ref 44), some (.int (nI i))] [] (lwW τ m mw mf ga τ m2 wa fr pl nu sd) k n P) {m mw mf ga m2 wa fr : Nat → Int32} {pl : Int32} {nu : Nat → Int32} {sd : Int32} : Ok (mLw nm) (some (L, xs)) 939 [some (.ref 999), some (.ref 0), some (.ref 44), some (.int (nI i))] [] (lwW σ m mw mf ga σ m2 wa fr pl nu sd) k n P := by
  have hS := hσ.1
  refine o_aload_n dL_law_939 rfl rfl ?_
  refine o_aload_n dL_law_940 rfl rfl ?_
  refine o_iload_n dL_law_941 rfl rfl ?_
  refine o_iconst dL_law_942 ic_1 ?_
  refine o_iadd dL_law_943 ?_
  refine o_sld dL_law_944 rfl (sc_in (j := 1) (by omega) hL) ?_
  generalize hg1 : xs (nI i + 1).toNatClampNeg = a1
  have hG : GI (s_handles a1 σ) := g_handles hσ
  obtain ⟨⟨v, hv⟩, hI⟩ := hG
  refine law_x (σ := σ) (asc := [.int a1]) (res := s_handles a1 σ) (tX4_handles hS) ⟨rfl, rfl⟩ dL_law_945 wd568 cvX4_handles rfl ⟨(Nat.le_of_ble_eq_true rfl), (Nat.le_of_ble_eq_true rfl)⟩ hcX4 rfl rfl (Nat.le_of_ble_eq_true rfl) hk hn (fun n1 n2 n3 n4 => ?_)
  rw [hv]
  refine o_aload_n dL_law_948 rfl rfl ?_
  refine o_aload_n dL_law_949 rfl rfl ?_
  refine o_iload_n dL_law_950 rfl rfl ?_
  refine o_iconst dL_law_951 ic_1 ?_
  refine o_iadd dL_law_952 ?_
  refine o_sld dL_law_953 rfl (sc_in (j := 1) (by omega) hL) ?_
  rw [hg1]
  refine law_m (τ := σ) (asc := [.int a1]) (res := s_handles a1 σ) (tX5_handles hS) ⟨rfl, rfl⟩ dL_law_954 wd985 cvX5_handles rfl ⟨(Nat.le_of_ble_eq_true rfl), (Nat.le_of_ble_eq_true rfl)⟩ hcX5 rfl rfl (Nat.le_of_ble_eq_true rfl) hk hn (fun p1 p2 p3 p4 p5 p6 => ?_)
  rw [hv]
  exact o_icmp_eq (tgt := 1300) dL_law_957 (by decide) (fun _ => hN _ _ _ _ _ _ _ _ _ _ _ hI) (fun c => absurd rfl c)
theorem lwc_28 {nm : String} {L k n i : Nat} {xs : Nat → Int32} {P : Option Value → PW → Prop} (hk : k ≤ 600000) (hn : n ≤ 7302250) (h6 : i + 6 ≤ L) (hL : L ≤ 3072) {σ : St} (hσ : Inv σ) (hN : ∀ (τ : St) (m mw mf ga m2 wa fr : Nat → Int32) (pl : Int32) (nu : Nat → Int32) (sd : Int32), Inv τ → Ok (mLw nm) (some (L, xs)) 1300 [some (.ref 999), some (.ref 0), some (.ref 44), some (.int (nI i))] [] (lwW τ m mw mf ga τ m2 wa fr pl nu sd) k n P) {m mw mf ga m2 wa fr : Nat → Int32} {pl : Int32} {nu : Nat → Int32} {sd : Int32} : Ok (mLw nm) (some (L, xs)) 962 [some (.ref 999), some (.ref 0), some (.ref 44), some (.int (nI i))] [] (lwW σ m mw mf ga σ m2 wa fr pl nu sd) k n P := by
  have hS := hσ.1
  refine o_aload_n dL_law_962 rfl rfl ?_
  refine o_aload_n dL_law_963 rfl rfl ?_
  refine o_iload_n dL_law_964 rfl rfl ?_
  refine o_iconst dL_law_965 ic_1 ?_
  refine o_iadd dL_law_966 ?_
  refine o_sld dL_law_967 rfl (sc_in (j := 1) (by omega) hL) ?_
  generalize hg1 : xs (nI i + 1).toNatClampNeg = a1
  have hG : GI (s_meet a1 σ) := g_meet hσ
  obtain ⟨⟨v, hv⟩, hI⟩ := hG
  refine law_x (σ := σ) (asc := [.int a1]) (res := s_meet a1 σ) (tX4_meet hS) ⟨rfl, rfl⟩ dL_law_968 wd572 cvX4_meet rfl ⟨(Nat.le_of_ble_eq_true rfl), (Nat.le_of_ble_eq_true rfl)⟩ hcX4 rfl rfl (Nat.le_of_ble_eq_true rfl) hk hn (fun n1 n2 n3 n4 => ?_)
  rw [hv]
  refine o_aload_n dL_law_971 rfl rfl ?_
  refine o_aload_n dL_law_972 rfl rfl ?_
  refine o_iload_n dL_law_973 rfl rfl ?_
  refine o_iconst dL_law_974 ic_1 ?_
  refine o_iadd dL_law_975 ?_
  refine o_sld dL_law_976 rfl (sc_in (j := 1) (by omega) hL) ?_
  rw [hg1]
  refine law_m (τ := σ) (asc := [.int a1]) (res := s_meet a1 σ) (tX5_meet hS) ⟨rfl, rfl⟩ dL_law_977 wd989 cvX5_meet rfl ⟨(Nat.le_of_ble_eq_true rfl), (Nat.le_of_ble_eq_true rfl)⟩ hcX5 rfl rfl (Nat.le_of_ble_eq_true rfl) hk hn (fun p1 p2 p3 p4 p5 p6 => ?_)
  rw [hv]
  exact o_icmp_eq (tgt := 1300) dL_law_980 (by decide) (fun _ => hN _ _ _ _ _ _ _ _ _ _ _ hI) (fun c => absurd rfl c)
theorem lwc_29 {nm : String} {L k n i : Nat} {xs : Nat → Int32} {P : Option Value → PW → Prop} (hk : k ≤ 600000) (hn : n ≤ 7302250) (h6 : i + 6 ≤ L) (hL : L ≤ 3072) {σ : St} (hσ : Inv σ) (hN : ∀ (τ : St) (m mw mf ga m2 wa fr : Nat → Int32) (pl : Int32) (nu : Nat → Int32) (sd : Int32), Inv τ → Ok (mLw nm) (some (L, xs)) 1300 [some (.ref 999), some (.ref 0), some (.ref 44), some (.int (nI i))] [] (lwW τ m mw mf ga τ m2 wa fr pl nu sd) k n P) {m mw mf ga m2 wa fr : Nat → Int32} {pl : Int32} {nu : Nat → Int32} {sd : Int32} : Ok (mLw nm) (some (L, xs)) 985 [some (.ref 999), some (.ref 0), some (.ref 44), some (.int (nI i))] [] (lwW σ m mw mf ga σ m2 wa fr pl nu sd) k n P := by
  have hS := hσ.1
  refine o_aload_n dL_law_985 rfl rfl ?_
  refine o_aload_n dL_law_986 rfl rfl ?_
  refine o_iload_n dL_law_987 rfl rfl ?_
  refine o_iconst dL_law_988 ic_1 ?_
  refine o_iadd dL_law_989 ?_
  refine o_sld dL_law_990 rfl (sc_in (j := 1) (by omega) hL) ?_
  generalize hg1 : xs (nI i + 1).toNatClampNeg = a1
  refine o_aload_n dL_law_991 rfl rfl ?_
  refine o_iload_n dL_law_992 rfl rfl ?_
  refine o_iconst dL_law_993 ic_2 ?_
  refine o_iadd dL_law_994 ?_
  refine o_sld dL_law_995 rfl (sc_in (j := 2) (by omega) hL) ?_
  generalize hg2 : xs (nI i + 2).toNatClampNeg = a2
  refine o_aload_n dL_law_996 rfl rfl ?_
  refine o_iload_n dL_law_997 rfl rfl ?_
  refine o_iconst dL_law_998 ic_3 ?_
  refine o_iadd dL_law_999 ?_
  refine o_sld dL_law_1000 rfl (sc_in (j := 3) (by omega) hL) ?_
  generalize hg3 : xs (nI i + 3).toNatClampNeg = a3
  have hG : GI (s_two a1 a2 a3 σ) := g_two hσ
  obtain ⟨⟨v, hv⟩, hI⟩ := hG
  refine law_x (σ := σ) (asc := [.int a1, .int a2, .int a3]) (res := s_two a1 a2 a3 σ) (tX4_two hS) ⟨rfl, rfl⟩ dL_law_1001 wd580 cvX4_two rfl ⟨(Nat.le_of_ble_eq_true rfl), (Nat.le_of_ble_eq_true rfl)⟩ hcX4 rfl rfl (Nat.le_of_ble_eq_true rfl) hk hn (fun n1 n2 n3 n4 => ?_)
  rw [hv]
  refine o_aload_n dL_law_1004 rfl rfl ?_
  refine o_aload_n dL_law_1005 rfl rfl ?_
  refine o_iload_n dL_law_1006 rfl rfl ?_
  refine o_iconst dL_law_1007 ic_1 ?_
  refine o_iadd dL_law_1008 ?_
  refine o_sld dL_law_1009 rfl (sc_in (j := 1) (by omega) hL) ?_
  rw [hg1]
  refine o_aload_n dL_law_1010 rfl rfl ?_
  refine o_iload_n dL_law_1011 rfl rfl ?_
  refine o_iconst dL_law_1012 ic_2 ?_
  refine o_iadd dL_law_1013 ?_
  refine o_sld dL_law_1014 rfl (sc_in (j := 2) (by omega) hL) ?_
  rw [hg2]
  refine o_aload_n dL_law_1015 rfl rfl ?_
  refine o_iload_n dL_law_1016 rfl rfl ?_
  refine o_iconst dL_law_1017 ic_3 ?_
  refine o_iadd dL_law_1018 ?_
  refine o_sld dL_law_1019 rfl (sc_in (j := 3) (by omega) hL) ?_
  rw [hg3]
  refine law_m (τ := σ) (asc := [.int a1, .int a2, .int a3]) (res := s_two a1 a2 a3 σ) (tX5_two hS) ⟨rfl, rfl⟩ dL_law_1020 wd993 cvX5_two rfl ⟨(Nat.le_of_ble_eq_true rfl), (Nat.le_of_ble_eq_true rfl)⟩ hcX5 rfl rfl (Nat.le_of_ble_eq_true rfl) hk hn (fun p1 p2 p3 p4 p5 p6 => ?_)
  rw [hv]
  exact o_icmp_eq (tgt := 1300) dL_law_1023 (by decide) (fun _ => hN _ _ _ _ _ _ _ _ _ _ _ hI) (fun c => absurd rfl c)
theorem lwc_30 {nm : String} {L k n i : Nat} {xs : Nat → Int32} {P : Option Value → PW → Prop} (hk : k ≤ 600000) (hn : n ≤ 7302250) (h6 : i + 6 ≤ L) (hL : L ≤ 3072) {σ : St} (hσ : Inv σ) (hN : ∀ (τ : St) (m mw mf ga m2 wa fr : Nat → Int32) (pl : Int32) (nu : Nat → Int32) (sd : Int32), Inv τ → Ok (mLw nm) (some (L, xs)) 1300 [some (.ref 999), some (.ref 0), some (.ref 44), some (.int (nI i))] [] (lwW τ m mw mf ga τ m2 wa fr pl nu sd) k n P) {m mw mf ga m2 wa fr : Nat → Int32} {pl : Int32} {nu : Nat → Int32} {sd : Int32} : Ok (mLw nm) (some (L, xs)) 1028 [some (.ref 999), some (.ref 0), some (.ref 44), some (.int (nI i))] [] (lwW σ m mw mf ga σ m2 wa fr pl nu sd) k n P := by
  have hS := hσ.1
  refine o_aload_n dL_law_1028 rfl rfl ?_
  refine o_aload_n dL_law_1029 rfl rfl ?_
  refine o_iload_n dL_law_1030 rfl rfl ?_
  refine o_iconst dL_law_1031 ic_1 ?_
  refine o_iadd dL_law_1032 ?_
  refine o_sld dL_law_1033 rfl (sc_in (j := 1) (by omega) hL) ?_
  generalize hg1 : xs (nI i + 1).toNatClampNeg = a1
  refine o_aload_n dL_law_1034 rfl rfl ?_
  refine o_iload_n dL_law_1035 rfl rfl ?_
  refine o_iconst dL_law_1036 ic_2 ?_
  refine o_iadd dL_law_1037 ?_
  refine o_sld dL_law_1038 rfl (sc_in (j := 2) (by omega) hL) ?_
  generalize hg2 : xs (nI i + 2).toNatClampNeg = a2
  refine o_aload_n dL_law_1039 rfl rfl ?_
  refine o_iload_n dL_law_1040 rfl rfl ?_
  refine o_iconst dL_law_1041 ic_3 ?_
  refine o_iadd dL_law_1042 ?_
  refine o_sld dL_law_1043 rfl (sc_in (j := 3) (by omega) hL) ?_
  generalize hg3 : xs (nI i + 3).toNatClampNeg = a3
  refine o_aload_n dL_law_1044 rfl rfl ?_
  refine o_iload_n dL_law_1045 rfl rfl ?_
  refine o_iconst dL_law_1046 ic_4 ?_
  refine o_iadd dL_law_1047 ?_
  refine o_sld dL_law_1048 rfl (sc_in (j := 4) (by omega) hL) ?_
  generalize hg4 : xs (nI i + 4).toNatClampNeg = a4
  refine o_aload_n dL_law_1049 rfl rfl ?_
  refine o_iload_n dL_law_1050 rfl rfl ?_
  refine o_iconst dL_law_1051 ic_5 ?_
  refine o_iadd dL_law_1052 ?_
  refine o_sld dL_law_1053 rfl (sc_in (j := 5) (by omega) hL) ?_
  generalize hg5 : xs (nI i + 5).toNatClampNeg = a5
  have hG : GL (s_fire a1 a2 a3 a4 a5 σ) := g_fire hσ
  obtain ⟨⟨v, hv⟩, hI⟩ := hG
  refine law_x (σ := σ) (asc := [.int a1, .int a2, .int a3, .int a4, .int a5]) (res := s_fire a1 a2 a3 a4 a5 σ) (tX4_fire hS) ⟨rfl, rfl⟩ dL_law_1054 wd592 cvX4_fire rfl ⟨(Nat.le_of_ble_eq_true rfl), (Nat.le_of_ble_eq_true rfl)⟩ hcX4 rfl rfl (Nat.le_of_ble_eq_true rfl) hk hn (fun n1 n2 n3 n4 => ?_)
  rw [hv]
  refine o_aload_n dL_law_1057 rfl rfl ?_
  refine o_aload_n dL_law_1058 rfl rfl ?_
  refine o_iload_n dL_law_1059 rfl rfl ?_
  refine o_iconst dL_law_1060 ic_1 ?_
  refine o_iadd dL_law_1061 ?_
  refine o_sld dL_law_1062 rfl (sc_in (j := 1) (by omega) hL) ?_
  rw [hg1]
  refine o_aload_n dL_law_1063 rfl rfl ?_
  refine o_iload_n dL_law_1064 rfl rfl ?_
  refine o_iconst dL_law_1065 ic_2 ?_
  refine o_iadd dL_law_1066 ?_
  refine o_sld dL_law_1067 rfl (sc_in (j := 2) (by omega) hL) ?_
  rw [hg2]
  refine o_aload_n dL_law_1068 rfl rfl ?_
  refine o_iload_n dL_law_1069 rfl rfl ?_
  refine o_iconst dL_law_1070 ic_3 ?_
  refine o_iadd dL_law_1071 ?_
  refine o_sld dL_law_1072 rfl (sc_in (j := 3) (by omega) hL) ?_
  rw [hg3]
  refine o_aload_n dL_law_1073 rfl rfl ?_
  refine o_iload_n dL_law_1074 rfl rfl ?_
  refine o_iconst dL_law_1075 ic_4 ?_
  refine o_iadd dL_law_1076 ?_
  refine o_sld dL_law_1077 rfl (sc_in (j := 4) (by omega) hL) ?_
  rw [hg4]
  refine o_aload_n dL_law_1078 rfl rfl ?_
  refine o_iload_n dL_law_1079 rfl rfl ?_
  refine o_iconst dL_law_1080 ic_5 ?_
  refine o_iadd dL_law_1081 ?_
  refine o_sld dL_law_1082 rfl (sc_in (j := 5) (by omega) hL) ?_
  rw [hg5]
  refine law_m (τ := σ) (asc := [.int a1, .int a2, .int a3, .int a4, .int a5]) (res := s_fire a1 a2 a3 a4 a5 σ) (tX5_fire hS) ⟨rfl, rfl⟩ dL_law_1083 wd1001 cvX5_fire rfl ⟨(Nat.le_of_ble_eq_true rfl), (Nat.le_of_ble_eq_true rfl)⟩ hcX5 rfl rfl (Nat.le_of_ble_eq_true rfl) hk hn (fun p1 p2 p3 p4 p5 p6 => ?_)
  rw [hv]
  refine o_lcmp dL_law_1086 ?_
  exact o_if_eq (tgt := 1300) dL_law_1087 (by decide) (fun _ => hN _ _ _ _ _ _ _ _ _ _ _ hI) (fun c => absurd (cmp_self v) c)
theorem lwc_31 {nm : String} {L k n i : Nat} {xs : Nat → Int32} {P : Option Value → PW → Prop} (hk : k ≤ 600000) (hn : n ≤ 7302250) (h6 : i + 6 ≤ L) (hL : L ≤ 3072) {σ : St} (hσ : Inv σ) (hN : ∀ (τ : St) (m mw mf ga m2 wa fr : Nat → Int32) (pl : Int32) (nu : Nat → Int32) (sd : Int32), Inv τ → Ok (mLw nm) (some (L, xs)) 1300 [some (.ref 999), some (.ref 0), some (.ref 44), some (.int (nI i))] [] (lwW τ m mw mf ga τ m2 wa fr pl nu sd) k n P) {m mw mf ga m2 wa fr : Nat → Int32} {pl : Int32} {nu : Nat → Int32} {sd : Int32} : Ok (mLw nm) (some (L, xs)) 1092 [some (.ref 999), some (.ref 0), some (.ref 44), some (.int (nI i))] [] (lwW σ m mw mf ga σ m2 wa fr pl nu sd) k n P := by
  have hS := hσ.1
  refine o_aload_n dL_law_1092 rfl rfl ?_
  refine o_aload_n dL_law_1093 rfl rfl ?_
  refine o_iload_n dL_law_1094 rfl rfl ?_
  refine o_iconst dL_law_1095 ic_1 ?_
  refine o_iadd dL_law_1096 ?_
  refine o_sld dL_law_1097 rfl (sc_in (j := 1) (by omega) hL) ?_
  generalize hg1 : xs (nI i + 1).toNatClampNeg = a1
  have hG : GL (s_mean a1 σ) := g_mean hσ
  obtain ⟨⟨v, hv⟩, hI⟩ := hG
  refine law_x (σ := σ) (asc := [.int a1]) (res := s_mean a1 σ) (tX4_mean hS) ⟨rfl, rfl⟩ dL_law_1098 wd614 cvX4_mean rfl ⟨(Nat.le_of_ble_eq_true rfl), (Nat.le_of_ble_eq_true rfl)⟩ hcX4 rfl rfl (Nat.le_of_ble_eq_true rfl) hk hn (fun n1 n2 n3 n4 => ?_)
  rw [hv]
  refine o_aload_n dL_law_1101 rfl rfl ?_
  refine o_aload_n dL_law_1102 rfl rfl ?_
  refine o_iload_n dL_law_1103 rfl rfl ?_
  refine o_iconst dL_law_1104 ic_1 ?_
  refine o_iadd dL_law_1105 ?_
  refine o_sld dL_law_1106 rfl (sc_in (j := 1) (by omega) hL) ?_
  rw [hg1]
  refine law_m (τ := σ) (asc := [.int a1]) (res := s_mean a1 σ) (tX5_mean hS) ⟨rfl, rfl⟩ dL_law_1107 wd1020 cvX5_mean rfl ⟨(Nat.le_of_ble_eq_true rfl), (Nat.le_of_ble_eq_true rfl)⟩ hcX5 rfl rfl (Nat.le_of_ble_eq_true rfl) hk hn (fun p1 p2 p3 p4 p5 p6 => ?_)
  rw [hv]
  refine o_lcmp dL_law_1110 ?_
  exact o_if_eq (tgt := 1300) dL_law_1111 (by decide) (fun _ => hN _ _ _ _ _ _ _ _ _ _ _ hI) (fun c => absurd (cmp_self v) c)
theorem lwc_32 {nm : String} {L k n i : Nat} {xs : Nat → Int32} {P : Option Value → PW → Prop} (hk : k ≤ 600000) (hn : n ≤ 7302250) (h6 : i + 6 ≤ L) (hL : L ≤ 3072) {σ : St} (hσ : Inv σ) (hN : ∀ (τ : St) (m mw mf ga m2 wa fr : Nat → Int32) (pl : Int32) (nu : Nat → Int32) (sd : Int32), Inv τ → Ok (mLw nm) (some (L, xs)) 1300 [some (.ref 999), some (.ref 0), some (.ref 44), some (.int (nI i))] [] (lwW τ m mw mf ga τ m2 wa fr pl nu sd) k n P) {m mw mf ga m2 wa fr : Nat → Int32} {pl : Int32} {nu : Nat → Int32} {sd : Int32} : Ok (mLw nm) (some (L, xs)) 1116 [some (.ref 999), some (.ref 0), some (.ref 44), some (.int (nI i))] [] (lwW σ m mw mf ga σ m2 wa fr pl nu sd) k n P := by
  have hS := hσ.1
  have hR := hσ.2.2.2
  refine o_aload_n dL_law_1116 rfl rfl ?_
  refine o_aload_n dL_law_1117 rfl rfl ?_
  refine o_iload_n dL_law_1118 rfl rfl ?_
  refine o_iconst dL_law_1119 ic_1 ?_
  refine o_iadd dL_law_1120 ?_
  refine o_sld dL_law_1121 rfl (sc_in (j := 1) (by omega) hL) ?_
  generalize hg1 : xs (nI i + 1).toNatClampNeg = a1
  refine o_aload_n dL_law_1122 rfl rfl ?_
  refine o_iload_n dL_law_1123 rfl rfl ?_
  refine o_iconst dL_law_1124 ic_2 ?_
  refine o_iadd dL_law_1125 ?_
  refine o_sld dL_law_1126 rfl (sc_in (j := 2) (by omega) hL) ?_
  generalize hg2 : xs (nI i + 2).toNatClampNeg = a2
  refine o_aload_n dL_law_1127 rfl rfl ?_
  refine o_iload_n dL_law_1128 rfl rfl ?_
  refine o_iconst dL_law_1129 ic_3 ?_
  refine o_iadd dL_law_1130 ?_
  refine o_sld dL_law_1131 rfl (sc_in (j := 3) (by omega) hL) ?_
  generalize hg3 : xs (nI i + 3).toNatClampNeg = a3
  have hG : GI (s_whatIs a1 a2 a3 σ) := g_whatIs hσ
  obtain ⟨⟨v, hv⟩, hI⟩ := hG
  refine law_x (σ := σ) (asc := [.int a1, .int a2, .int a3]) (res := s_whatIs a1 a2 a3 σ) (tX4_whatIs hS hR) ⟨rfl, rfl⟩ dL_law_1132 wd622 cvX4_whatIs rfl ⟨(Nat.le_of_ble_eq_true rfl), (Nat.le_of_ble_eq_true rfl)⟩ hcX4 rfl rfl (Nat.le_of_ble_eq_true rfl) hk hn (fun n1 n2 n3 n4 => ?_)
  rw [hv]
  refine o_aload_n dL_law_1135 rfl rfl ?_
  refine o_aload_n dL_law_1136 rfl rfl ?_
  refine o_iload_n dL_law_1137 rfl rfl ?_
  refine o_iconst dL_law_1138 ic_1 ?_
  refine o_iadd dL_law_1139 ?_
  refine o_sld dL_law_1140 rfl (sc_in (j := 1) (by omega) hL) ?_
  rw [hg1]
  refine o_aload_n dL_law_1141 rfl rfl ?_
  refine o_iload_n dL_law_1142 rfl rfl ?_
  refine o_iconst dL_law_1143 ic_2 ?_
  refine o_iadd dL_law_1144 ?_
  refine o_sld dL_law_1145 rfl (sc_in (j := 2) (by omega) hL) ?_
  rw [hg2]
  refine o_aload_n dL_law_1146 rfl rfl ?_
  refine o_iload_n dL_law_1147 rfl rfl ?_
  refine o_iconst dL_law_1148 ic_3 ?_
  refine o_iadd dL_law_1149 ?_
  refine o_sld dL_law_1150 rfl (sc_in (j := 3) (by omega) hL) ?_
  rw [hg3]
  refine law_m (τ := σ) (asc := [.int a1, .int a2, .int a3]) (res := s_whatIs a1 a2 a3 σ) (tX5_whatIs hS hR) ⟨rfl, rfl⟩ dL_law_1151 wd1028 cvX5_whatIs rfl ⟨(Nat.le_of_ble_eq_true rfl), (Nat.le_of_ble_eq_true rfl)⟩ hcX5 rfl rfl (Nat.le_of_ble_eq_true rfl) hk hn (fun p1 p2 p3 p4 p5 p6 => ?_)
  rw [hv]
  exact o_icmp_eq (tgt := 1300) dL_law_1154 (by decide) (fun _ => hN _ _ _ _ _ _ _ _ _ _ _ hI) (fun c => absurd rfl c)
theorem lwc_33 {nm : String} {L k n i : Nat} {xs : Nat → Int32} {P : Option Value → PW → Prop} (hk : k ≤ 600000) (hn : n ≤ 7302250) (h6 : i + 6 ≤ L) (hL : L ≤ 3072) {σ : St} (hσ : Inv σ) (hN : ∀ (τ : St) (m mw mf ga m2 wa fr : Nat → Int32) (pl : Int32) (nu : Nat → Int32) (sd : Int32), Inv τ → Ok (mLw nm) (some (L, xs)) 1300 [some (.ref 999), some (.ref 0), some (.ref 44), some (.int (nI i))] [] (lwW τ m mw mf ga τ m2 wa fr pl nu sd) k n P) {m mw mf ga m2 wa fr : Nat → Int32} {pl : Int32} {nu : Nat → Int32} {sd : Int32} : Ok (mLw nm) (some (L, xs)) 1159 [some (.ref 999), some (.ref 0), some (.ref 44), some (.int (nI i))] [] (lwW σ m mw mf ga σ m2 wa fr pl nu sd) k n P := by
  have hS := hσ.1
  have hR := hσ.2.2.2
  refine o_aload_n dL_law_1159 rfl rfl ?_
  refine o_aload_n dL_law_1160 rfl rfl ?_
  refine o_iload_n dL_law_1161 rfl rfl ?_
  refine o_iconst dL_law_1162 ic_1 ?_
  refine o_iadd dL_law_1163 ?_
  refine o_sld dL_law_1164 rfl (sc_in (j := 1) (by omega) hL) ?_
  generalize hg1 : xs (nI i + 1).toNatClampNeg = a1
  have hG : GI (s_row a1 σ) := g_row hσ
  obtain ⟨⟨v, hv⟩, hI⟩ := hG
  refine law_x (σ := σ) (asc := [.int a1]) (res := s_row a1 σ) (tX4_row hS hR) ⟨rfl, rfl⟩ dL_law_1165 wd638 cvX4_row rfl ⟨(Nat.le_of_ble_eq_true rfl), (Nat.le_of_ble_eq_true rfl)⟩ hcX4 rfl rfl (Nat.le_of_ble_eq_true rfl) hk hn (fun n1 n2 n3 n4 => ?_)
  rw [hv]
  refine o_aload_n dL_law_1168 rfl rfl ?_
  refine o_aload_n dL_law_1169 rfl rfl ?_
  refine o_iload_n dL_law_1170 rfl rfl ?_
  refine o_iconst dL_law_1171 ic_1 ?_
  refine o_iadd dL_law_1172 ?_
  refine o_sld dL_law_1173 rfl (sc_in (j := 1) (by omega) hL) ?_
  rw [hg1]
  refine law_m (τ := σ) (asc := [.int a1]) (res := s_row a1 σ) (tX5_row hS hR) ⟨rfl, rfl⟩ dL_law_1174 wd1032 cvX5_row rfl ⟨(Nat.le_of_ble_eq_true rfl), (Nat.le_of_ble_eq_true rfl)⟩ hcX5 rfl rfl (Nat.le_of_ble_eq_true rfl) hk hn (fun p1 p2 p3 p4 p5 p6 => ?_)
  rw [hv]
  exact o_icmp_eq (tgt := 1300) dL_law_1177 (by decide) (fun _ => hN _ _ _ _ _ _ _ _ _ _ _ hI) (fun c => absurd rfl c)
theorem lwc_34 {nm : String} {L k n i : Nat} {xs : Nat → Int32} {P : Option Value → PW → Prop} (hk : k ≤ 600000) (hn : n ≤ 7302250) (h6 : i + 6 ≤ L) (hL : L ≤ 3072) {σ : St} (hσ : Inv σ) (hN : ∀ (τ : St) (m mw mf ga m2 wa fr : Nat → Int32) (pl : Int32) (nu : Nat → Int32) (sd : Int32), Inv τ → Ok (mLw nm) (some (L, xs)) 1300 [some (.ref 999), some (.ref 0), some (.ref 44), some (.int (nI i))] [] (lwW τ m mw mf ga τ m2 wa fr pl nu sd) k n P) {m mw mf ga m2 wa fr : Nat → Int32} {pl : Int32} {nu : Nat → Int32} {sd : Int32} : Ok (mLw nm) (some (L, xs)) 1182 [some (.ref 999), some (.ref 0), some (.ref 44), some (.int (nI i))] [] (lwW σ m mw mf ga σ m2 wa fr pl nu sd) k n P := by
  have hS := hσ.1
  have hR := hσ.2.2.2
  refine o_aload_n dL_law_1182 rfl rfl ?_
  have hG : GI (s_judge  σ) := g_judge hσ
  obtain ⟨⟨v, hv⟩, hI⟩ := hG
  refine law_x (σ := σ) (asc := []) (res := s_judge  σ) (tX4_judge hS hR) ⟨rfl, rfl⟩ dL_law_1183 wd642 cvX4_judge rfl ⟨(Nat.le_of_ble_eq_true rfl), (Nat.le_of_ble_eq_true rfl)⟩ hcX4 rfl rfl (Nat.le_of_ble_eq_true rfl) hk hn (fun n1 n2 n3 n4 => ?_)
  rw [hv]
  refine o_aload_n dL_law_1186 rfl rfl ?_
  refine law_m (τ := σ) (asc := []) (res := s_judge  σ) (tX5_judge hS hR) ⟨rfl, rfl⟩ dL_law_1187 wd1036 cvX5_judge rfl ⟨(Nat.le_of_ble_eq_true rfl), (Nat.le_of_ble_eq_true rfl)⟩ hcX5 rfl rfl (Nat.le_of_ble_eq_true rfl) hk hn (fun p1 p2 p3 p4 p5 p6 => ?_)
  rw [hv]
  exact o_icmp_eq (tgt := 1300) dL_law_1190 (by decide) (fun _ => hN _ _ _ _ _ _ _ _ _ _ _ hI) (fun c => absurd rfl c)
theorem lwc_35 {nm : String} {L k n i : Nat} {xs : Nat → Int32} {P : Option Value → PW → Prop} (hk : k ≤ 600000) (hn : n ≤ 7302250) (h6 : i + 6 ≤ L) (hL : L ≤ 3072) {σ : St} (hσ : Inv σ) (hN : ∀ (τ : St) (m mw mf ga m2 wa fr : Nat → Int32) (pl : Int32) (nu : Nat → Int32) (sd : Int32), Inv τ → Ok (mLw nm) (some (L, xs)) 1300 [some (.ref 999), some (.ref 0), some (.ref 44), some (.int (nI i))] [] (lwW τ m mw mf ga τ m2 wa fr pl nu sd) k n P) {m mw mf ga m2 wa fr : Nat → Int32} {pl : Int32} {nu : Nat → Int32} {sd : Int32} : Ok (mLw nm) (some (L, xs)) 1195 [some (.ref 999), some (.ref 0), some (.ref 44), some (.int (nI i))] [] (lwW σ m mw mf ga σ m2 wa fr pl nu sd) k n P := by
  have hS := hσ.1
  refine o_aload_n dL_law_1195 rfl rfl ?_
  have hG : GI (s_clear  σ) := g_clear hσ
  obtain ⟨⟨v, hv⟩, hI⟩ := hG
  refine law_x (σ := σ) (asc := []) (res := s_clear  σ) (tX4_clear hS) ⟨rfl, rfl⟩ dL_law_1196 wd646 cvX4_clear rfl ⟨(Nat.le_of_ble_eq_true rfl), (Nat.le_of_ble_eq_true rfl)⟩ hcX4 rfl rfl (Nat.le_of_ble_eq_true rfl) hk hn (fun n1 n2 n3 n4 => ?_)
  rw [hv]
  refine o_aload_n dL_law_1199 rfl rfl ?_
  refine law_m (τ := σ) (asc := []) (res := s_clear  σ) (tX5_clear hS) ⟨rfl, rfl⟩ dL_law_1200 wd1040 cvX5_clear rfl ⟨(Nat.le_of_ble_eq_true rfl), (Nat.le_of_ble_eq_true rfl)⟩ hcX5 rfl rfl (Nat.le_of_ble_eq_true rfl) hk hn (fun p1 p2 p3 p4 p5 p6 => ?_)
  rw [hv]
  exact o_icmp_eq (tgt := 1300) dL_law_1203 (by decide) (fun _ => hN _ _ _ _ _ _ _ _ _ _ _ hI) (fun c => absurd rfl c)
theorem lwc_36 {nm : String} {L k n i : Nat} {xs : Nat → Int32} {P : Option Value → PW → Prop} (hk : k ≤ 600000) (hn : n ≤ 7302250) (h6 : i + 6 ≤ L) (hL : L ≤ 3072) {σ : St} (hσ : Inv σ) (hN : ∀ (τ : St) (m mw mf ga m2 wa fr : Nat → Int32) (pl : Int32) (nu : Nat → Int32) (sd : Int32), Inv τ → Ok (mLw nm) (some (L, xs)) 1300 [some (.ref 999), some (.ref 0), some (.ref 44), some (.int (nI i))] [] (lwW τ m mw mf ga τ m2 wa fr pl nu sd) k n P) {m mw mf ga m2 wa fr : Nat → Int32} {pl : Int32} {nu : Nat → Int32} {sd : Int32} : Ok (mLw nm) (some (L, xs)) 1208 [some (.ref 999), some (.ref 0), some (.ref 44), some (.int (nI i))] [] (lwW σ m mw mf ga σ m2 wa fr pl nu sd) k n P := by
  have hS := hσ.1
  refine o_aload_n dL_law_1208 rfl rfl ?_
  refine o_aload_n dL_law_1209 rfl rfl ?_
  refine o_iload_n dL_law_1210 rfl rfl ?_
  refine o_iconst dL_law_1211 ic_1 ?_
  refine o_iadd dL_law_1212 ?_
  refine o_sld dL_law_1213 rfl (sc_in (j := 1) (by omega) hL) ?_
  generalize hg1 : xs (nI i + 1).toNatClampNeg = a1
  refine o_aload_n dL_law_1214 rfl rfl ?_
  refine o_iload_n dL_law_1215 rfl rfl ?_
  refine o_iconst dL_law_1216 ic_2 ?_
  refine o_iadd dL_law_1217 ?_
  refine o_sld dL_law_1218 rfl (sc_in (j := 2) (by omega) hL) ?_
  generalize hg2 : xs (nI i + 2).toNatClampNeg = a2
  refine o_aload_n dL_law_1219 rfl rfl ?_
  refine o_iload_n dL_law_1220 rfl rfl ?_
  refine o_iconst dL_law_1221 ic_3 ?_
  refine o_iadd dL_law_1222 ?_
  refine o_sld dL_law_1223 rfl (sc_in (j := 3) (by omega) hL) ?_
  generalize hg3 : xs (nI i + 3).toNatClampNeg = a3
  have hG : GI (s_lots a1 a2 a3 σ) := g_lots hσ
  obtain ⟨⟨v, hv⟩, hI⟩ := hG
  refine law_x (σ := σ) (asc := [.int a1, .int a2, .int a3]) (res := s_lots a1 a2 a3 σ) (tX4_lots hS) ⟨rfl, rfl⟩ dL_law_1224 wd650 cvX4_lots rfl ⟨(Nat.le_of_ble_eq_true rfl), (Nat.le_of_ble_eq_true rfl)⟩ hcX4 rfl rfl (Nat.le_of_ble_eq_true rfl) hk hn (fun n1 n2 n3 n4 => ?_)
  rw [hv]
  refine o_aload_n dL_law_1227 rfl rfl ?_
  refine o_aload_n dL_law_1228 rfl rfl ?_
  refine o_iload_n dL_law_1229 rfl rfl ?_
  refine o_iconst dL_law_1230 ic_1 ?_
  refine o_iadd dL_law_1231 ?_
  refine o_sld dL_law_1232 rfl (sc_in (j := 1) (by omega) hL) ?_
  rw [hg1]
  refine o_aload_n dL_law_1233 rfl rfl ?_
  refine o_iload_n dL_law_1234 rfl rfl ?_
  refine o_iconst dL_law_1235 ic_2 ?_
  refine o_iadd dL_law_1236 ?_
  refine o_sld dL_law_1237 rfl (sc_in (j := 2) (by omega) hL) ?_
  rw [hg2]
  refine o_aload_n dL_law_1238 rfl rfl ?_
  refine o_iload_n dL_law_1239 rfl rfl ?_
  refine o_iconst dL_law_1240 ic_3 ?_
  refine o_iadd dL_law_1241 ?_
  refine o_sld dL_law_1242 rfl (sc_in (j := 3) (by omega) hL) ?_
  rw [hg3]
  refine law_m (τ := σ) (asc := [.int a1, .int a2, .int a3]) (res := s_lots a1 a2 a3 σ) (tX5_lots hS) ⟨rfl, rfl⟩ dL_law_1243 wd1044 cvX5_lots rfl ⟨(Nat.le_of_ble_eq_true rfl), (Nat.le_of_ble_eq_true rfl)⟩ hcX5 rfl rfl (Nat.le_of_ble_eq_true rfl) hk hn (fun p1 p2 p3 p4 p5 p6 => ?_)
  rw [hv]
  exact o_icmp_eq (tgt := 1300) dL_law_1246 (by decide) (fun _ => hN _ _ _ _ _ _ _ _ _ _ _ hI) (fun c => absurd rfl c)
theorem lwc_37 {nm : String} {L k n i : Nat} {xs : Nat → Int32} {P : Option Value → PW → Prop} (hk : k ≤ 600000) (hn : n ≤ 7302250) (h6 : i + 6 ≤ L) (hL : L ≤ 3072) {σ : St} (hσ : Inv σ) (hN : ∀ (τ : St) (m mw mf ga m2 wa fr : Nat → Int32) (pl : Int32) (nu : Nat → Int32) (sd : Int32), Inv τ → Ok (mLw nm) (some (L, xs)) 1300 [some (.ref 999), some (.ref 0), some (.ref 44), some (.int (nI i))] [] (lwW τ m mw mf ga τ m2 wa fr pl nu sd) k n P) {m mw mf ga m2 wa fr : Nat → Int32} {pl : Int32} {nu : Nat → Int32} {sd : Int32} : Ok (mLw nm) (some (L, xs)) 1251 [some (.ref 999), some (.ref 0), some (.ref 44), some (.int (nI i))] [] (lwW σ m mw mf ga σ m2 wa fr pl nu sd) k n P := by
  have hS := hσ.1
  refine o_aload_n dL_law_1251 rfl rfl ?_
  have hG : GI (s_image  σ) := g_image hσ
  obtain ⟨⟨v, hv⟩, hI⟩ := hG
  refine law_x (σ := σ) (asc := []) (res := s_image  σ) (tX4_image hS) ⟨rfl, rfl⟩ dL_law_1252 wd667 cvX4_image rfl ⟨(Nat.le_of_ble_eq_true rfl), (Nat.le_of_ble_eq_true rfl)⟩ hcX4 rfl rfl (Nat.le_of_ble_eq_true rfl) hk hn (fun n1 n2 n3 n4 => ?_)
  rw [hv]
  refine o_aload_n dL_law_1255 rfl rfl ?_
  refine law_m (τ := σ) (asc := []) (res := s_image  σ) (tX5_image hS) ⟨rfl, rfl⟩ dL_law_1256 wd1055 cvX5_image rfl ⟨(Nat.le_of_ble_eq_true rfl), (Nat.le_of_ble_eq_true rfl)⟩ hcX5 rfl rfl (Nat.le_of_ble_eq_true rfl) hk hn (fun p1 p2 p3 p4 p5 p6 => ?_)
  rw [hv]
  exact o_icmp_eq (tgt := 1300) dL_law_1259 (by decide) (fun _ => hN _ _ _ _ _ _ _ _ _ _ _ hI) (fun c => absurd rfl c)
theorem lwc_38 {nm : String} {L k n i : Nat} {xs : Nat → Int32} {P : Option Value → PW → Prop} (hk : k ≤ 600000) (hn : n ≤ 7302250) (h6 : i + 6 ≤ L) (hL : L ≤ 3072) {σ : St} (hσ : Inv σ) (hN : ∀ (τ : St) (m mw mf ga m2 wa fr : Nat → Int32) (pl : Int32) (nu : Nat → Int32) (sd : Int32), Inv τ → Ok (mLw nm) (some (L, xs)) 1300 [some (.ref 999), some (.ref 0), some (.ref 44), some (.int (nI i))] [] (lwW τ m mw mf ga τ m2 wa fr pl nu sd) k n P) {m mw mf ga m2 wa fr : Nat → Int32} {pl : Int32} {nu : Nat → Int32} {sd : Int32} : Ok (mLw nm) (some (L, xs)) 1264 [some (.ref 999), some (.ref 0), some (.ref 44), some (.int (nI i))] [] (lwW σ m mw mf ga σ m2 wa fr pl nu sd) k n P := by
  have hS := hσ.1
  refine o_aload_n dL_law_1264 rfl rfl ?_
  have hG : GI (s_on  σ) := g_on hσ
  obtain ⟨⟨v, hv⟩, hI⟩ := hG
  refine law_x (σ := σ) (asc := []) (res := s_on  σ) (tX4_on hS) ⟨rfl, rfl⟩ dL_law_1265 wd671 cvX4_on rfl ⟨(Nat.le_of_ble_eq_true rfl), (Nat.le_of_ble_eq_true rfl)⟩ hcX4 rfl rfl (Nat.le_of_ble_eq_true rfl) hk hn (fun n1 n2 n3 n4 => ?_)
  rw [hv]
  refine o_aload_n dL_law_1268 rfl rfl ?_
  refine law_m (τ := σ) (asc := []) (res := s_on  σ) (tX5_on hS) ⟨rfl, rfl⟩ dL_law_1269 wd1059 cvX5_on rfl ⟨(Nat.le_of_ble_eq_true rfl), (Nat.le_of_ble_eq_true rfl)⟩ hcX5 rfl rfl (Nat.le_of_ble_eq_true rfl) hk hn (fun p1 p2 p3 p4 p5 p6 => ?_)
  rw [hv]
  exact o_icmp_eq (tgt := 1300) dL_law_1272 (by decide) (fun _ => hN _ _ _ _ _ _ _ _ _ _ _ hI) (fun c => absurd rfl c)
theorem lwc_39 {nm : String} {L k n i : Nat} {xs : Nat → Int32} {P : Option Value → PW → Prop} (hk : k ≤ 600000) (hn : n ≤ 7302250) (h6 : i + 6 ≤ L) (hL : L ≤ 3072) {σ : St} (hσ : Inv σ) (hN : ∀ (τ : St) (m mw mf ga m2 wa fr : Nat → Int32) (pl : Int32) (nu : Nat → Int32) (sd : Int32), Inv τ → Ok (mLw nm) (some (L, xs)) 1300 [some (.ref 999), some (.ref 0), some (.ref 44), some (.int (nI i))] [] (lwW τ m mw mf ga τ m2 wa fr pl nu sd) k n P) {m mw mf ga m2 wa fr : Nat → Int32} {pl : Int32} {nu : Nat → Int32} {sd : Int32} : Ok (mLw nm) (some (L, xs)) 1277 [some (.ref 999), some (.ref 0), some (.ref 44), some (.int (nI i))] [] (lwW σ m mw mf ga σ m2 wa fr pl nu sd) k n P := by
  have hS := hσ.1
  refine o_aload_n dL_law_1277 rfl rfl ?_
  refine o_aload_n dL_law_1278 rfl rfl ?_
  refine o_iload_n dL_law_1279 rfl rfl ?_
  refine o_iconst dL_law_1280 ic_1 ?_
  refine o_iadd dL_law_1281 ?_
  refine o_sld dL_law_1282 rfl (sc_in (j := 1) (by omega) hL) ?_
  generalize hg1 : xs (nI i + 1).toNatClampNeg = a1
  have hG : GI (s_count a1 σ) := g_count hσ
  obtain ⟨⟨v, hv⟩, hI⟩ := hG
  refine law_x (σ := σ) (asc := [.int a1]) (res := s_count a1 σ) (tX4_count hS) ⟨rfl, rfl⟩ dL_law_1283 wd675 cvX4_count rfl ⟨(Nat.le_of_ble_eq_true rfl), (Nat.le_of_ble_eq_true rfl)⟩ hcX4 rfl rfl (Nat.le_of_ble_eq_true rfl) hk hn (fun n1 n2 n3 n4 => ?_)
  rw [hv]
  refine o_aload_n dL_law_1286 rfl rfl ?_
  refine o_aload_n dL_law_1287 rfl rfl ?_
  refine o_iload_n dL_law_1288 rfl rfl ?_
  refine o_iconst dL_law_1289 ic_1 ?_
  refine o_iadd dL_law_1290 ?_
  refine o_sld dL_law_1291 rfl (sc_in (j := 1) (by omega) hL) ?_
  rw [hg1]
  refine law_m (τ := σ) (asc := [.int a1]) (res := s_count a1 σ) (tX5_count hS) ⟨rfl, rfl⟩ dL_law_1292 wd1063 cvX5_count rfl ⟨(Nat.le_of_ble_eq_true rfl), (Nat.le_of_ble_eq_true rfl)⟩ hcX5 rfl rfl (Nat.le_of_ble_eq_true rfl) hk hn (fun p1 p2 p3 p4 p5 p6 => ?_)
  rw [hv]
  exact o_icmp_eq (tgt := 1300) dL_law_1295 (by decide) (fun _ => hN _ _ _ _ _ _ _ _ _ _ _ hI) (fun c => absurd rfl c)
