theorem tW_kd {r ws fs : Nat → Int32} {d : Nat} {v : Int32} (hd : d < 9) : tW (upd r (5 + 5 * d) v) ws fs = tG (upd (kdO r) d v) (fgO r) (frO r) (inO r) (wdO r) ws fs (rmO r) (glO r) (mdO r) (r 0) (r 1) (r 2) (r 3) := by
  have e_kd : kdO (upd r (5 + 5 * d) v) = upd (kdO r) d v := prj_up (by omega) hd
  have e_fg : fgO (upd r (5 + 5 * d) v) = fgO r := prj_ne (fun d hd => by omega)
  have e_fr : frO (upd r (5 + 5 * d) v) = frO r := prj_ne (fun d hd => by omega)
  have e_in : inO (upd r (5 + 5 * d) v) = inO r := prj_ne (fun d hd => by omega)
  have e_wd : wdO (upd r (5 + 5 * d) v) = wdO r := prj_ne (fun d hd => by omega)
  have e_rm : rmO (upd r (5 + 5 * d) v) = rmO r := prj_ne (fun d hd => by omega)
  have e_gl : glO (upd r (5 + 5 * d) v) = glO r := prj_ne (fun d hd => by omega)
  have e_md : mdO (upd r (5 + 5 * d) v) = mdO r := prj_ne (fun d hd => by omega)
  show tG (kdO _) (fgO _) (frO _) (inO _) (wdO _) ws fs (rmO _) (glO _) (mdO _) _ _ _ _ = _
  rw [e_kd, e_fg, e_fr, e_in, e_wd, e_rm, e_gl, e_md, upd_ne (by omega), upd_ne (by omega), upd_ne (by omega), upd_ne (by omega)]
theorem tW_fg {r ws fs : Nat → Int32} {d : Nat} {v : Int32} (hd : d < 9) : tW (upd r (6 + 5 * d) v) ws fs = tG (kdO r) (upd (fgO r) d v) (frO r) (inO r) (wdO r) ws fs (rmO r) (glO r) (mdO r) (r 0) (r 1) (r 2) (r 3) := by
  have e_kd : kdO (upd r (6 + 5 * d) v) = kdO r := prj_ne (fun d hd => by omega)
  have e_fg : fgO (upd r (6 + 5 * d) v) = upd (fgO r) d v := prj_up (by omega) hd
  have e_fr : frO (upd r (6 + 5 * d) v) = frO r := prj_ne (fun d hd => by omega)
  have e_in : inO (upd r (6 + 5 * d) v) = inO r := prj_ne (fun d hd => by omega)
  have e_wd : wdO (upd r (6 + 5 * d) v) = wdO r := prj_ne (fun d hd => by omega)
  have e_rm : rmO (upd r (6 + 5 * d) v) = rmO r := prj_ne (fun d hd => by omega)
  have e_gl : glO (upd r (6 + 5 * d) v) = glO r := prj_ne (fun d hd => by omega)
  have e_md : mdO (upd r (6 + 5 * d) v) = mdO r := prj_ne (fun d hd => by omega)
  show tG (kdO _) (fgO _) (frO _) (inO _) (wdO _) ws fs (rmO _) (glO _) (mdO _) _ _ _ _ = _
  rw [e_kd, e_fg, e_fr, e_in, e_wd, e_rm, e_gl, e_md, upd_ne (by omega), upd_ne (by omega), upd_ne (by omega), upd_ne (by omega)]
theorem tW_fr {r ws fs : Nat → Int32} {d : Nat} {v : Int32} (hd : d < 9) : tW (upd r (7 + 5 * d) v) ws fs = tG (kdO r) (fgO r) (upd (frO r) d v) (inO r) (wdO r) ws fs (rmO r) (glO r) (mdO r) (r 0) (r 1) (r 2) (r 3) := by
  have e_kd : kdO (upd r (7 + 5 * d) v) = kdO r := prj_ne (fun d hd => by omega)
  have e_fg : fgO (upd r (7 + 5 * d) v) = fgO r := prj_ne (fun d hd => by omega)
  have e_fr : frO (upd r (7 + 5 * d) v) = upd (frO r) d v := prj_up (by omega) hd
  have e_in : inO (upd r (7 + 5 * d) v) = inO r := prj_ne (fun d hd => by omega)
  have e_wd : wdO (upd r (7 + 5 * d) v) = wdO r := prj_ne (fun d hd => by omega)
  have e_rm : rmO (upd r (7 + 5 * d) v) = rmO r := prj_ne (fun d hd => by omega)
  have e_gl : glO (upd r (7 + 5 * d) v) = glO r := prj_ne (fun d hd => by omega)
  have e_md : mdO (upd r (7 + 5 * d) v) = mdO r := prj_ne (fun d hd => by omega)
  show tG (kdO _) (fgO _) (frO _) (inO _) (wdO _) ws fs (rmO _) (glO _) (mdO _) _ _ _ _ = _
  rw [e_kd, e_fg, e_fr, e_in, e_wd, e_rm, e_gl, e_md, upd_ne (by omega), upd_ne (by omega), upd_ne (by omega), upd_ne (by omega)]
theorem tW_in {r ws fs : Nat → Int32} {d : Nat} {v : Int32} (hd : d < 9) : tW (upd r (8 + 5 * d) v) ws fs = tG (kdO r) (fgO r) (frO r) (upd (inO r) d v) (wdO r) ws fs (rmO r) (glO r) (mdO r) (r 0) (r 1) (r 2) (r 3) := by
  have e_kd : kdO (upd r (8 + 5 * d) v) = kdO r := prj_ne (fun d hd => by omega)
  have e_fg : fgO (upd r (8 + 5 * d) v) = fgO r := prj_ne (fun d hd => by omega)
  have e_fr : frO (upd r (8 + 5 * d) v) = frO r := prj_ne (fun d hd => by omega)
  have e_in : inO (upd r (8 + 5 * d) v) = upd (inO r) d v := prj_up (by omega) hd
  have e_wd : wdO (upd r (8 + 5 * d) v) = wdO r := prj_ne (fun d hd => by omega)
  have e_rm : rmO (upd r (8 + 5 * d) v) = rmO r := prj_ne (fun d hd => by omega)
  have e_gl : glO (upd r (8 + 5 * d) v) = glO r := prj_ne (fun d hd => by omega)
  have e_md : mdO (upd r (8 + 5 * d) v) = mdO r := prj_ne (fun d hd => by omega)
  show tG (kdO _) (fgO _) (frO _) (inO _) (wdO _) ws fs (rmO _) (glO _) (mdO _) _ _ _ _ = _
  rw [e_kd, e_fg, e_fr, e_in, e_wd, e_rm, e_gl, e_md, upd_ne (by omega), upd_ne (by omega), upd_ne (by omega), upd_ne (by omega)]
theorem tW_wd {r ws fs : Nat → Int32} {d : Nat} {v : Int32} (hd : d < 9) : tW (upd r (9 + 5 * d) v) ws fs = tG (kdO r) (fgO r) (frO r) (inO r) (upd (wdO r) d v) ws fs (rmO r) (glO r) (mdO r) (r 0) (r 1) (r 2) (r 3) := by
  have e_kd : kdO (upd r (9 + 5 * d) v) = kdO r := prj_ne (fun d hd => by omega)
  have e_fg : fgO (upd r (9 + 5 * d) v) = fgO r := prj_ne (fun d hd => by omega)
  have e_fr : frO (upd r (9 + 5 * d) v) = frO r := prj_ne (fun d hd => by omega)
  have e_in : inO (upd r (9 + 5 * d) v) = inO r := prj_ne (fun d hd => by omega)
  have e_wd : wdO (upd r (9 + 5 * d) v) = upd (wdO r) d v := prj_up (by omega) hd
  have e_rm : rmO (upd r (9 + 5 * d) v) = rmO r := prj_ne (fun d hd => by omega)
  have e_gl : glO (upd r (9 + 5 * d) v) = glO r := prj_ne (fun d hd => by omega)
  have e_md : mdO (upd r (9 + 5 * d) v) = mdO r := prj_ne (fun d hd => by omega)
  show tG (kdO _) (fgO _) (frO _) (inO _) (wdO _) ws fs (rmO _) (glO _) (mdO _) _ _ _ _ = _
  rw [e_kd, e_fg, e_fr, e_in, e_wd, e_rm, e_gl, e_md, upd_ne (by omega), upd_ne (by omega), upd_ne (by omega), upd_ne (by omega)]
theorem tput_kd {r ws fs : Nat → Int32} {d : Nat} {v : Int32} (hd : d < 9) : PD mX4_put [.ref 2, .int (nI d), .int v] (tW r ws fs) (none) (tW (upd r (5 + 5 * d) v) ws fs) := by
  refine PM.ofp 0 (by decide) (Nat.le_of_ble_eq_true rfl) ?_
  show Ok mX4_put none 0 [some (.ref 2), some (.int (nI d)), some (.int v)] [] (tW r ws fs) 0 0 _
  refine o_iload_n dX4_put_0 rfl rfl ?_
  refine o_if_lt (tgt := 14) dX4_put_1 (by decide) (fun c_1 => ?_) (fun c_1 => ?_)
  · exact absurd c_1 (nI_pos (by omega))
  · skip
    refine o_iload_n dX4_put_4 rfl rfl ?_
    refine o_aload_n dX4_put_5 rfl rfl ?_
    refine o_alen dX4_put_6 rfl ?_
    refine o_icmp_ge (tgt := 14) dX4_put_7 (by decide) (fun c_7 => ?_) (fun c_7 => ?_)
    · exact absurd (geI (b := 9) (by omega) (by omega) c_7) (by omega)
    · skip
      refine o_aload_n dX4_put_10 rfl rfl ?_
      refine o_iload_n dX4_put_11 rfl rfl ?_
      refine o_iload_n dX4_put_12 rfl rfl ?_
      refine o_iasp (i := d) dX4_put_13 rfl (rfl) (by omega) rfl ?_
      refine o_vret dX4_put_14 rfl (Nat.le_of_ble_eq_true rfl) (Nat.le_of_ble_eq_true rfl) ?_
      exact ⟨rfl, (tW_kd hd).symm⟩
theorem texc_kd {r ws fs : Nat → Int32} {d : Nat} {v : Int32} (hd : d < 9) : PD mX4_exchange [.ref 2, .int (nI d), .int v] (tW r ws fs) (some (.int (r (5 + 5 * d)))) (tW (upd r (5 + 5 * d) v) ws fs) := by
  refine PM.ofp 1 (by decide) (Nat.le_of_ble_eq_true rfl) ?_
  show Ok mX4_exchange none 0 [some (.ref 2), some (.int (nI d)), some (.int v), none] [] (tW r ws fs) 0 0 _
  refine o_aload_n dX4_exchange_0 rfl rfl ?_
  refine o_iload_n dX4_exchange_1 rfl rfl ?_
  refine o_callSr (is := [2]) (at_p (by decide) hd) ⟨rfl, rfl⟩ dX4_exchange_2 wd237 csX4_at rfl ⟨(Nat.le_of_ble_eq_true rfl), (Nat.le_of_ble_eq_true rfl)⟩ rfl rfl rfl (Nat.le_of_ble_eq_true rfl) (Nat.le_of_ble_eq_true rfl) (Nat.le_of_ble_eq_true rfl) ?_
  refine o_istn_3 dX4_exchange_5 rfl rfl (Nat.le_of_ble_eq_true rfl) ?_
  refine o_aload_n dX4_exchange_6 rfl rfl ?_
  refine o_iload_n dX4_exchange_7 rfl rfl ?_
  refine o_iload_n dX4_exchange_8 rfl rfl ?_
  refine o_callSd (is := [0, 1, 2, 3, 4, 5, 6, 7, 8, 9, 10, 11]) (tput_kd hd) ⟨rfl, rfl⟩ dX4_exchange_9 wd238 csX4_put rfl ⟨(Nat.le_of_ble_eq_true rfl), (Nat.le_of_ble_eq_true rfl)⟩ rfl rfl rfl (Nat.le_of_ble_eq_true rfl) (Nat.le_of_ble_eq_true rfl) (Nat.le_of_ble_eq_true rfl) rfl ?_
  refine o_iload_n dX4_exchange_12 rfl rfl ?_
  refine o_iret dX4_exchange_13 rfl (vp_nar_int _) (Nat.le_of_ble_eq_true rfl) (Nat.le_of_ble_eq_true rfl) ?_
  exact ⟨rfl, rfl⟩
theorem tput_fg {r ws fs : Nat → Int32} {d : Nat} {v : Int32} (hd : d < 9) : PD mX4_put [.ref 3, .int (nI d), .int v] (tW r ws fs) (none) (tW (upd r (6 + 5 * d) v) ws fs) := by
  refine PM.ofp 0 (by decide) (Nat.le_of_ble_eq_true rfl) ?_
  show Ok mX4_put none 0 [some (.ref 3), some (.int (nI d)), some (.int v)] [] (tW r ws fs) 0 0 _
  refine o_iload_n dX4_put_0 rfl rfl ?_
  refine o_if_lt (tgt := 14) dX4_put_1 (by decide) (fun c_1 => ?_) (fun c_1 => ?_)
  · exact absurd c_1 (nI_pos (by omega))
  · skip
    refine o_iload_n dX4_put_4 rfl rfl ?_
    refine o_aload_n dX4_put_5 rfl rfl ?_
    refine o_alen dX4_put_6 rfl ?_
    refine o_icmp_ge (tgt := 14) dX4_put_7 (by decide) (fun c_7 => ?_) (fun c_7 => ?_)
    · exact absurd (geI (b := 9) (by omega) (by omega) c_7) (by omega)
    · skip
      refine o_aload_n dX4_put_10 rfl rfl ?_
      refine o_iload_n dX4_put_11 rfl rfl ?_
      refine o_iload_n dX4_put_12 rfl rfl ?_
      refine o_iasp (i := d) dX4_put_13 rfl (rfl) (by omega) rfl ?_
      refine o_vret dX4_put_14 rfl (Nat.le_of_ble_eq_true rfl) (Nat.le_of_ble_eq_true rfl) ?_
      exact ⟨rfl, (tW_fg hd).symm⟩
theorem texc_fg {r ws fs : Nat → Int32} {d : Nat} {v : Int32} (hd : d < 9) : PD mX4_exchange [.ref 3, .int (nI d), .int v] (tW r ws fs) (some (.int (r (6 + 5 * d)))) (tW (upd r (6 + 5 * d) v) ws fs) := by
  refine PM.ofp 1 (by decide) (Nat.le_of_ble_eq_true rfl) ?_
  show Ok mX4_exchange none 0 [some (.ref 3), some (.int (nI d)), some (.int v), none] [] (tW r ws fs) 0 0 _
  refine o_aload_n dX4_exchange_0 rfl rfl ?_
  refine o_iload_n dX4_exchange_1 rfl rfl ?_
  refine o_callSr (is := [3]) (at_p (by decide) hd) ⟨rfl, rfl⟩ dX4_exchange_2 wd237 csX4_at rfl ⟨(Nat.le_of_ble_eq_true rfl), (Nat.le_of_ble_eq_true rfl)⟩ rfl rfl rfl (Nat.le_of_ble_eq_true rfl) (Nat.le_of_ble_eq_true rfl) (Nat.le_of_ble_eq_true rfl) ?_
  refine o_istn_3 dX4_exchange_5 rfl rfl (Nat.le_of_ble_eq_true rfl) ?_
  refine o_aload_n dX4_exchange_6 rfl rfl ?_
  refine o_iload_n dX4_exchange_7 rfl rfl ?_
  refine o_iload_n dX4_exchange_8 rfl rfl ?_
  refine o_callSd (is := [0, 1, 2, 3, 4, 5, 6, 7, 8, 9, 10, 11]) (tput_fg hd) ⟨rfl, rfl⟩ dX4_exchange_9 wd238 csX4_put rfl ⟨(Nat.le_of_ble_eq_true rfl), (Nat.le_of_ble_eq_true rfl)⟩ rfl rfl rfl (Nat.le_of_ble_eq_true rfl) (Nat.le_of_ble_eq_true rfl) (Nat.le_of_ble_eq_true rfl) rfl ?_
  refine o_iload_n dX4_exchange_12 rfl rfl ?_
  refine o_iret dX4_exchange_13 rfl (vp_nar_int _) (Nat.le_of_ble_eq_true rfl) (Nat.le_of_ble_eq_true rfl) ?_
  exact ⟨rfl, rfl⟩
theorem tput_wd {r ws fs : Nat → Int32} {d : Nat} {v : Int32} (hd : d < 9) : PD mX4_put [.ref 6, .int (nI d), .int v] (tW r ws fs) (none) (tW (upd r (9 + 5 * d) v) ws fs) := by
  refine PM.ofp 0 (by decide) (Nat.le_of_ble_eq_true rfl) ?_
  show Ok mX4_put none 0 [some (.ref 6), some (.int (nI d)), some (.int v)] [] (tW r ws fs) 0 0 _
  refine o_iload_n dX4_put_0 rfl rfl ?_
  refine o_if_lt (tgt := 14) dX4_put_1 (by decide) (fun c_1 => ?_) (fun c_1 => ?_)
  · exact absurd c_1 (nI_pos (by omega))
  · skip
    refine o_iload_n dX4_put_4 rfl rfl ?_
    refine o_aload_n dX4_put_5 rfl rfl ?_
    refine o_alen dX4_put_6 rfl ?_
    refine o_icmp_ge (tgt := 14) dX4_put_7 (by decide) (fun c_7 => ?_) (fun c_7 => ?_)
    · exact absurd (geI (b := 9) (by omega) (by omega) c_7) (by omega)
    · skip
      refine o_aload_n dX4_put_10 rfl rfl ?_
      refine o_iload_n dX4_put_11 rfl rfl ?_
      refine o_iload_n dX4_put_12 rfl rfl ?_
      refine o_iasp (i := d) dX4_put_13 rfl (rfl) (by omega) rfl ?_
      refine o_vret dX4_put_14 rfl (Nat.le_of_ble_eq_true rfl) (Nat.le_of_ble_eq_true rfl) ?_
      exact ⟨rfl, (tW_wd hd).symm⟩
theorem texc_wd {r ws fs : Nat → Int32} {d : Nat} {v : Int32} (hd : d < 9) : PD mX4_exchange [.ref 6, .int (nI d), .int v] (tW r ws fs) (some (.int (r (9 + 5 * d)))) (tW (upd r (9 + 5 * d) v) ws fs) := by
  refine PM.ofp 1 (by decide) (Nat.le_of_ble_eq_true rfl) ?_
  show Ok mX4_exchange none 0 [some (.ref 6), some (.int (nI d)), some (.int v), none] [] (tW r ws fs) 0 0 _
  refine o_aload_n dX4_exchange_0 rfl rfl ?_
  refine o_iload_n dX4_exchange_1 rfl rfl ?_
  refine o_callSr (is := [6]) (at_p (by decide) hd) ⟨rfl, rfl⟩ dX4_exchange_2 wd237 csX4_at rfl ⟨(Nat.le_of_ble_eq_true rfl), (Nat.le_of_ble_eq_true rfl)⟩ rfl rfl rfl (Nat.le_of_ble_eq_true rfl) (Nat.le_of_ble_eq_true rfl) (Nat.le_of_ble_eq_true rfl) ?_
  refine o_istn_3 dX4_exchange_5 rfl rfl (Nat.le_of_ble_eq_true rfl) ?_
  refine o_aload_n dX4_exchange_6 rfl rfl ?_
  refine o_iload_n dX4_exchange_7 rfl rfl ?_
  refine o_iload_n dX4_exchange_8 rfl rfl ?_
  refine o_callSd (is := [0, 1, 2, 3, 4, 5, 6, 7, 8, 9, 10, 11]) (tput_wd hd) ⟨rfl, rfl⟩ dX4_exchange_9 wd238 csX4_put rfl ⟨(Nat.le_of_ble_eq_true rfl), (Nat.le_of_ble_eq_true rfl)⟩ rfl rfl rfl (Nat.le_of_ble_eq_true rfl) (Nat.le_of_ble_eq_true rfl) (Nat.le_of_ble_eq_true rfl) rfl ?_
  refine o_iload_n dX4_exchange_12 rfl rfl ?_
  refine o_iret dX4_exchange_13 rfl (vp_nar_int _) (Nat.le_of_ble_eq_true rfl) (Nat.le_of_ble_eq_true rfl) ?_
  exact ⟨rfl, rfl⟩
theorem tput_rm {r ws fs : Nat → Int32} {d : Nat} {v : Int32} (hd : d < 7) : PD mX4_put [.ref 9, .int (nI d), .int v] (tW r ws fs) (none) (tW (upd r (50 + 3 * d) v) ws fs) := by
  refine PM.ofp 0 (by decide) (Nat.le_of_ble_eq_true rfl) ?_
  show Ok mX4_put none 0 [some (.ref 9), some (.int (nI d)), some (.int v)] [] (tW r ws fs) 0 0 _
  refine o_iload_n dX4_put_0 rfl rfl ?_
  refine o_if_lt (tgt := 14) dX4_put_1 (by decide) (fun c_1 => ?_) (fun c_1 => ?_)
  · exact absurd c_1 (nI_pos (by omega))
  · skip
    refine o_iload_n dX4_put_4 rfl rfl ?_
    refine o_aload_n dX4_put_5 rfl rfl ?_
    refine o_alen dX4_put_6 rfl ?_
    refine o_icmp_ge (tgt := 14) dX4_put_7 (by decide) (fun c_7 => ?_) (fun c_7 => ?_)
    · exact absurd (geI (b := 7) (by omega) (by omega) c_7) (by omega)
    · skip
      refine o_aload_n dX4_put_10 rfl rfl ?_
      refine o_iload_n dX4_put_11 rfl rfl ?_
      refine o_iload_n dX4_put_12 rfl rfl ?_
      refine o_iasp (i := d) dX4_put_13 rfl (rfl) (by omega) rfl ?_
      refine o_vret dX4_put_14 rfl (Nat.le_of_ble_eq_true rfl) (Nat.le_of_ble_eq_true rfl) ?_
      exact ⟨rfl, (tW_room hd).symm⟩
theorem texc_rm {r ws fs : Nat → Int32} {d : Nat} {v : Int32} (hd : d < 7) : PD mX4_exchange [.ref 9, .int (nI d), .int v] (tW r ws fs) (some (.int (r (50 + 3 * d)))) (tW (upd r (50 + 3 * d) v) ws fs) := by
  refine PM.ofp 1 (by decide) (Nat.le_of_ble_eq_true rfl) ?_
  show Ok mX4_exchange none 0 [some (.ref 9), some (.int (nI d)), some (.int v), none] [] (tW r ws fs) 0 0 _
  refine o_aload_n dX4_exchange_0 rfl rfl ?_
  refine o_iload_n dX4_exchange_1 rfl rfl ?_
  refine o_callSr (is := [9]) (at_p (by decide) hd) ⟨rfl, rfl⟩ dX4_exchange_2 wd237 csX4_at rfl ⟨(Nat.le_of_ble_eq_true rfl), (Nat.le_of_ble_eq_true rfl)⟩ rfl rfl rfl (Nat.le_of_ble_eq_true rfl) (Nat.le_of_ble_eq_true rfl) (Nat.le_of_ble_eq_true rfl) ?_
  refine o_istn_3 dX4_exchange_5 rfl rfl (Nat.le_of_ble_eq_true rfl) ?_
  refine o_aload_n dX4_exchange_6 rfl rfl ?_
  refine o_iload_n dX4_exchange_7 rfl rfl ?_
  refine o_iload_n dX4_exchange_8 rfl rfl ?_
  refine o_callSd (is := [0, 1, 2, 3, 4, 5, 6, 7, 8, 9, 10, 11]) (tput_rm hd) ⟨rfl, rfl⟩ dX4_exchange_9 wd238 csX4_put rfl ⟨(Nat.le_of_ble_eq_true rfl), (Nat.le_of_ble_eq_true rfl)⟩ rfl rfl rfl (Nat.le_of_ble_eq_true rfl) (Nat.le_of_ble_eq_true rfl) (Nat.le_of_ble_eq_true rfl) rfl ?_
  refine o_iload_n dX4_exchange_12 rfl rfl ?_
  refine o_iret dX4_exchange_13 rfl (vp_nar_int _) (Nat.le_of_ble_eq_true rfl) (Nat.le_of_ble_eq_true rfl) ?_
  exact ⟨rfl, rfl⟩
theorem tput_gl {r ws fs : Nat → Int32} {d : Nat} {v : Int32} (hd : d < 7) : PD mX4_put [.ref 10, .int (nI d), .int v] (tW r ws fs) (none) (tW (upd r (51 + 3 * d) v) ws fs) := by
  refine PM.ofp 0 (by decide) (Nat.le_of_ble_eq_true rfl) ?_
  show Ok mX4_put none 0 [some (.ref 10), some (.int (nI d)), some (.int v)] [] (tW r ws fs) 0 0 _
  refine o_iload_n dX4_put_0 rfl rfl ?_
  refine o_if_lt (tgt := 14) dX4_put_1 (by decide) (fun c_1 => ?_) (fun c_1 => ?_)
  · exact absurd c_1 (nI_pos (by omega))
  · skip
    refine o_iload_n dX4_put_4 rfl rfl ?_
    refine o_aload_n dX4_put_5 rfl rfl ?_
    refine o_alen dX4_put_6 rfl ?_
    refine o_icmp_ge (tgt := 14) dX4_put_7 (by decide) (fun c_7 => ?_) (fun c_7 => ?_)
    · exact absurd (geI (b := 7) (by omega) (by omega) c_7) (by omega)
    · skip
      refine o_aload_n dX4_put_10 rfl rfl ?_
      refine o_iload_n dX4_put_11 rfl rfl ?_
      refine o_iload_n dX4_put_12 rfl rfl ?_
      refine o_iasp (i := d) dX4_put_13 rfl (rfl) (by omega) rfl ?_
      refine o_vret dX4_put_14 rfl (Nat.le_of_ble_eq_true rfl) (Nat.le_of_ble_eq_true rfl) ?_
      exact ⟨rfl, (tW_goal hd).symm⟩
theorem texc_gl {r ws fs : Nat → Int32} {d : Nat} {v : Int32} (hd : d < 7) : PD mX4_exchange [.ref 10, .int (nI d), .int v] (tW r ws fs) (some (.int (r (51 + 3 * d)))) (tW (upd r (51 + 3 * d) v) ws fs) := by
  refine PM.ofp 1 (by decide) (Nat.le_of_ble_eq_true rfl) ?_
  show Ok mX4_exchange none 0 [some (.ref 10), some (.int (nI d)), some (.int v), none] [] (tW r ws fs) 0 0 _
  refine o_aload_n dX4_exchange_0 rfl rfl ?_
  refine o_iload_n dX4_exchange_1 rfl rfl ?_
  refine o_callSr (is := [10]) (at_p (by decide) hd) ⟨rfl, rfl⟩ dX4_exchange_2 wd237 csX4_at rfl ⟨(Nat.le_of_ble_eq_true rfl), (Nat.le_of_ble_eq_true rfl)⟩ rfl rfl rfl (Nat.le_of_ble_eq_true rfl) (Nat.le_of_ble_eq_true rfl) (Nat.le_of_ble_eq_true rfl) ?_
  refine o_istn_3 dX4_exchange_5 rfl rfl (Nat.le_of_ble_eq_true rfl) ?_
  refine o_aload_n dX4_exchange_6 rfl rfl ?_
  refine o_iload_n dX4_exchange_7 rfl rfl ?_
  refine o_iload_n dX4_exchange_8 rfl rfl ?_
  refine o_callSd (is := [0, 1, 2, 3, 4, 5, 6, 7, 8, 9, 10, 11]) (tput_gl hd) ⟨rfl, rfl⟩ dX4_exchange_9 wd238 csX4_put rfl ⟨(Nat.le_of_ble_eq_true rfl), (Nat.le_of_ble_eq_true rfl)⟩ rfl rfl rfl (Nat.le_of_ble_eq_true rfl) (Nat.le_of_ble_eq_true rfl) (Nat.le_of_ble_eq_true rfl) rfl ?_
  refine o_iload_n dX4_exchange_12 rfl rfl ?_
  refine o_iret dX4_exchange_13 rfl (vp_nar_int _) (Nat.le_of_ble_eq_true rfl) (Nat.le_of_ble_eq_true rfl) ?_
  exact ⟨rfl, rfl⟩
theorem tput_md {r ws fs : Nat → Int32} {d : Nat} {v : Int32} (hd : d < 7) : PD mX4_put [.ref 11, .int (nI d), .int v] (tW r ws fs) (none) (tW (upd r (52 + 3 * d) v) ws fs) := by
  refine PM.ofp 0 (by decide) (Nat.le_of_ble_eq_true rfl) ?_
  show Ok mX4_put none 0 [some (.ref 11), some (.int (nI d)), some (.int v)] [] (tW r ws fs) 0 0 _
  refine o_iload_n dX4_put_0 rfl rfl ?_
  refine o_if_lt (tgt := 14) dX4_put_1 (by decide) (fun c_1 => ?_) (fun c_1 => ?_)
  · exact absurd c_1 (nI_pos (by omega))
  · skip
    refine o_iload_n dX4_put_4 rfl rfl ?_
    refine o_aload_n dX4_put_5 rfl rfl ?_
    refine o_alen dX4_put_6 rfl ?_
    refine o_icmp_ge (tgt := 14) dX4_put_7 (by decide) (fun c_7 => ?_) (fun c_7 => ?_)
    · exact absurd (geI (b := 7) (by omega) (by omega) c_7) (by omega)
    · skip
      refine o_aload_n dX4_put_10 rfl rfl ?_
      refine o_iload_n dX4_put_11 rfl rfl ?_
      refine o_iload_n dX4_put_12 rfl rfl ?_
      refine o_iasp (i := d) dX4_put_13 rfl (rfl) (by omega) rfl ?_
      refine o_vret dX4_put_14 rfl (Nat.le_of_ble_eq_true rfl) (Nat.le_of_ble_eq_true rfl) ?_
      exact ⟨rfl, (tW_mood hd).symm⟩
theorem texc_md {r ws fs : Nat → Int32} {d : Nat} {v : Int32} (hd : d < 7) : PD mX4_exchange [.ref 11, .int (nI d), .int v] (tW r ws fs) (some (.int (r (52 + 3 * d)))) (tW (upd r (52 + 3 * d) v) ws fs) := by
  refine PM.ofp 1 (by decide) (Nat.le_of_ble_eq_true rfl) ?_
  show Ok mX4_exchange none 0 [some (.ref 11), some (.int (nI d)), some (.int v), none] [] (tW r ws fs) 0 0 _
  refine o_aload_n dX4_exchange_0 rfl rfl ?_
  refine o_iload_n dX4_exchange_1 rfl rfl ?_
  refine o_callSr (is := [11]) (at_p (by decide) hd) ⟨rfl, rfl⟩ dX4_exchange_2 wd237 csX4_at rfl ⟨(Nat.le_of_ble_eq_true rfl), (Nat.le_of_ble_eq_true rfl)⟩ rfl rfl rfl (Nat.le_of_ble_eq_true rfl) (Nat.le_of_ble_eq_true rfl) (Nat.le_of_ble_eq_true rfl) ?_
  refine o_istn_3 dX4_exchange_5 rfl rfl (Nat.le_of_ble_eq_true rfl) ?_
  refine o_aload_n dX4_exchange_6 rfl rfl ?_
  refine o_iload_n dX4_exchange_7 rfl rfl ?_
  refine o_iload_n dX4_exchange_8 rfl rfl ?_
  refine o_callSd (is := [0, 1, 2, 3, 4, 5, 6, 7, 8, 9, 10, 11]) (tput_md hd) ⟨rfl, rfl⟩ dX4_exchange_9 wd238 csX4_put rfl ⟨(Nat.le_of_ble_eq_true rfl), (Nat.le_of_ble_eq_true rfl)⟩ rfl rfl rfl (Nat.le_of_ble_eq_true rfl) (Nat.le_of_ble_eq_true rfl) (Nat.le_of_ble_eq_true rfl) rfl ?_
  refine o_iload_n dX4_exchange_12 rfl rfl ?_
  refine o_iret dX4_exchange_13 rfl (vp_nar_int _) (Nat.le_of_ble_eq_true rfl) (Nat.le_of_ble_eq_true rfl) ?_
  exact ⟨rfl, rfl⟩
theorem tt_wedge {r ws fs : Nat → Int32} {d : Nat} (hd : d < 9) : PD mX0_wedgeOrNot [.ref 1, .int (nI d)] (tW r ws fs) (some (.int (1 - r (9 + 5 * d)))) (tW (upd r (9 + 5 * d) (1 - r (9 + 5 * d))) ws fs) := by
  refine PM.ofp 0 (by decide) (Nat.le_of_ble_eq_true rfl) ?_
  show Ok mX0_wedgeOrNot none 0 [some (.ref 1), some (.int (nI d))] [] (tW r ws fs) 0 0 _
  refine o_aload_n dX0_wedgeOrNot_0 rfl rfl ?_
  refine o_getf (j := 4) dX0_wedgeOrNot_1 rfl hcX0 inX0 (Nat.le_of_ble_eq_true rfl) wd111 rfl rfl ?_
  refine o_iload_n dX0_wedgeOrNot_4 rfl rfl ?_
  refine o_iconst dX0_wedgeOrNot_5 ic_1 ?_
  refine o_aload_n dX0_wedgeOrNot_6 rfl rfl ?_
  refine o_getf (j := 4) dX0_wedgeOrNot_7 rfl hcX0 inX0 (Nat.le_of_ble_eq_true rfl) wd111 rfl rfl ?_
  refine o_iload_n dX0_wedgeOrNot_10 rfl rfl ?_
  refine o_callSNr (is := [6]) (at_p (b := 9) (s := 5) (n := 9) (by decide) hd) ⟨rfl, rfl⟩ dX0_wedgeOrNot_11 wd91 csX4_at rfl ⟨(Nat.le_of_ble_eq_true rfl), (Nat.le_of_ble_eq_true rfl)⟩ rfl rfl rfl (Nat.le_of_ble_eq_true rfl) (Nat.le_of_ble_eq_true rfl) (Nat.le_of_ble_eq_true rfl) ?_
  refine o_isub dX0_wedgeOrNot_14 ?_
  refine o_callSNd (is := [0, 1, 2, 3, 4, 5, 6, 7, 8, 9, 10, 11]) (tput_wd hd) ⟨rfl, rfl⟩ dX0_wedgeOrNot_15 wd88 csX4_put rfl ⟨(Nat.le_of_ble_eq_true rfl), (Nat.le_of_ble_eq_true rfl)⟩ rfl rfl rfl (Nat.le_of_ble_eq_true rfl) (Nat.le_of_ble_eq_true rfl) (Nat.le_of_ble_eq_true rfl) rfl ?_
  refine o_aload_n dX0_wedgeOrNot_18 rfl rfl ?_
  refine o_getf (j := 4) dX0_wedgeOrNot_19 rfl hcX0 inX0 (Nat.le_of_ble_eq_true rfl) wd111 rfl rfl ?_
  refine o_iload_n dX0_wedgeOrNot_22 rfl rfl ?_
  refine o_callSNr (is := [6]) (at_p (b := 9) (s := 5) (n := 9) (by decide) hd) ⟨rfl, rfl⟩ dX0_wedgeOrNot_23 wd91 csX4_at rfl ⟨(Nat.le_of_ble_eq_true rfl), (Nat.le_of_ble_eq_true rfl)⟩ rfl rfl rfl (Nat.le_of_ble_eq_true rfl) (Nat.le_of_ble_eq_true rfl) (Nat.le_of_ble_eq_true rfl) ?_
  refine o_iret dX0_wedgeOrNot_26 rfl (vp_nar_int _) (Nat.le_of_ble_eq_true rfl) (Nat.le_of_ble_eq_true rfl) ?_
  exact ⟨by rw [upd_eq], rfl⟩
theorem tput_fr {r ws fs : Nat → Int32} {d : Nat} {v : Int32} (hd : d < 9) : PD mX4_put [.ref 4, .int (nI d), .int v] (tW r ws fs) (none) (tW (upd r (7 + 5 * d) v) ws fs) := by
  refine PM.ofp 0 (by decide) (Nat.le_of_ble_eq_true rfl) ?_
  show Ok mX4_put none 0 [some (.ref 4), some (.int (nI d)), some (.int v)] [] (tW r ws fs) 0 0 _
  refine o_iload_n dX4_put_0 rfl rfl ?_
  refine o_if_lt (tgt := 14) dX4_put_1 (by decide) (fun c_1 => ?_) (fun c_1 => ?_)
  · exact absurd c_1 (nI_pos (by omega))
  · skip
    refine o_iload_n dX4_put_4 rfl rfl ?_
    refine o_aload_n dX4_put_5 rfl rfl ?_
    refine o_alen dX4_put_6 rfl ?_
    refine o_icmp_ge (tgt := 14) dX4_put_7 (by decide) (fun c_7 => ?_) (fun c_7 => ?_)
    · exact absurd (geI (b := 9) (by omega) (by omega) c_7) (by omega)
    · skip
      refine o_aload_n dX4_put_10 rfl rfl ?_
      refine o_iload_n dX4_put_11 rfl rfl ?_
      refine o_iload_n dX4_put_12 rfl rfl ?_
      refine o_iasp (i := d) dX4_put_13 rfl (rfl) (by omega) rfl ?_
      refine o_vret dX4_put_14 rfl (Nat.le_of_ble_eq_true rfl) (Nat.le_of_ble_eq_true rfl) ?_
      exact ⟨rfl, (tW_fr hd).symm⟩
theorem tput_in {r ws fs : Nat → Int32} {d : Nat} {v : Int32} (hd : d < 9) : PD mX4_put [.ref 5, .int (nI d), .int v] (tW r ws fs) (none) (tW (upd r (8 + 5 * d) v) ws fs) := by
  refine PM.ofp 0 (by decide) (Nat.le_of_ble_eq_true rfl) ?_
  show Ok mX4_put none 0 [some (.ref 5), some (.int (nI d)), some (.int v)] [] (tW r ws fs) 0 0 _
  refine o_iload_n dX4_put_0 rfl rfl ?_
  refine o_if_lt (tgt := 14) dX4_put_1 (by decide) (fun c_1 => ?_) (fun c_1 => ?_)
  · exact absurd c_1 (nI_pos (by omega))
  · skip
    refine o_iload_n dX4_put_4 rfl rfl ?_
    refine o_aload_n dX4_put_5 rfl rfl ?_
    refine o_alen dX4_put_6 rfl ?_
    refine o_icmp_ge (tgt := 14) dX4_put_7 (by decide) (fun c_7 => ?_) (fun c_7 => ?_)
    · exact absurd (geI (b := 9) (by omega) (by omega) c_7) (by omega)
    · skip
      refine o_aload_n dX4_put_10 rfl rfl ?_
      refine o_iload_n dX4_put_11 rfl rfl ?_
      refine o_iload_n dX4_put_12 rfl rfl ?_
      refine o_iasp (i := d) dX4_put_13 rfl (rfl) (by omega) rfl ?_
      refine o_vret dX4_put_14 rfl (Nat.le_of_ble_eq_true rfl) (Nat.le_of_ble_eq_true rfl) ?_
      exact ⟨rfl, (tW_in hd).symm⟩
theorem mwW {r ws fs : Nat → Int32} {D N : Nat} (hT : TOk r D N) : PD mX0_measureWays [.ref 0] (dG (kdO r) (fgO r) (frO r) (inO r) (wdO r) ws fs (r 0)) none (dG (kdO r) (fgO r) (frO r) (inO r) (wdO r) (nF (wyT (fA r) (fB r) D)) (fsT (fA r) (fB r) D) (r 0)) := by
  rw [hT.1]; exact tX0_measureWays hT.D
theorem adD_eq {r : Nat → Int32} {D : Nat} {nu : Nat → Int32} : adD r D nu = upd (upd (upd (upd (upd (upd r (5 + 5 * D) (nu 0)) (6 + 5 * D) (nu 1)) (7 + 5 * D) (nu 2)) (8 + 5 * D) (nu 3)) (9 + 5 * D) 0) 0 (nI (D + 1)) := by
  unfold adD
  rw [adL, adL, adL, adL, adL, show 5 + 5 * D + 3 = 8 + 5 * D by omega, show 5 + 5 * D + 2 = 7 + 5 * D by omega, show 5 + 5 * D + 1 = 6 + 5 * D by omega, Nat.add_zero]
theorem tt_turn {r ws fs : Nat → Int32} {d D N : Nat} (hd : d < 9) (hT : TOk (tnR r d) D N) : PD mX0_changeSides [.ref 1, .int (nI d)] (tW r ws fs) (some (.int (r (7 + 5 * d)))) (tW (tnR r d) (nF (wyT (fA (tnR r d)) (fB (tnR r d)) D)) (fsT (fA (tnR r d)) (fB (tnR r d)) D)) := by
  refine PM.ofp 1 (by decide) (Nat.le_of_ble_eq_true rfl) ?_
  show Ok mX0_changeSides none 0 [some (.ref 1), some (.int (nI d)), none] [] (tW r ws fs) 0 0 _
  refine o_aload_n dX0_changeSides_0 rfl rfl ?_
  refine o_getf (j := 2) dX0_changeSides_1 rfl hcX0 inX0 (Nat.le_of_ble_eq_true rfl) wd106 rfl rfl ?_
  refine o_iload_n dX0_changeSides_4 rfl rfl ?_
  refine o_callSNr (is := [4]) (at_p (b := 7) (s := 5) (n := 9) (by decide) hd) ⟨rfl, rfl⟩ dX0_changeSides_5 wd91 csX4_at rfl ⟨(Nat.le_of_ble_eq_true rfl), (Nat.le_of_ble_eq_true rfl)⟩ rfl rfl rfl (Nat.le_of_ble_eq_true rfl) (Nat.le_of_ble_eq_true rfl) (Nat.le_of_ble_eq_true rfl) ?_
  refine o_istn_2 dX0_changeSides_8 rfl rfl (Nat.le_of_ble_eq_true rfl) ?_
  refine o_aload_n dX0_changeSides_9 rfl rfl ?_
  refine o_getf (j := 2) dX0_changeSides_10 rfl hcX0 inX0 (Nat.le_of_ble_eq_true rfl) wd106 rfl rfl ?_
  refine o_iload_n dX0_changeSides_13 rfl rfl ?_
  refine o_aload_n dX0_changeSides_14 rfl rfl ?_
  refine o_getf (j := 3) dX0_changeSides_15 rfl hcX0 inX0 (Nat.le_of_ble_eq_true rfl) wd108 rfl rfl ?_
  refine o_iload_n dX0_changeSides_18 rfl rfl ?_
  refine o_callSNr (is := [5]) (at_p (b := 8) (s := 5) (n := 9) (by decide) hd) ⟨rfl, rfl⟩ dX0_changeSides_19 wd91 csX4_at rfl ⟨(Nat.le_of_ble_eq_true rfl), (Nat.le_of_ble_eq_true rfl)⟩ rfl rfl rfl (Nat.le_of_ble_eq_true rfl) (Nat.le_of_ble_eq_true rfl) (Nat.le_of_ble_eq_true rfl) ?_
  refine o_callSNd (w2 := tW (upd r (7 + 5 * d) (r (8 + 5 * d))) ws fs) (is := [0, 1, 2, 3, 4, 5, 6, 7, 8, 9, 10, 11]) (tput_fr hd) ⟨rfl, rfl⟩ dX0_changeSides_22 wd88 csX4_put rfl ⟨(Nat.le_of_ble_eq_true rfl), (Nat.le_of_ble_eq_true rfl)⟩ rfl rfl rfl (Nat.le_of_ble_eq_true rfl) (Nat.le_of_ble_eq_true rfl) (Nat.le_of_ble_eq_true rfl) rfl ?_
  refine o_aload_n dX0_changeSides_25 rfl rfl ?_
  refine o_getf (j := 3) dX0_changeSides_26 rfl hcX0 inX0 (Nat.le_of_ble_eq_true rfl) wd108 rfl rfl ?_
  refine o_iload_n dX0_changeSides_29 rfl rfl ?_
  refine o_iload_n dX0_changeSides_30 rfl rfl ?_
  refine o_callSNd (w2 := tW (tnR r d) ws fs) (is := [0, 1, 2, 3, 4, 5, 6, 7, 8, 9, 10, 11]) (tput_in hd) ⟨rfl, rfl⟩ dX0_changeSides_31 wd88 csX4_put rfl ⟨(Nat.le_of_ble_eq_true rfl), (Nat.le_of_ble_eq_true rfl)⟩ rfl rfl rfl (Nat.le_of_ble_eq_true rfl) (Nat.le_of_ble_eq_true rfl) (Nat.le_of_ble_eq_true rfl) rfl ?_
  refine o_aload_n dX0_changeSides_34 rfl rfl ?_
  refine o_callVd (w2 := tW (tnR r d) (nF (wyT (fA (tnR r d)) (fB (tnR r d)) D)) (fsT (fA (tnR r d)) (fB (tnR r d)) D)) (is := [1, 2, 3, 4, 5, 6, 7, 8]) (mwW hT) ⟨rfl, rfl⟩ dX0_changeSides_35 wd84 cvX0_measureWays rfl ⟨(Nat.le_of_ble_eq_true rfl), (Nat.le_of_ble_eq_true rfl)⟩ hcX0 rfl rfl rfl rfl (Nat.le_of_ble_eq_true rfl) (Nat.le_of_ble_eq_true rfl) (Nat.le_of_ble_eq_true rfl) rfl ?_
  refine o_iload_n dX0_changeSides_38 rfl rfl ?_
  refine o_iret dX0_changeSides_39 rfl (vp_nar_int _) (Nat.le_of_ble_eq_true rfl) (Nat.le_of_ble_eq_true rfl) ?_
  exact ⟨rfl, rfl⟩
theorem tt_add_no {r ws fs nu : Nat → Int32} {D : Nat} (hD : D ≤ 9) (h0 : r 0 = nI D) (hno : (decide (D < 9) && inR 8 (nu 2) && inR 8 (nu 3) && !decide (nu 2 = nu 3)) = false) : PD mX0_addDoor [.ref 1, .int (nu 0), .int (nu 1), .int (nu 2), .int (nu 3)] (tW r ws fs) (some (.int 0)) (tW r ws fs) := by
  refine PM.ofp 0 (by decide) (Nat.le_of_ble_eq_true rfl) ?_
  show Ok mX0_addDoor none 0 [some (.ref 1), some (.int (nu 0)), some (.int (nu 1)), some (.int (nu 2)), some (.int (nu 3))] [] (tW r ws fs) 0 0 _
  refine o_aload_n dX0_addDoor_0 rfl rfl ?_
  refine o_getf (j := 7) dX0_addDoor_1 rfl hcX0 inX0 (Nat.le_of_ble_eq_true rfl) wd116 rfl rfl ?_
  refine o_eqs (by rw [h0]) ?_
  refine o_bipush dX0_addDoor_4 bp_9 ?_
  refine o_icmp_ge (tgt := 30) dX0_addDoor_6 (by decide) (fun c_6 => ?_) (fun c_6 => ?_)
  · skip
    refine o_iconst dX0_addDoor_30 ic_0 ?_
    refine o_iret dX0_addDoor_31 rfl (by first | exact nz_b _ | decide) (Nat.le_of_ble_eq_true rfl) (Nat.le_of_ble_eq_true rfl) ?_
    exact ⟨rfl, rfl⟩
  · have q0 : D < 9 := ltI (by omega) (by omega) c_6
    refine o_iload_n dX0_addDoor_9 rfl rfl ?_
    refine o_callSNr (is := []) (tX4_isRoom) ⟨rfl, rfl⟩ dX0_addDoor_10 wd303 csX4_isRoom rfl ⟨(Nat.le_of_ble_eq_true rfl), (Nat.le_of_ble_eq_true rfl)⟩ rfl rfl rfl (Nat.le_of_ble_eq_true rfl) (Nat.le_of_ble_eq_true rfl) (Nat.le_of_ble_eq_true rfl) ?_
    refine o_if_eq (tgt := 30) dX0_addDoor_13 (by decide) (fun c_13 => ?_) (fun c_13 => ?_)
    · skip
      refine o_iconst dX0_addDoor_30 ic_0 ?_
      refine o_iret dX0_addDoor_31 rfl (by first | exact nz_b _ | decide) (Nat.le_of_ble_eq_true rfl) (Nat.le_of_ble_eq_true rfl) ?_
      exact ⟨rfl, rfl⟩
    · have q1 : inR 8 (nu 2) = true := bI_ne c_13
      refine o_iload dX0_addDoor_16 rfl ?_
      refine o_callSNr (is := []) (tX4_isRoom) ⟨rfl, rfl⟩ dX0_addDoor_18 wd303 csX4_isRoom rfl ⟨(Nat.le_of_ble_eq_true rfl), (Nat.le_of_ble_eq_true rfl)⟩ rfl rfl rfl (Nat.le_of_ble_eq_true rfl) (Nat.le_of_ble_eq_true rfl) (Nat.le_of_ble_eq_true rfl) ?_
      refine o_if_eq (tgt := 30) dX0_addDoor_21 (by decide) (fun c_21 => ?_) (fun c_21 => ?_)
      · skip
        refine o_iconst dX0_addDoor_30 ic_0 ?_
        refine o_iret dX0_addDoor_31 rfl (by first | exact nz_b _ | decide) (Nat.le_of_ble_eq_true rfl) (Nat.le_of_ble_eq_true rfl) ?_
        exact ⟨rfl, rfl⟩
      · have q2 : inR 8 (nu 3) = true := bI_ne c_21
        refine o_iload_n dX0_addDoor_24 rfl rfl ?_
        refine o_iload dX0_addDoor_25 rfl ?_
        refine o_icmp_ne (tgt := 32) dX0_addDoor_27 (by decide) (fun c_27 => ?_) (fun c_27 => ?_)
        · exact absurd hno (by rw [decide_eq_true q0, q1, q2, decide_eq_false c_27]; decide)
        · skip
          refine o_iconst dX0_addDoor_30 ic_0 ?_
          refine o_iret dX0_addDoor_31 rfl (by first | exact nz_b _ | decide) (Nat.le_of_ble_eq_true rfl) (Nat.le_of_ble_eq_true rfl) ?_
          exact ⟨rfl, rfl⟩
theorem tt_add_yes {r ws fs nu : Nat → Int32} {D : Nat} {N : Nat} (hD : D < 9) (h0 : r 0 = nI D) (h1 : inR 8 (nu 2) = true) (h2 : inR 8 (nu 3) = true) (h3 : ¬ nu 2 = nu 3) (hT : TOk (adD r D nu) (D + 1) N) : PD mX0_addDoor [.ref 1, .int (nu 0), .int (nu 1), .int (nu 2), .int (nu 3)] (tW r ws fs) (some (.int 1)) (tW (adD r D nu) (nF (wyT (fA (adD r D nu)) (fB (adD r D nu)) (D + 1))) (fsT (fA (adD r D nu)) (fB (adD r D nu)) (D + 1))) := by
  refine PM.ofp 0 (by decide) (Nat.le_of_ble_eq_true rfl) ?_
  show Ok mX0_addDoor none 0 [some (.ref 1), some (.int (nu 0)), some (.int (nu 1)), some (.int (nu 2)), some (.int (nu 3))] [] (tW r ws fs) 0 0 _
  refine o_aload_n dX0_addDoor_0 rfl rfl ?_
  refine o_getf (j := 7) dX0_addDoor_1 rfl hcX0 inX0 (Nat.le_of_ble_eq_true rfl) wd116 rfl rfl ?_
  refine o_eqs (by rw [show r 0 = nI D from by exact h0]) ?_
  refine o_bipush dX0_addDoor_4 bp_9 ?_
  refine o_icmp_ge (tgt := 30) dX0_addDoor_6 (by decide) (fun c_6 => ?_) (fun c_6 => ?_)
  · exact absurd (geI (b := 9) (by omega) (by omega) c_6) (by omega)
  · skip
    refine o_iload_n dX0_addDoor_9 rfl rfl ?_
    refine o_callSNr (is := []) (tX4_isRoom) ⟨rfl, rfl⟩ dX0_addDoor_10 wd303 csX4_isRoom rfl ⟨(Nat.le_of_ble_eq_true rfl), (Nat.le_of_ble_eq_true rfl)⟩ rfl rfl rfl (Nat.le_of_ble_eq_true rfl) (Nat.le_of_ble_eq_true rfl) (Nat.le_of_ble_eq_true rfl) ?_
    refine o_if_eq (tgt := 30) dX0_addDoor_13 (by decide) (fun c_13 => ?_) (fun c_13 => ?_)
    · exact absurd (bI_0.mp c_13) (by rw [show isRoomB (nu 2) = inR 8 (nu 2) from rfl, h1]; decide)
    · skip
      refine o_iload dX0_addDoor_16 rfl ?_
      refine o_callSNr (is := []) (tX4_isRoom) ⟨rfl, rfl⟩ dX0_addDoor_18 wd303 csX4_isRoom rfl ⟨(Nat.le_of_ble_eq_true rfl), (Nat.le_of_ble_eq_true rfl)⟩ rfl rfl rfl (Nat.le_of_ble_eq_true rfl) (Nat.le_of_ble_eq_true rfl) (Nat.le_of_ble_eq_true rfl) ?_
      refine o_if_eq (tgt := 30) dX0_addDoor_21 (by decide) (fun c_21 => ?_) (fun c_21 => ?_)
      · exact absurd (bI_0.mp c_21) (by rw [show isRoomB (nu 3) = inR 8 (nu 3) from rfl, h2]; decide)
      · skip
        refine o_iload_n dX0_addDoor_24 rfl rfl ?_
        refine o_iload dX0_addDoor_25 rfl ?_
        refine o_icmp_ne (tgt := 32) dX0_addDoor_27 (by decide) (fun c_27 => ?_) (fun c_27 => ?_)
        · skip
          refine o_aload_n dX0_addDoor_32 rfl rfl ?_
          refine o_getf (j := 0) dX0_addDoor_33 rfl hcX0 inX0 (Nat.le_of_ble_eq_true rfl) wd102 rfl rfl ?_
          refine o_aload_n dX0_addDoor_36 rfl rfl ?_
          refine o_getf (j := 7) dX0_addDoor_37 rfl hcX0 inX0 (Nat.le_of_ble_eq_true rfl) wd116 rfl rfl ?_
          refine o_eqs (by rw [show r 0 = nI D from by exact h0]) ?_
          refine o_iload_n dX0_addDoor_40 rfl rfl ?_
          refine o_callSNd (w2 := tW (upd r (5 + 5 * D) (nu 0)) ws fs) (is := [0, 1, 2, 3, 4, 5, 6, 7, 8, 9, 10, 11]) (tput_kd hD) ⟨rfl, rfl⟩ dX0_addDoor_41 wd88 csX4_put rfl ⟨(Nat.le_of_ble_eq_true rfl), (Nat.le_of_ble_eq_true rfl)⟩ rfl rfl rfl (Nat.le_of_ble_eq_true rfl) (Nat.le_of_ble_eq_true rfl) (Nat.le_of_ble_eq_true rfl) rfl ?_
          refine o_aload_n dX0_addDoor_44 rfl rfl ?_
          refine o_getf (j := 1) dX0_addDoor_45 rfl hcX0 inX0 (Nat.le_of_ble_eq_true rfl) wd104 rfl rfl ?_
          refine o_aload_n dX0_addDoor_48 rfl rfl ?_
          refine o_getf (j := 7) dX0_addDoor_49 rfl hcX0 inX0 (Nat.le_of_ble_eq_true rfl) wd116 rfl rfl ?_
          refine o_eqs (by rw [show (upd r (5 + 5 * D) (nu 0)) 0 = nI D from by rw [upd_ne (by omega), h0]]) ?_
          refine o_iload_n dX0_addDoor_52 rfl rfl ?_
          refine o_callSNd (w2 := tW (upd (upd r (5 + 5 * D) (nu 0)) (6 + 5 * D) (nu 1)) ws fs) (is := [0, 1, 2, 3, 4, 5, 6, 7, 8, 9, 10, 11]) (tput_fg hD) ⟨rfl, rfl⟩ dX0_addDoor_53 wd88 csX4_put rfl ⟨(Nat.le_of_ble_eq_true rfl), (Nat.le_of_ble_eq_true rfl)⟩ rfl rfl rfl (Nat.le_of_ble_eq_true rfl) (Nat.le_of_ble_eq_true rfl) (Nat.le_of_ble_eq_true rfl) rfl ?_
          refine o_aload_n dX0_addDoor_56 rfl rfl ?_
          refine o_getf (j := 2) dX0_addDoor_57 rfl hcX0 inX0 (Nat.le_of_ble_eq_true rfl) wd106 rfl rfl ?_
          refine o_aload_n dX0_addDoor_60 rfl rfl ?_
          refine o_getf (j := 7) dX0_addDoor_61 rfl hcX0 inX0 (Nat.le_of_ble_eq_true rfl) wd116 rfl rfl ?_
          refine o_eqs (by rw [show (upd (upd r (5 + 5 * D) (nu 0)) (6 + 5 * D) (nu 1)) 0 = nI D from by rw [upd_ne (by omega), upd_ne (by omega), h0]]) ?_
          refine o_iload_n dX0_addDoor_64 rfl rfl ?_
          refine o_callSNd (w2 := tW (upd (upd (upd r (5 + 5 * D) (nu 0)) (6 + 5 * D) (nu 1)) (7 + 5 * D) (nu 2)) ws fs) (is := [0, 1, 2, 3, 4, 5, 6, 7, 8, 9, 10, 11]) (tput_fr hD) ⟨rfl, rfl⟩ dX0_addDoor_65 wd88 csX4_put rfl ⟨(Nat.le_of_ble_eq_true rfl), (Nat.le_of_ble_eq_true rfl)⟩ rfl rfl rfl (Nat.le_of_ble_eq_true rfl) (Nat.le_of_ble_eq_true rfl) (Nat.le_of_ble_eq_true rfl) rfl ?_
          refine o_aload_n dX0_addDoor_68 rfl rfl ?_
          refine o_getf (j := 3) dX0_addDoor_69 rfl hcX0 inX0 (Nat.le_of_ble_eq_true rfl) wd108 rfl rfl ?_
          refine o_aload_n dX0_addDoor_72 rfl rfl ?_
          refine o_getf (j := 7) dX0_addDoor_73 rfl hcX0 inX0 (Nat.le_of_ble_eq_true rfl) wd116 rfl rfl ?_
          refine o_eqs (by rw [show (upd (upd (upd r (5 + 5 * D) (nu 0)) (6 + 5 * D) (nu 1)) (7 + 5 * D) (nu 2)) 0 = nI D from by rw [upd_ne (by omega), upd_ne (by omega), upd_ne (by omega), h0]]) ?_
          refine o_iload dX0_addDoor_76 rfl ?_
          refine o_callSNd (w2 := tW (upd (upd (upd (upd r (5 + 5 * D) (nu 0)) (6 + 5 * D) (nu 1)) (7 + 5 * D) (nu 2)) (8 + 5 * D) (nu 3)) ws fs) (is := [0, 1, 2, 3, 4, 5, 6, 7, 8, 9, 10, 11]) (tput_in hD) ⟨rfl, rfl⟩ dX0_addDoor_78 wd88 csX4_put rfl ⟨(Nat.le_of_ble_eq_true rfl), (Nat.le_of_ble_eq_true rfl)⟩ rfl rfl rfl (Nat.le_of_ble_eq_true rfl) (Nat.le_of_ble_eq_true rfl) (Nat.le_of_ble_eq_true rfl) rfl ?_
          refine o_aload_n dX0_addDoor_81 rfl rfl ?_
          refine o_getf (j := 4) dX0_addDoor_82 rfl hcX0 inX0 (Nat.le_of_ble_eq_true rfl) wd111 rfl rfl ?_
          refine o_aload_n dX0_addDoor_85 rfl rfl ?_
          refine o_getf (j := 7) dX0_addDoor_86 rfl hcX0 inX0 (Nat.le_of_ble_eq_true rfl) wd116 rfl rfl ?_
          refine o_eqs (by rw [show (upd (upd (upd (upd r (5 + 5 * D) (nu 0)) (6 + 5 * D) (nu 1)) (7 + 5 * D) (nu 2)) (8 + 5 * D) (nu 3)) 0 = nI D from by rw [upd_ne (by omega), upd_ne (by omega), upd_ne (by omega), upd_ne (by omega), h0]]) ?_
          refine o_iconst dX0_addDoor_89 ic_0 ?_
          refine o_callSNd (w2 := tW (upd (upd (upd (upd (upd r (5 + 5 * D) (nu 0)) (6 + 5 * D) (nu 1)) (7 + 5 * D) (nu 2)) (8 + 5 * D) (nu 3)) (9 + 5 * D) 0) ws fs) (is := [0, 1, 2, 3, 4, 5, 6, 7, 8, 9, 10, 11]) (tput_wd hD) ⟨rfl, rfl⟩ dX0_addDoor_90 wd88 csX4_put rfl ⟨(Nat.le_of_ble_eq_true rfl), (Nat.le_of_ble_eq_true rfl)⟩ rfl rfl rfl (Nat.le_of_ble_eq_true rfl) (Nat.le_of_ble_eq_true rfl) (Nat.le_of_ble_eq_true rfl) rfl ?_
          refine o_aload_n dX0_addDoor_93 rfl rfl ?_
          refine o_dup dX0_addDoor_94 rfl ?_
          refine o_getf (j := 7) dX0_addDoor_95 rfl hcX0 inX0 (Nat.le_of_ble_eq_true rfl) wd116 rfl rfl ?_
          refine o_eqs (by rw [show (upd (upd (upd (upd (upd r (5 + 5 * D) (nu 0)) (6 + 5 * D) (nu 1)) (7 + 5 * D) (nu 2)) (8 + 5 * D) (nu 3)) (9 + 5 * D) 0) 0 = nI D from by rw [upd_ne (by omega), upd_ne (by omega), upd_ne (by omega), upd_ne (by omega), upd_ne (by omega), h0]]) ?_
          refine o_iconst dX0_addDoor_98 ic_1 ?_
          refine o_iadd dX0_addDoor_99 ?_
          refine o_eqs (by rw [nI_1]) ?_
          refine o_putf (j := 7) tyX0 dX0_addDoor_100 rfl hcX0 inX0 tyX0_ok nmX0 (Nat.le_of_ble_eq_true rfl) wd116 rfl rfl (fun _ => vp_nar_int _) (fun _ => rfl) (Nat.le_of_ble_eq_true rfl) rfl ?_
          refine o_eqw (w2 := tW (adD r D nu) ws fs) (by rw [adD_eq, tW_sc (i := 0) (by omega)]; rfl) ?_
          refine o_aload_n dX0_addDoor_103 rfl rfl ?_
          refine o_callVd (w2 := tW (adD r D nu) (nF (wyT (fA (adD r D nu)) (fB (adD r D nu)) (D + 1))) (fsT (fA (adD r D nu)) (fB (adD r D nu)) (D + 1))) (is := [1, 2, 3, 4, 5, 6, 7, 8]) (mwW hT) ⟨rfl, rfl⟩ dX0_addDoor_104 wd84 cvX0_measureWays rfl ⟨(Nat.le_of_ble_eq_true rfl), (Nat.le_of_ble_eq_true rfl)⟩ hcX0 rfl rfl rfl rfl (Nat.le_of_ble_eq_true rfl) (Nat.le_of_ble_eq_true rfl) (Nat.le_of_ble_eq_true rfl) rfl ?_
          refine o_iconst dX0_addDoor_107 ic_1 ?_
          refine o_iret dX0_addDoor_108 rfl (by first | exact nz_b _ | decide) (Nat.le_of_ble_eq_true rfl) (Nat.le_of_ble_eq_true rfl) ?_
          exact ⟨rfl, rfl⟩
        · exact absurd c_27 h3
