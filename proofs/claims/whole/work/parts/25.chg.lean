/-! THE REFERENCE'S CHANGES -/
section Q25
variable {l : Launch} {E : mx_Env} {t : Nat} {S : mx_S} {I : mx_I} {P : mx_P} {J : mx_G} {m : Nat → Int32} {mo A H G : Nat}
def vs_rem (I : mx_I) (mo A : Nat) : mx_I := if A = 12 then mx_up (vs_cq (mx_up (vs_cq I (mo + 4) 619 (mo + 4) 0 6809) mo 6 (nI 11)) (mo + 1) 0 (mo + 4) (619 * 11) 619) mo 6 (nI (11 + 1)) else mx_up (vs_cq I (mo + 1) 0 (mo + 4) (619 * A) 619) mo 6 (nI (A + 1))
theorem vs_rem_o {c : Nat} (h0 : c ≠ mo) (h4 : c ≠ mo + 4) : vs_rem I mo A c = I c := by
  unfold vs_rem
  split
  · rw [mx_up_ne h0, vs_cq_ne h4, mx_up_ne h0, vs_cq_ne h4]
  · rw [mx_up_ne h0, vs_cq_ne h4]
theorem vs_rem_k {k : Nat} (hk : k ≠ 6) : vs_rem I mo A mo k = I mo k := by
  have h4 : mo ≠ mo + 4 := by omega
  unfold vs_rem
  split
  · simp only [mx_up, hk, and_false, if_false, vs_cq_ne h4]
  · simp only [mx_up, hk, and_false, if_false, vs_cq_ne h4]
theorem c_Mo_rem (hM : mo_ok S P mo) (hA : I mo 6 = nI A) (hA12 : A ≤ 12) : mx_C l E M_Mo_remembers 0 0 0 [.ref mo] (t, S, I, P, J) (mx_rv (t, S, vs_rem I mo A, P, J)) := by
  unfold vs_rem
  split
  · next h => subst h; exact c_Mo_rem2 hM hA
  · exact c_Mo_rem1 hM hA (by omega)
theorem c_Mo_sets (hM : mo_ok S P mo) (hm : I (mo + 1) = m) (hA : I mo 6 = nI A) (hA12 : A ≤ 12) {w : Nat} {v : Int32} (hw : w < 1019) : mx_C l E M_Mo_sets 1 0 0 [.ref (mo), .int (nI (w)), .int (v)] (t, S, I, P, J) (mx_ri (m w) (t, S, mx_up (vs_rem I mo A) (mo + 1) w v, P, J)) := by
  obtain ⟨hM0, hMp1, hMp2, hMp4, hMp5, hMp7, hMp14, hMp21, hMp22, hMp23, hMp24, hMp25, hMp26, hMp27, hMs1, hMs2, hMs3, hMs4, hMs5, hMs6, hMs7, hMs8, hMs9, hMs10, hMs11, hMs12, hMs13⟩ := id hM
  refine mx_C_of (ls0 := [some (.ref (mo)), some (.int (nI (w))), some (.int (v)), none]) (by decide +kernel) rfl rfl (Nat.le_of_ble_eq_true rfl) rfl ?_
  refine mx_al0 d_Mo_sets_0 ?_
  refine mx_cV0v d_Mo_sets_1 (c_Mo_rem hM hA hA12) ok_Mo_remembers ml_Mo_341 (by assumption) ⟨rfl, rfl⟩ (by decide) (Nat.le_of_ble_eq_true rfl) ?_
  refine mx_al0 d_Mo_sets_4 ?_
  refine mx_getR d_Mo_sets_5 fl_Mo_7 (by assumption) (by assumption) ?_
  refine mx_il1 d_Mo_sets_8 ?_
  refine mx_iald d_Mo_sets_9 (by assumption) (nI_inb (by omega) (by omega)) ?_
  refine mx_ti (y := (vs_rem I mo A) (mo + 1) (w)) (by rw [nI_clamp (by omega)]) ?_
  refine mx_ti (y := (m w)) (by rw [vs_rem_o (by omega) (by omega)]; exact congrFun hm w) ?_
  refine mx_is3 d_Mo_sets_10 ?_
  refine mx_al0 d_Mo_sets_11 ?_
  refine mx_getR d_Mo_sets_12 fl_Mo_7 (by assumption) (by assumption) ?_
  refine mx_il1 d_Mo_sets_15 ?_
  refine mx_il2 d_Mo_sets_16 ?_
  refine mx_iast d_Mo_sets_17 (by assumption) (nI_inb (by omega) (by omega)) ?_
  rw [nI_clamp (by omega)]
  refine mx_il3 d_Mo_sets_18 ?_
  exact mx_iret d_Mo_sets_19 rfl (mx_ri_of2 rfl rfl)
theorem mx_up_z {a j k : Nat} {v : Int32} (h : k ≠ j) : mx_up I a j v a k = I a k := by simp [mx_up, h]
/-- a change: with 0 the row w gets v -/
def vs_chg (I : mx_I) (mo A : Nat) (c w : Nat) (v : Int32) : mx_I := if c = 0 then mx_up (vs_rem (mx_up I mo 0 (nI 0)) mo A) (mo + 1) w v else mx_up I mo 0 (nI c)
def sp_mark (m : Nat → Int32) (G : Nat) (v w : Int32) : Nat × Int32 := if vs_isN v G then (if vs_isN w 64 then (0, m (43 + 3 * v.toNatClampNeg + 2)) else (2, nI 0)) else (1, nI 0)
def sp_strike (m : Nat → Int32) (H : Nat) (v u : Int32) : Nat × Int32 := if vs_isN v H && vs_isN u 8 then (if m (195 + 8 * v.toNatClampNeg + u.toNatClampNeg) = -1 then (2, nI 0) else (0, m (195 + 8 * v.toNatClampNeg + u.toNatClampNeg))) else (1, nI 0)
theorem c_Mo_mark (hM : mo_ok S P mo) (hm : I (mo + 1) = m) (hG : m 4 = nI G) (hG8 : G ≤ 8) (hA : I mo 6 = nI A) (hA12 : A ≤ 12) {v w : Int32} : mx_C l E M_Mo_mark 2 0 0 [.ref (mo), .int (v), .int (w)] (t, S, I, P, J) (mx_ri (sp_mark m G v w).2 (t, S, vs_chg I mo A (sp_mark m G v w).1 (43 + 3 * v.toNatClampNeg + 2) (w), P, J)) := by
  obtain ⟨hM0, hMp1, hMp2, hMp4, hMp5, hMp7, hMp14, hMp21, hMp22, hMp23, hMp24, hMp25, hMp26, hMp27, hMs1, hMs2, hMs3, hMs4, hMs5, hMs6, hMs7, hMs8, hMs9, hMs10, hMs11, hMs12, hMs13⟩ := id hM
  refine mx_C_of (ls0 := [some (.ref (mo)), some (.int (v)), some (.int (w))]) (by decide +kernel) rfl rfl (Nat.le_of_ble_eq_true rfl) rfl ?_
  refine mx_al0 d_Mo_mark_0 ?_
  refine mx_al0 d_Mo_mark_1 ?_
  refine mx_il1 d_Mo_mark_2 ?_
  refine mx_cV1i d_Mo_mark_3 (cm_isGuest hM hm hG hG8) ok_Mo_isGuest ml_Mo_322 (by assumption) ⟨rfl, rfl⟩ (by decide) (Nat.le_of_ble_eq_true rfl) ?_
  refine mx_ifB_ne 13 d_Mo_mark_6 (by decide) (fun c_6 => ?_) (fun c_6 => ?_)
  · skip
    obtain ⟨g, hgL, rfl⟩ := vs_isN_of (by omega) c_6
    have hgc : (nI g).toNatClampNeg = g := nI_clamp (by omega)
    have hgL8 : g < 8 := by omega
    refine mx_il2 d_Mo_mark_13 ?_
    refine mx_in_0 d_Mo_mark_14 ?_
    refine mx_bip 63 d_Mo_mark_15 (by decide) ?_
    refine mx_cS3i d_Mo_mark_17 (cm_isIn0 (x := w) (n := 63) (by omega)) ok_Mo_isIn ml_Mo_57 (by decide) (Nat.le_of_ble_eq_true rfl) ?_
    refine mx_ifB_ne 27 d_Mo_mark_20 (by decide) (fun c_20 => ?_) (fun c_20 => ?_)
    · skip
      refine mx_in_0 d_Mo_mark_27 ?_
      refine mx_putI d_Mo_mark_28 fl_Mo_54 (by assumption) ?_
      refine mx_al0 d_Mo_mark_31 ?_
      refine mx_getI d_Mo_mark_32 fl_Mo_54 (by assumption) ?_
      refine mx_ti (y := nI (0)) (vs_upx) ?_
      refine mx_if_le 42 d_Mo_mark_35 (by decide) (fun c_35 => ?_) (fun c_35 => absurd (by decide) c_35)
      refine mx_al0 d_Mo_mark_42 ?_
      refine mx_bip 43 d_Mo_mark_43 (by decide) ?_
      refine mx_in_3 d_Mo_mark_45 ?_
      refine mx_il1 d_Mo_mark_46 ?_
      refine mx_imulN d_Mo_mark_47 ?_
      refine mx_iaddN d_Mo_mark_48 ?_
      refine mx_in_2 d_Mo_mark_49 ?_
      refine mx_iaddN d_Mo_mark_50 ?_
      refine mx_il2 d_Mo_mark_51 ?_
      refine mx_cV2i d_Mo_mark_52 (c_Mo_sets hM (vs_hm hm) (A := A) (w := 43 + 3 * g + 2) ((mx_up_z (by decide)).trans hA) hA12 (by omega)) ok_Mo_sets ml_Mo_344 (by assumption) ⟨rfl, rfl⟩ (by decide) (Nat.le_of_ble_eq_true rfl) ?_
      exact mx_iret d_Mo_mark_55 rfl (mx_ri_of2 (by simp [sp_mark, *]) (by simp [vs_chg, sp_mark, *]))
    · skip
      refine mx_in_2 d_Mo_mark_23 ?_
      refine mx_goto 28 d_Mo_mark_24 (by decide) ?_
      refine mx_putI d_Mo_mark_28 fl_Mo_54 (by assumption) ?_
      refine mx_al0 d_Mo_mark_31 ?_
      refine mx_getI d_Mo_mark_32 fl_Mo_54 (by assumption) ?_
      refine mx_ti (y := nI (2)) (vs_upx) ?_
      refine mx_if_le 42 d_Mo_mark_35 (by decide) (fun c_35 => absurd c_35 (by decide)) (fun c_35 => ?_)
      refine mx_in_0 d_Mo_mark_38 ?_
      refine mx_goto 55 d_Mo_mark_39 (by decide) ?_
      exact mx_iret d_Mo_mark_55 rfl (mx_ri_of2 (by simp [sp_mark, *]) (by simp [vs_chg, sp_mark, *]))
  · skip
    refine mx_in_1 d_Mo_mark_9 ?_
    refine mx_goto 28 d_Mo_mark_10 (by decide) ?_
    refine mx_putI d_Mo_mark_28 fl_Mo_54 (by assumption) ?_
    refine mx_al0 d_Mo_mark_31 ?_
    refine mx_getI d_Mo_mark_32 fl_Mo_54 (by assumption) ?_
    refine mx_ti (y := nI (1)) (vs_upx) ?_
    refine mx_if_le 42 d_Mo_mark_35 (by decide) (fun c_35 => absurd c_35 (by decide)) (fun c_35 => ?_)
    refine mx_in_0 d_Mo_mark_38 ?_
    refine mx_goto 55 d_Mo_mark_39 (by decide) ?_
    exact mx_iret d_Mo_mark_55 rfl (mx_ri_of2 (by simp [sp_mark, *]) (by simp [vs_chg, sp_mark, *]))
theorem mx_upup {a k : Nat} {v w : Int32} : mx_up (mx_up I a k v) a k w = mx_up I a k w := by
  funext c j; unfold mx_up; split <;> rfl
def sp_value (m : Nat → Int32) (H G : Nat) (v w : Int32) (b : Bool) (u : Int32) : Nat × Int32 := if vs_isN v H && vs_isN w G then (if vs_isN u 10 then (0, if b then m (67 + 8 * v.toNatClampNeg + w.toNatClampNeg) else m (131 + 8 * w.toNatClampNeg + v.toNatClampNeg)) else (2, nI 0)) else (1, nI 0)
def sp_book (m : Nat → Int32) (H G : Nat) (v w u : Int32) : Nat × Int32 := if vs_isM3 v w u H G then (if !(vs_can m v.toNatClampNeg w.toNatClampNeg u.toNatClampNeg) || bt (vs_busyK m w H) u.toNatClampNeg then (2, nI 0) else (0, m (195 + 8 * v.toNatClampNeg + u.toNatClampNeg))) else (1, nI 0)
theorem c_Mo_strike (hM : mo_ok S P mo) (hm : I (mo + 1) = m) (hH : m 3 = nI H) (hH8 : H ≤ 8) (hA : I mo 6 = nI A) (hA12 : A ≤ 12) {v u : Int32} : mx_C l E M_Mo_strike 2 0 0 [.ref (mo), .int (v), .int (u)] (t, S, I, P, J) (mx_ri (sp_strike m H v u).2 (t, S, vs_chg I mo A (sp_strike m H v u).1 (195 + 8 * v.toNatClampNeg + u.toNatClampNeg) (-1), P, J)) := by
  obtain ⟨hM0, hMp1, hMp2, hMp4, hMp5, hMp7, hMp14, hMp21, hMp22, hMp23, hMp24, hMp25, hMp26, hMp27, hMs1, hMs2, hMs3, hMs4, hMs5, hMs6, hMs7, hMs8, hMs9, hMs10, hMs11, hMs12, hMs13⟩ := id hM
  refine mx_C_of (ls0 := [some (.ref (mo)), some (.int (v)), some (.int (u))]) (by decide +kernel) rfl rfl (Nat.le_of_ble_eq_true rfl) rfl ?_
  refine mx_al0 d_Mo_strike_0 ?_
  refine mx_al0 d_Mo_strike_1 ?_
  refine mx_il1 d_Mo_strike_2 ?_
  refine mx_cV1i d_Mo_strike_3 (cm_isHost hM hm hH hH8) ok_Mo_isHost ml_Mo_310 (by assumption) ⟨rfl, rfl⟩ (by decide) (Nat.le_of_ble_eq_true rfl) ?_
  refine mx_ifB_eq 16 d_Mo_strike_6 (by decide) (fun c_6 => ?_) (fun c_6 => ?_)
  · skip
    refine mx_in_1 d_Mo_strike_16 ?_
    refine mx_goto 21 d_Mo_strike_17 (by decide) ?_
    refine mx_putI d_Mo_strike_21 fl_Mo_54 (by assumption) ?_
    refine mx_al0 d_Mo_strike_24 ?_
    refine mx_getI d_Mo_strike_25 fl_Mo_54 (by assumption) ?_
    refine mx_ti (y := nI (1)) (vs_upx) ?_
    refine mx_if_le 33 d_Mo_strike_28 (by decide) (fun c_28 => absurd c_28 (by decide)) (fun c_28 => ?_)
    refine mx_in_0 d_Mo_strike_31 ?_
    exact mx_iret d_Mo_strike_32 rfl (mx_ri_of2 (by simp [sp_strike, mx_upup, *]) (by simp [vs_chg, sp_strike, mx_upup, *]))
  · skip
    obtain ⟨h, hhL, rfl⟩ := vs_isN_of (by omega) c_6
    have hhc : (nI h).toNatClampNeg = h := nI_clamp (by omega)
    have hhL8 : h < 8 := by omega
    refine mx_il2 d_Mo_strike_9 ?_
    refine mx_cS1i d_Mo_strike_10 (c_Mo_isQuarter) ok_Mo_isQuarter ml_Mo_331 (by decide) (Nat.le_of_ble_eq_true rfl) ?_
    refine mx_ifB_ne 20 d_Mo_strike_13 (by decide) (fun c_13 => ?_) (fun c_13 => ?_)
    · skip
      obtain ⟨q, hqL, rfl⟩ := vs_isN_of (by omega) c_13
      have hqc : (nI q).toNatClampNeg = q := nI_clamp (by omega)
      have hqL8 : q < 8 := by omega
      refine mx_in_0 d_Mo_strike_20 ?_
      refine mx_putI d_Mo_strike_21 fl_Mo_54 (by assumption) ?_
      refine mx_al0 d_Mo_strike_24 ?_
      refine mx_getI d_Mo_strike_25 fl_Mo_54 (by assumption) ?_
      refine mx_ti (y := nI (0)) (vs_upx) ?_
      refine mx_if_le 33 d_Mo_strike_28 (by decide) (fun c_28 => ?_) (fun c_28 => absurd (by decide) c_28)
      refine mx_al0 d_Mo_strike_33 ?_
      refine mx_al0 d_Mo_strike_34 ?_
      refine mx_il1 d_Mo_strike_35 ?_
      refine mx_il2 d_Mo_strike_36 ?_
      refine mx_cV2i d_Mo_strike_37 (cm_bookedIn hM (vs_hm hm) (h := h) (q := q) (by omega) (by omega)) ok_Mo_bookedIn ml_Mo_271 (by assumption) ⟨rfl, rfl⟩ (by decide) (Nat.le_of_ble_eq_true rfl) ?_
      refine mx_ic_m1 d_Mo_strike_40 ?_
      refine mx_icmp_ne 48 d_Mo_strike_41 (by decide) (fun c_41 => ?_) (fun c_41 => ?_)
      · skip
        refine mx_in_0 d_Mo_strike_48 ?_
        refine mx_putI d_Mo_strike_49 fl_Mo_54 (by assumption) ?_
        refine mx_al0 d_Mo_strike_52 ?_
        refine mx_getI d_Mo_strike_53 fl_Mo_54 (by assumption) ?_
        refine mx_ti (y := nI (0)) (vs_upx) ?_
        refine mx_if_le 63 d_Mo_strike_56 (by decide) (fun c_56 => ?_) (fun c_56 => absurd (by decide) c_56)
        refine mx_al0 d_Mo_strike_63 ?_
        refine mx_sip 195 d_Mo_strike_64 (by decide) ?_
        refine mx_bip 8 d_Mo_strike_67 (by decide) ?_
        refine mx_il1 d_Mo_strike_69 ?_
        refine mx_imulN d_Mo_strike_70 ?_
        refine mx_iaddN d_Mo_strike_71 ?_
        refine mx_il2 d_Mo_strike_72 ?_
        refine mx_iaddN d_Mo_strike_73 ?_
        refine mx_ic_m1 d_Mo_strike_74 ?_
        refine mx_cV2i d_Mo_strike_75 (c_Mo_sets hM (vs_hm (vs_hm hm)) (A := A) (w := 195 + 8 * h + q) ((mx_up_z (by decide)).trans ((mx_up_z (by decide)).trans hA)) hA12 (by omega)) ok_Mo_sets ml_Mo_344 (by assumption) ⟨rfl, rfl⟩ (by decide) (Nat.le_of_ble_eq_true rfl) ?_
        exact mx_iret d_Mo_strike_78 rfl (mx_ri_of2 (by simp [sp_strike, mx_upup, *]) (by simp [vs_chg, sp_strike, mx_upup, *]))
      · skip
        refine mx_in_2 d_Mo_strike_44 ?_
        refine mx_goto 49 d_Mo_strike_45 (by decide) ?_
        refine mx_putI d_Mo_strike_49 fl_Mo_54 (by assumption) ?_
        refine mx_al0 d_Mo_strike_52 ?_
        refine mx_getI d_Mo_strike_53 fl_Mo_54 (by assumption) ?_
        refine mx_ti (y := nI (2)) (vs_upx) ?_
        refine mx_if_le 63 d_Mo_strike_56 (by decide) (fun c_56 => absurd c_56 (by decide)) (fun c_56 => ?_)
        refine mx_in_0 d_Mo_strike_59 ?_
        refine mx_goto 78 d_Mo_strike_60 (by decide) ?_
        exact mx_iret d_Mo_strike_78 rfl (mx_ri_of2 (by simp [sp_strike, mx_upup, *]) (by simp [vs_chg, sp_strike, mx_upup, *]))
    · skip
      refine mx_in_1 d_Mo_strike_16 ?_
      refine mx_goto 21 d_Mo_strike_17 (by decide) ?_
      refine mx_putI d_Mo_strike_21 fl_Mo_54 (by assumption) ?_
      refine mx_al0 d_Mo_strike_24 ?_
      refine mx_getI d_Mo_strike_25 fl_Mo_54 (by assumption) ?_
      refine mx_ti (y := nI (1)) (vs_upx) ?_
      refine mx_if_le 33 d_Mo_strike_28 (by decide) (fun c_28 => absurd c_28 (by decide)) (fun c_28 => ?_)
      refine mx_in_0 d_Mo_strike_31 ?_
      exact mx_iret d_Mo_strike_32 rfl (mx_ri_of2 (by simp [sp_strike, mx_upup, *]) (by simp [vs_chg, sp_strike, mx_upup, *]))
theorem c_Mo_value (hM : mo_ok S P mo) (hm : I (mo + 1) = m) (hH : m 3 = nI H) (hH8 : H ≤ 8) (hG : m 4 = nI G) (hG8 : G ≤ 8) (hA : I mo 6 = nI A) (hA12 : A ≤ 12) {v w u : Int32} {b : Bool} : mx_C l E M_Mo_value 2 0 0 [.ref (mo), .int (v), .int (w), .int (bI (b)), .int (u)] (t, S, I, P, J) (mx_ri (sp_value m H G v w b u).2 (t, S, vs_chg I mo A (sp_value m H G v w b u).1 (if b then 67 + 8 * v.toNatClampNeg + w.toNatClampNeg else 131 + 8 * w.toNatClampNeg + v.toNatClampNeg) (u), P, J)) := by
  obtain ⟨hM0, hMp1, hMp2, hMp4, hMp5, hMp7, hMp14, hMp21, hMp22, hMp23, hMp24, hMp25, hMp26, hMp27, hMs1, hMs2, hMs3, hMs4, hMs5, hMs6, hMs7, hMs8, hMs9, hMs10, hMs11, hMs12, hMs13⟩ := id hM
  refine mx_C_of (ls0 := [some (.ref (mo)), some (.int (v)), some (.int (w)), some (.int (bI (b))), some (.int (u))]) (by decide +kernel) rfl rfl (Nat.le_of_ble_eq_true rfl) rfl ?_
  refine mx_al0 d_Mo_value_0 ?_
  refine mx_al0 d_Mo_value_1 ?_
  refine mx_il1 d_Mo_value_2 ?_
  refine mx_cV1i d_Mo_value_3 (cm_isHost hM hm hH hH8) ok_Mo_isHost ml_Mo_310 (by assumption) ⟨rfl, rfl⟩ (by decide) (Nat.le_of_ble_eq_true rfl) ?_
  refine mx_ifB_eq 17 d_Mo_value_6 (by decide) (fun c_6 => ?_) (fun c_6 => ?_)
  · skip
    refine mx_in_1 d_Mo_value_17 ?_
    refine mx_goto 37 d_Mo_value_18 (by decide) ?_
    refine mx_putI d_Mo_value_37 fl_Mo_54 (by assumption) ?_
    refine mx_al0 d_Mo_value_40 ?_
    refine mx_getI d_Mo_value_41 fl_Mo_54 (by assumption) ?_
    refine mx_ti (y := nI (1)) (vs_upx) ?_
    refine mx_if_le 49 d_Mo_value_44 (by decide) (fun c_44 => absurd c_44 (by decide)) (fun c_44 => ?_)
    refine mx_in_0 d_Mo_value_47 ?_
    exact mx_iret d_Mo_value_48 rfl (mx_ri_of2 (by simp [sp_value, mx_upup, *]) (by simp [vs_chg, sp_value, mx_upup, *]))
  · skip
    obtain ⟨h, hhL, rfl⟩ := vs_isN_of (by omega) c_6
    have hhc : (nI h).toNatClampNeg = h := nI_clamp (by omega)
    have hhL8 : h < 8 := by omega
    refine mx_al0 d_Mo_value_9 ?_
    refine mx_il2 d_Mo_value_10 ?_
    refine mx_cV1i d_Mo_value_11 (cm_isGuest hM hm hG hG8) ok_Mo_isGuest ml_Mo_322 (by assumption) ⟨rfl, rfl⟩ (by decide) (Nat.le_of_ble_eq_true rfl) ?_
    refine mx_ifB_ne 21 d_Mo_value_14 (by decide) (fun c_14 => ?_) (fun c_14 => ?_)
    · skip
      obtain ⟨g, hgL, rfl⟩ := vs_isN_of (by omega) c_14
      have hgc : (nI g).toNatClampNeg = g := nI_clamp (by omega)
      have hgL8 : g < 8 := by omega
      refine mx_il4 d_Mo_value_21 ?_
      refine mx_in_0 d_Mo_value_23 ?_
      refine mx_bip 9 d_Mo_value_24 (by decide) ?_
      refine mx_cS3i d_Mo_value_26 (cm_isIn0 (x := u) (n := 9) (by omega)) ok_Mo_isIn ml_Mo_57 (by decide) (Nat.le_of_ble_eq_true rfl) ?_
      refine mx_ifB_ne 36 d_Mo_value_29 (by decide) (fun c_29 => ?_) (fun c_29 => ?_)
      · skip
        refine mx_in_0 d_Mo_value_36 ?_
        refine mx_putI d_Mo_value_37 fl_Mo_54 (by assumption) ?_
        refine mx_al0 d_Mo_value_40 ?_
        refine mx_getI d_Mo_value_41 fl_Mo_54 (by assumption) ?_
        refine mx_ti (y := nI (0)) (vs_upx) ?_
        refine mx_if_le 49 d_Mo_value_44 (by decide) (fun c_44 => ?_) (fun c_44 => absurd (by decide) c_44)
        refine mx_al0 d_Mo_value_49 ?_
        refine mx_il3 d_Mo_value_50 ?_
        refine mx_ifB_eq 66 d_Mo_value_51 (by decide) (fun c_51 => ?_) (fun c_51 => ?_)
        · skip
          refine mx_sip 131 d_Mo_value_66 (by decide) ?_
          refine mx_bip 8 d_Mo_value_69 (by decide) ?_
          refine mx_il2 d_Mo_value_71 ?_
          refine mx_imulN d_Mo_value_72 ?_
          refine mx_iaddN d_Mo_value_73 ?_
          refine mx_il1 d_Mo_value_74 ?_
          refine mx_iaddN d_Mo_value_75 ?_
          refine mx_il4 d_Mo_value_76 ?_
          refine mx_cV2i d_Mo_value_78 (c_Mo_sets hM (vs_hm hm) (A := A) (w := 131 + 8 * g + h) ((mx_up_z (by decide)).trans hA) hA12 (by omega)) ok_Mo_sets ml_Mo_344 (by assumption) ⟨rfl, rfl⟩ (by decide) (Nat.le_of_ble_eq_true rfl) ?_
          exact mx_iret d_Mo_value_81 rfl (mx_ri_of2 (by simp [sp_value, mx_upup, *]) (by simp [vs_chg, sp_value, mx_upup, *]))
        · skip
          refine mx_bip 67 d_Mo_value_54 (by decide) ?_
          refine mx_bip 8 d_Mo_value_56 (by decide) ?_
          refine mx_il1 d_Mo_value_58 ?_
          refine mx_imulN d_Mo_value_59 ?_
          refine mx_iaddN d_Mo_value_60 ?_
          refine mx_il2 d_Mo_value_61 ?_
          refine mx_iaddN d_Mo_value_62 ?_
          refine mx_goto 76 d_Mo_value_63 (by decide) ?_
          refine mx_il4 d_Mo_value_76 ?_
          refine mx_cV2i d_Mo_value_78 (c_Mo_sets hM (vs_hm hm) (A := A) (w := 67 + 8 * h + g) ((mx_up_z (by decide)).trans hA) hA12 (by omega)) ok_Mo_sets ml_Mo_344 (by assumption) ⟨rfl, rfl⟩ (by decide) (Nat.le_of_ble_eq_true rfl) ?_
          exact mx_iret d_Mo_value_81 rfl (mx_ri_of2 (by simp [sp_value, mx_upup, *]) (by simp [vs_chg, sp_value, mx_upup, *]))
      · skip
        refine mx_in_2 d_Mo_value_32 ?_
        refine mx_goto 37 d_Mo_value_33 (by decide) ?_
        refine mx_putI d_Mo_value_37 fl_Mo_54 (by assumption) ?_
        refine mx_al0 d_Mo_value_40 ?_
        refine mx_getI d_Mo_value_41 fl_Mo_54 (by assumption) ?_
        refine mx_ti (y := nI (2)) (vs_upx) ?_
        refine mx_if_le 49 d_Mo_value_44 (by decide) (fun c_44 => absurd c_44 (by decide)) (fun c_44 => ?_)
        refine mx_in_0 d_Mo_value_47 ?_
        exact mx_iret d_Mo_value_48 rfl (mx_ri_of2 (by simp [sp_value, mx_upup, *]) (by simp [vs_chg, sp_value, mx_upup, *]))
    · skip
      refine mx_in_1 d_Mo_value_17 ?_
      refine mx_goto 37 d_Mo_value_18 (by decide) ?_
      refine mx_putI d_Mo_value_37 fl_Mo_54 (by assumption) ?_
      refine mx_al0 d_Mo_value_40 ?_
      refine mx_getI d_Mo_value_41 fl_Mo_54 (by assumption) ?_
      refine mx_ti (y := nI (1)) (vs_upx) ?_
      refine mx_if_le 49 d_Mo_value_44 (by decide) (fun c_44 => absurd c_44 (by decide)) (fun c_44 => ?_)
      refine mx_in_0 d_Mo_value_47 ?_
      exact mx_iret d_Mo_value_48 rfl (mx_ri_of2 (by simp [sp_value, mx_upup, *]) (by simp [vs_chg, sp_value, mx_upup, *]))
theorem c_Mo_book (hM : mo_ok S P mo) (hm : I (mo + 1) = m) (hH : m 3 = nI H) (hH8 : H ≤ 8) (hG : m 4 = nI G) (hG8 : G ≤ 8) (hA : I mo 6 = nI A) (hA12 : A ≤ 12) {v w u : Int32} : mx_C l E M_Mo_book 4 0 0 [.ref (mo), .int (v), .int (w), .int (u)] (t, S, I, P, J) (mx_ri (sp_book m H G v w u).2 (t, S, vs_chg I mo A (sp_book m H G v w u).1 (195 + 8 * v.toNatClampNeg + u.toNatClampNeg) (w), P, J)) := by
  obtain ⟨hM0, hMp1, hMp2, hMp4, hMp5, hMp7, hMp14, hMp21, hMp22, hMp23, hMp24, hMp25, hMp26, hMp27, hMs1, hMs2, hMs3, hMs4, hMs5, hMs6, hMs7, hMs8, hMs9, hMs10, hMs11, hMs12, hMs13⟩ := id hM
  refine mx_C_of (ls0 := [some (.ref (mo)), some (.int (v)), some (.int (w)), some (.int (u))]) (by decide +kernel) rfl rfl (Nat.le_of_ble_eq_true rfl) rfl ?_
  refine mx_al0 d_Mo_book_0 ?_
  refine mx_il1 d_Mo_book_1 ?_
  refine mx_il2 d_Mo_book_2 ?_
  refine mx_il3 d_Mo_book_3 ?_
  refine mx_cV3i d_Mo_book_4 (c_Mo_areThere hM hm hH hH8 hG hG8) ok_Mo_areThere ml_Mo_334 (by assumption) ⟨rfl, rfl⟩ (by decide) (Nat.le_of_ble_eq_true rfl) ?_
  refine mx_ifB_ne 12 d_Mo_book_7 (by decide) (fun c_7 => ?_) (fun c_7 => ?_)
  · skip
    obtain ⟨⟨h, hhL, rfl⟩, ⟨g, hgL, rfl⟩, ⟨q, hqL, rfl⟩⟩ := vs_isM c_7 hH8 hG8
    have hhc : (nI h).toNatClampNeg = h := nI_clamp (by omega)
    have hgc : (nI g).toNatClampNeg = g := nI_clamp (by omega)
    have hqc : (nI q).toNatClampNeg = q := nI_clamp (by omega)
    refine mx_hc (I' := mx_up I mo 0 (nI 0)) (by rw [c_7]; rfl) ?_
    refine mx_al0 d_Mo_book_12 ?_
    refine mx_al0 d_Mo_book_13 ?_
    refine mx_il1 d_Mo_book_14 ?_
    refine mx_il2 d_Mo_book_15 ?_
    refine mx_il3 d_Mo_book_16 ?_
    refine mx_cV3i d_Mo_book_17 (cm_canMeet hM (vs_hm hm) (h := h) (g := g) (q := q) (by omega) (by omega) (by omega)) ok_Mo_canMeet ml_Mo_280 (by assumption) ⟨rfl, rfl⟩ (by decide) (Nat.le_of_ble_eq_true rfl) ?_
    refine mx_ifB_eq 35 d_Mo_book_20 (by decide) (fun c_20 => ?_) (fun c_20 => ?_)
    · skip
      refine mx_in_2 d_Mo_book_35 ?_
      refine mx_goto 40 d_Mo_book_36 (by decide) ?_
      refine mx_putI d_Mo_book_40 fl_Mo_54 (by assumption) ?_
      refine mx_al0 d_Mo_book_43 ?_
      refine mx_getI d_Mo_book_44 fl_Mo_54 (by assumption) ?_
      refine mx_ti (y := nI (2)) (vs_upx) ?_
      refine mx_if_le 54 d_Mo_book_47 (by decide) (fun c_47 => absurd c_47 (by decide)) (fun c_47 => ?_)
      refine mx_in_0 d_Mo_book_50 ?_
      refine mx_goto 69 d_Mo_book_51 (by decide) ?_
      exact mx_iret d_Mo_book_69 rfl (mx_ri_of2 (by simp [sp_book, mx_upup, *]) (by simp [vs_chg, sp_book, mx_upup, *]))
    · skip
      refine mx_al0 d_Mo_book_23 ?_
      refine mx_il2 d_Mo_book_24 ?_
      refine mx_cV1i d_Mo_book_25 (cm_busyOf hM (vs_hm hm) hH hH8) ok_Mo_busyOf ml_Mo_325 (by assumption) ⟨rfl, rfl⟩ (by decide) (Nat.le_of_ble_eq_true rfl) ?_
      refine mx_il3 d_Mo_book_28 ?_
      refine mx_cS2i d_Mo_book_29 (c_Mo_isOf (j := q) (by omega)) ok_Mo_isOf ml_Mo_74 (by decide) (Nat.le_of_ble_eq_true rfl) ?_
      refine mx_ifB_eq 39 d_Mo_book_32 (by decide) (fun c_32 => ?_) (fun c_32 => ?_)
      · skip
        refine mx_in_0 d_Mo_book_39 ?_
        refine mx_putI d_Mo_book_40 fl_Mo_54 (by assumption) ?_
        refine mx_al0 d_Mo_book_43 ?_
        refine mx_getI d_Mo_book_44 fl_Mo_54 (by assumption) ?_
        refine mx_ti (y := nI (0)) (vs_upx) ?_
        refine mx_if_le 54 d_Mo_book_47 (by decide) (fun c_47 => ?_) (fun c_47 => absurd (by decide) c_47)
        refine mx_al0 d_Mo_book_54 ?_
        refine mx_sip 195 d_Mo_book_55 (by decide) ?_
        refine mx_bip 8 d_Mo_book_58 (by decide) ?_
        refine mx_il1 d_Mo_book_60 ?_
        refine mx_imulN d_Mo_book_61 ?_
        refine mx_iaddN d_Mo_book_62 ?_
        refine mx_il3 d_Mo_book_63 ?_
        refine mx_iaddN d_Mo_book_64 ?_
        refine mx_il2 d_Mo_book_65 ?_
        refine mx_cV2i d_Mo_book_66 (c_Mo_sets hM (vs_hm (vs_hm hm)) (A := A) (w := 195 + 8 * h + q) ((mx_up_z (by decide)).trans ((mx_up_z (by decide)).trans hA)) hA12 (by omega)) ok_Mo_sets ml_Mo_344 (by assumption) ⟨rfl, rfl⟩ (by decide) (Nat.le_of_ble_eq_true rfl) ?_
        exact mx_iret d_Mo_book_69 rfl (mx_ri_of2 (by simp [sp_book, mx_upup, *]) (by simp [vs_chg, sp_book, mx_upup, *]))
      · skip
        refine mx_in_2 d_Mo_book_35 ?_
        refine mx_goto 40 d_Mo_book_36 (by decide) ?_
        refine mx_putI d_Mo_book_40 fl_Mo_54 (by assumption) ?_
        refine mx_al0 d_Mo_book_43 ?_
        refine mx_getI d_Mo_book_44 fl_Mo_54 (by assumption) ?_
        refine mx_ti (y := nI (2)) (vs_upx) ?_
        refine mx_if_le 54 d_Mo_book_47 (by decide) (fun c_47 => absurd c_47 (by decide)) (fun c_47 => ?_)
        refine mx_in_0 d_Mo_book_50 ?_
        refine mx_goto 69 d_Mo_book_51 (by decide) ?_
        exact mx_iret d_Mo_book_69 rfl (mx_ri_of2 (by simp [sp_book, mx_upup, *]) (by simp [vs_chg, sp_book, mx_upup, *]))
  · skip
    refine mx_in_0 d_Mo_book_10 ?_
    exact mx_iret d_Mo_book_11 rfl (mx_ri_of2 (by simp [sp_book, mx_upup, *]) (by simp [vs_chg, sp_book, mx_upup, *]))
end Q25
