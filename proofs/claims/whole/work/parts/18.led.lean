/-! LED, LOG, COUNT -/
section J18
variable {l : Launch} {E : mx_Env} {t : Nat} {S : mx_S} {I : mx_I} {P : mx_P} {J : mx_G} {m : Nat → Int32} {x mo H G N z : Nat}
def sp_led (m : Nat → Int32) (H N : Nat) (v : Int32) (b : Bool) : Nat × Int32 := if vs_isN v H then (0, if b then vs_last m v N else nI (vs_rows m v N)) else (1, nI 0)
def sp_log (m : Nat → Int32) (N : Nat) (v w : Int32) : Nat × Int32 := if vs_isN w 6 then (0, if vs_isN v N then m (259 + 6 * v.toNatClampNeg + w.toNatClampNeg) else (-2)) else (1, nI 0)
def vs_ledN (m : Nat → Int32) (v : Int32) (N j : Nat) : Nat := vf j (fun i s => if m (259 + 6 * (N - i - 1) + 1) = v then s + 1 else s) 0
def vs_ledF (m : Nat → Int32) (v : Int32) (N j : Nat) : Int32 := vf j (fun i s => if m (259 + 6 * (N - i - 1) + 1) = v then m (259 + 6 * (N - i - 1) + 0) else s) (-1)
theorem vs_ledN_eq {v : Int32} {j : Nat} (hj : j ≤ N) : vs_rows m v N = vs_rows m v (N - j) + vs_ledN m v N j := by
  induction j with
  | zero => rfl
  | succ j ih =>
    rw [ih (by omega)]
    obtain ⟨n, e⟩ : ∃ n, N - j = n + 1 := ⟨N - j - 1, by omega⟩
    have e2 : N - (j + 1) = n := by omega
    have e3 : vs_ledN m v N (j + 1) = if m (259 + 6 * (N - j - 1) + 1) = v then vs_ledN m v N j + 1 else vs_ledN m v N j := rfl
    rw [e3, e2, e, show n + 1 - 1 = n by omega]
    show (if m (259 + 6 * n + 1) = v then vs_rows m v n + 1 else vs_rows m v n) + _ = _
    split <;> omega
theorem vs_ledF_eq {v : Int32} {j : Nat} (hj : j ≤ N) : vs_last m v N = if vs_any (vs_isH m v) (N - j) then vs_last m v (N - j) else vs_ledF m v N j := by
  induction j with
  | zero =>
    cases hb : vs_any (vs_isH m v) N
    · rw [Nat.sub_zero, if_neg (by decide), vs_last_f]
      · rfl
      · intro i hi
        cases h2 : vs_isH m v i
        · rfl
        · rw [vs_any_t hi h2] at hb; cases hb
    · rw [Nat.sub_zero, if_pos rfl]
  | succ j ih =>
    rw [ih (by omega)]
    obtain ⟨n, e⟩ : ∃ n, N - j = n + 1 := ⟨N - j - 1, by omega⟩
    have e2 : N - (j + 1) = n := by omega
    have e3 : vs_ledF m v N (j + 1) = if m (259 + 6 * (N - j - 1) + 1) = v then m (259 + 6 * (N - j - 1) + 0) else vs_ledF m v N j := rfl
    rw [e3, e2, e, show n + 1 - 1 = n by omega, vs_any_s, vs_last]
    cases hb : vs_any (vs_isH m v) n
    · by_cases h1 : m (259 + 6 * n + 1) = v
      · simp [vs_isH, h1]
      · simp [vs_isH, h1]
    · simp
theorem vs_led5 {j : Nat} (h : j < N) : nI (N - j) - nI 1 + -1 = nI (N - (j + 1)) - nI 1 := by
  rw [show N - (j + 1) = N - j - 1 by omega, ← nI_sub (a := N - j) (b := 1) (by omega), Int32.sub_eq_add_neg (nI (N - j) - nI 1), show -nI 1 = (-1 : Int32) from by decide]
theorem vs_led1 {v : Int32} : vs_ledN m v N N = vs_rows m v N := by
  have h := vs_ledN_eq (m := m) (v := v) (Nat.le_refl N)
  rw [Nat.sub_self] at h
  rw [h]; exact (Nat.zero_add _).symm
theorem vs_led2 {v : Int32} : vs_ledF m v N N = vs_last m v N := by
  have h := vs_ledF_eq (m := m) (v := v) (Nat.le_refl N)
  rw [Nat.sub_self, vs_any_0, if_neg (by decide)] at h
  exact h.symm
theorem vs_isN_leN {x : Int32} {n : Nat} (hn : n < 1000) : (decide (nI 0 ≤ x) && decide (x ≤ nI n - nI 1)) = vs_isN x n := by
  cases n with
  | zero =>
    by_cases h : 0 ≤ x
    · obtain ⟨j, hj, rfl⟩ := nI_of (x := x) (Int32.not_lt.mpr h)
      have h1 : ¬ nI j ≤ nI 0 - nI 1 := by
        rw [show nI 0 - nI 1 = (-1 : Int32) by decide, Int32.le_iff_toInt_le, nI_toInt hj]
        have : (-1 : Int32).toInt = -1 := by decide
        omega
      rw [vs_isN_geN (nI_pos' (by omega))]
      simp [h1]
    · have h0 : (nI 0 : Int32) = 0 := rfl
      simp [vs_isN, h, h0]
  | succ n => rw [nI_sub (by omega), show n + 1 - 1 = n by omega]; exact vs_isN_le2 (by omega)
theorem c_Vh_led (htr : l.stackTraces = false) (hV : vh_ok S P x) (hSt : st_ok S P (x + 23)) (hSr : st_rel I (x + 23) m) (hH : m 3 = nI H) (hH8 : H ≤ 8) (hLr : lo_rel I (x + 23 + 9) m N z) {v : Int32} {b : Bool} : mx_C l E M_Vh_led 7 1 6 [.ref (x), .int (v), .int (bI (b))] (t, S, I, P, J) (mx_po (fun _ => "java/lang/IndexOutOfBoundsException") (sp_led m H N v b) (t, S, I, P, J)) := by
  obtain ⟨hV0, hVp0, hVp1, hVp2, hVp3, hVp4, hVp5, hVp7, hVp8, hVp9, hVp10, hVp11, hVp12, hVs15, hVs16, hVs68⟩ := id hV
  obtain ⟨hC0, hC1, hC2, hC3, hC4, hC5, hC6, hD1, hD2, hD3, hD4, hPe, hLo⟩ := id hSt
  obtain ⟨hPr, u0, u1, u2, u3, u4, u5, u6, u7, u8⟩ := id hSr
  obtain ⟨hA0, hA1, hA2, hA3, hA4, hA5, hA6, hA7, hB1, hB2, hB3, hB4, hB5, hB6, hB7⟩ := id hPe
  obtain ⟨r0, r1, r2, r3, r4, r5, r6, r7, r8⟩ := id hPr
  obtain ⟨hL0, hLp, hLs⟩ := id hLo
  refine mx_C_of (ls0 := [some (.ref (x)), some (.int (v)), some (.int (bI (b)))]) (by decide +kernel) rfl rfl (Nat.le_of_ble_eq_true rfl) rfl ?_
  refine mx_al0 d_Vh_led_0 ?_
  refine mx_il1 d_Vh_led_1 ?_
  refine mx_nV1 d_Vh_led_2 (c_needHost htr hV hSt hSr hH hH8) ok_Vh_needHost ml_Vh_159 (by assumption) ⟨rfl, rfl⟩ rfl (by decide) (by decide) (by decide) (Nat.le_of_ble_eq_true rfl) (fun hb2 t9 ht => mx_po_x ht 0 (by simp_all [sp_led]) rfl) (fun hb2 => ?_)
  obtain ⟨h, hhL, rfl⟩ := vs_isN_of (by omega) hb2
  have hhc : (nI h).toNatClampNeg = h := nI_clamp (by omega)
  have hhL8 : h < 8 := by omega
  refine mx_il2 d_Vh_led_5 ?_
  refine mx_ifB_eq 23 d_Vh_led_6 (by decide) (fun c_6 => ?_) (fun c_6 => ?_)
  · skip
    refine mx_al0 d_Vh_led_23 ?_
    refine mx_getR d_Vh_led_24 fl_Vh_51 (by assumption) (by assumption) ?_
    refine mx_getR d_Vh_led_27 fl_Vh_432 (by assumption) (by assumption) ?_
    refine mx_il1 d_Vh_led_30 ?_
    refine mx_cV1i d_Vh_led_31 (c_Lo_rowsOf hLo hLr) ok_Lo_rowsOf ml_Vh_441 (by assumption) ⟨rfl, rfl⟩ (by decide) (Nat.le_of_ble_eq_true rfl) ?_
    exact mx_iret d_Vh_led_34 rfl (mx_po_i (by simp [sp_led, *]))
  · skip
    refine mx_al0 d_Vh_led_9 ?_
    refine mx_getR d_Vh_led_10 fl_Vh_51 (by assumption) (by assumption) ?_
    refine mx_getR d_Vh_led_13 fl_Vh_432 (by assumption) (by assumption) ?_
    refine mx_il1 d_Vh_led_16 ?_
    refine mx_cV1i d_Vh_led_17 (c_Lo_latest hLo hLr) ok_Lo_latestWeekOf ml_Vh_436 (by assumption) ⟨rfl, rfl⟩ (by decide) (Nat.le_of_ble_eq_true rfl) ?_
    refine mx_goto 34 d_Vh_led_20 (by decide) ?_
    exact mx_iret d_Vh_led_34 rfl (mx_po_i (by simp [sp_led, *]))
theorem c_Vh_log (htr : l.stackTraces = false) (hV : vh_ok S P x) (hSt : st_ok S P (x + 23)) (hSr : st_rel I (x + 23) m) (hLr : lo_rel I (x + 23 + 9) m N z) {v w : Int32} : mx_C l E M_Vh_log 6 1 6 [.ref (x), .int (v), .int (w)] (t, S, I, P, J) (mx_po (fun _ => "java/util/NoSuchElementException") (sp_log m N v w) (t, S, I, P, J)) := by
  obtain ⟨hV0, hVp0, hVp1, hVp2, hVp3, hVp4, hVp5, hVp7, hVp8, hVp9, hVp10, hVp11, hVp12, hVs15, hVs16, hVs68⟩ := id hV
  obtain ⟨hC0, hC1, hC2, hC3, hC4, hC5, hC6, hD1, hD2, hD3, hD4, hPe, hLo⟩ := id hSt
  obtain ⟨hPr, u0, u1, u2, u3, u4, u5, u6, u7, u8⟩ := id hSr
  obtain ⟨hA0, hA1, hA2, hA3, hA4, hA5, hA6, hA7, hB1, hB2, hB3, hB4, hB5, hB6, hB7⟩ := id hPe
  obtain ⟨r0, r1, r2, r3, r4, r5, r6, r7, r8⟩ := id hPr
  obtain ⟨hL0, hLp, hLs⟩ := id hLo
  refine mx_C_of (ls0 := [some (.ref (x)), some (.int (v)), some (.int (w))]) (by decide +kernel) rfl rfl (Nat.le_of_ble_eq_true rfl) rfl ?_
  refine mx_il2 d_Vh_log_0 ?_
  refine mx_if_lt 10 d_Vh_log_1 (by decide) (fun c_1 => ?_) (fun c_1 => ?_)
  · skip
    have hwO : vs_isN w 6 = false := vs_isN_ge0 c_1
    exact mx_throwQW (i := 42) htr rfl rfl rfl d_Vh_log_10 d_Vh_log_13 d_Vh_log_14 d_Vh_log_17 d_Vh_log_20 (by decide) (by decide) (by decide) (Nat.le_of_ble_eq_true rfl) (fun t9 ht => mx_po_x ht 0 (by simp [sp_log, hwO]) rfl)
  · skip
    refine mx_il2 d_Vh_log_4 ?_
    refine mx_bip 6 d_Vh_log_5 (by decide) ?_
    refine mx_icmp_lt 21 d_Vh_log_7 (by decide) (fun c_7 => ?_) (fun c_7 => ?_)
    · skip
      have hwN : vs_isN w 6 = true := vs_isN_in (Int32.not_lt.mp c_1) c_7
      obtain ⟨k, hkL, rfl⟩ := vs_isN_of (by omega) hwN
      have hkc : (nI k).toNatClampNeg = k := nI_clamp (by omega)
      have hkL8 : k < 8 := by omega
      refine mx_al0 d_Vh_log_21 ?_
      refine mx_getR d_Vh_log_22 fl_Vh_51 (by assumption) (by assumption) ?_
      refine mx_getR d_Vh_log_25 fl_Vh_432 (by assumption) (by assumption) ?_
      refine mx_il1 d_Vh_log_28 ?_
      refine mx_cV1i d_Vh_log_29 (c_Lo_hasRow hLo hLr) ok_Lo_hasRow ml_Vh_446 (by assumption) ⟨rfl, rfl⟩ (by decide) (Nat.le_of_ble_eq_true rfl) ?_
      refine mx_ifB_eq 50 d_Vh_log_32 (by decide) (fun c_32 => ?_) (fun c_32 => ?_)
      · skip
        refine mx_bipush (v := -2) d_Vh_log_50 (by decide) ?_
        exact mx_iret d_Vh_log_52 rfl (mx_po_i (by simp [sp_log, *]))
      · skip
        have hN60 := hLr.2.2.1
        obtain ⟨j, hjL, rfl⟩ := vs_isN_of (by omega) c_32
        have hjc : (nI j).toNatClampNeg = j := nI_clamp (by omega)
        refine mx_al0 d_Vh_log_35 ?_
        refine mx_getR d_Vh_log_36 fl_Vh_51 (by assumption) (by assumption) ?_
        refine mx_getR d_Vh_log_39 fl_Vh_432 (by assumption) (by assumption) ?_
        refine mx_il1 d_Vh_log_42 ?_
        refine mx_il2 d_Vh_log_43 ?_
        refine mx_cV2i d_Vh_log_44 (c_Lo_number hLo hLr (j := j) (k := k) (by omega) (by omega)) ok_Lo_number ml_Vh_449 (by assumption) ⟨rfl, rfl⟩ (by decide) (Nat.le_of_ble_eq_true rfl) ?_
        refine mx_goto 52 d_Vh_log_47 (by decide) ?_
        exact mx_iret d_Vh_log_52 rfl (mx_po_i (by simp [sp_log, *]))
    · skip
      have hwO : vs_isN w 6 = false := vs_isN_geN (Int32.not_lt.mp c_7)
      exact mx_throwQW (i := 42) htr rfl rfl rfl d_Vh_log_10 d_Vh_log_13 d_Vh_log_14 d_Vh_log_17 d_Vh_log_20 (by decide) (by decide) (by decide) (Nat.le_of_ble_eq_true rfl) (fun t9 ht => mx_po_x ht 0 (by simp [sp_log, hwO]) rfl)
theorem c_Mo_logged (hM : mo_ok S P mo) (hm : I (mo + 1) = m) {j k : Nat} (hj : j < 60) (hk : k < 6) : mx_C l E M_Mo_logged 0 0 0 [.ref (mo), .int (nI (j)), .int (nI (k))] (t, S, I, P, J) (mx_ri (m (259 + 6 * j + k)) (t, S, I, P, J)) := by
  obtain ⟨hM0, hMp1, hMp2, hMp4, hMp5, hMp7, hMp14, hMp21, hMp22, hMp23, hMp24, hMp25, hMp26, hMp27, hMs1, hMs2, hMs3, hMs4, hMs5, hMs6, hMs7, hMs8, hMs9, hMs10, hMs11, hMs12, hMs13⟩ := id hM
  refine mx_C_of (ls0 := [some (.ref (mo)), some (.int (nI (j))), some (.int (nI (k)))]) (by decide +kernel) rfl rfl (Nat.le_of_ble_eq_true rfl) rfl ?_
  refine mx_al0 d_Mo_logged_0 ?_
  refine mx_getR d_Mo_logged_1 fl_Mo_7 (by assumption) (by assumption) ?_
  refine mx_sip 259 d_Mo_logged_4 (by decide) ?_
  refine mx_bip 6 d_Mo_logged_7 (by decide) ?_
  refine mx_il1 d_Mo_logged_9 ?_
  refine mx_imulN d_Mo_logged_10 ?_
  refine mx_iaddN d_Mo_logged_11 ?_
  refine mx_il2 d_Mo_logged_12 ?_
  refine mx_iaddN d_Mo_logged_13 ?_
  refine mx_iald d_Mo_logged_14 (by assumption) (nI_inb (by omega) (by omega)) ?_
  refine mx_ti (y := I (mo + 1) (259 + 6 * j + k)) (by rw [nI_clamp (by omega)]) ?_
  exact mx_iret d_Mo_logged_15 rfl (mx_ri_of (congrFun hm _))
theorem c_Mo_log (hM : mo_ok S P mo) (hm : I (mo + 1) = m) (hN : m 9 = nI N) (hN60 : N ≤ 60) {v w : Int32} : mx_C l E M_Mo_log 1 0 0 [.ref (mo), .int (v), .int (w)] (t, S, I, P, J) (mx_ri (sp_log m N v w).2 (t, S, mx_up I (mo) 0 (nI (sp_log m N v w).1), P, J)) := by
  obtain ⟨hM0, hMp1, hMp2, hMp4, hMp5, hMp7, hMp14, hMp21, hMp22, hMp23, hMp24, hMp25, hMp26, hMp27, hMs1, hMs2, hMs3, hMs4, hMs5, hMs6, hMs7, hMs8, hMs9, hMs10, hMs11, hMs12, hMs13⟩ := id hM
  refine mx_C_of (ls0 := [some (.ref (mo)), some (.int (v)), some (.int (w))]) (by decide +kernel) rfl rfl (Nat.le_of_ble_eq_true rfl) rfl ?_
  refine mx_al0 d_Mo_log_0 ?_
  refine mx_il2 d_Mo_log_1 ?_
  refine mx_in_0 d_Mo_log_2 ?_
  refine mx_in_5 d_Mo_log_3 ?_
  refine mx_cS3i d_Mo_log_4 (cm_isIn0 (x := w) (n := 5) (by omega)) ok_Mo_isIn ml_Mo_57 (by decide) (Nat.le_of_ble_eq_true rfl) ?_
  refine mx_ifB_ne 14 d_Mo_log_7 (by decide) (fun c_7 => ?_) (fun c_7 => ?_)
  · skip
    obtain ⟨k, hkL, rfl⟩ := vs_isN_of (by omega) c_7
    have hkc : (nI k).toNatClampNeg = k := nI_clamp (by omega)
    have hkL8 : k < 8 := by omega
    refine mx_in_0 d_Mo_log_14 ?_
    refine mx_putI d_Mo_log_15 fl_Mo_54 (by assumption) ?_
    refine mx_al0 d_Mo_log_18 ?_
    refine mx_getI d_Mo_log_19 fl_Mo_54 (by assumption) ?_
    refine mx_ti (y := nI (0)) (vs_upx) ?_
    refine mx_if_le 27 d_Mo_log_22 (by decide) (fun c_22 => ?_) (fun c_22 => absurd (by decide) c_22)
    refine mx_il1 d_Mo_log_27 ?_
    refine mx_in_0 d_Mo_log_28 ?_
    refine mx_al0 d_Mo_log_29 ?_
    refine mx_getR d_Mo_log_30 fl_Mo_7 (by assumption) (by assumption) ?_
    refine mx_bip 9 d_Mo_log_33 (by decide) ?_
    refine mx_iald d_Mo_log_35 (by assumption) (nI_inb (by omega) (by omega)) ?_
    refine mx_ti (y := (mx_up I (mo) 0 (nI (0))) (mo + 1) (9)) (by rw [nI_clamp (by omega)]) ?_
    refine mx_ti (y := nI (N)) ((congrFun (vs_hm hm) 9).trans hN) ?_
    refine mx_in_1 d_Mo_log_36 ?_
    refine mx_isub d_Mo_log_37 ?_
    refine mx_cS3i d_Mo_log_38 ((vs_isN_leN (x := v) (n := N) (by omega)) ▸ c_Mo_isIn) ok_Mo_isIn ml_Mo_57 (by decide) (Nat.le_of_ble_eq_true rfl) ?_
    refine mx_ifB_eq 53 d_Mo_log_41 (by decide) (fun c_41 => ?_) (fun c_41 => ?_)
    · skip
      refine mx_bipush (v := -2) d_Mo_log_53 (by decide) ?_
      exact mx_iret d_Mo_log_55 rfl (mx_ri_of2 (by simp [sp_log, *]) (by simp [sp_log, *]))
    · skip
      obtain ⟨j, hjL, rfl⟩ := vs_isN_of (by omega) c_41
      have hjc : (nI j).toNatClampNeg = j := nI_clamp (by omega)
      refine mx_al0 d_Mo_log_44 ?_
      refine mx_il1 d_Mo_log_45 ?_
      refine mx_il2 d_Mo_log_46 ?_
      refine mx_cV2i d_Mo_log_47 (c_Mo_logged hM (vs_hm hm) (j := j) (k := k) (by omega) (by omega)) ok_Mo_logged ml_Mo_427 (by assumption) ⟨rfl, rfl⟩ (by decide) (Nat.le_of_ble_eq_true rfl) ?_
      refine mx_goto 55 d_Mo_log_50 (by decide) ?_
      exact mx_iret d_Mo_log_55 rfl (mx_ri_of2 (by simp [sp_log, *]) (by simp [sp_log, *]))
  · skip
    refine mx_in_1 d_Mo_log_10 ?_
    refine mx_goto 15 d_Mo_log_11 (by decide) ?_
    refine mx_putI d_Mo_log_15 fl_Mo_54 (by assumption) ?_
    refine mx_al0 d_Mo_log_18 ?_
    refine mx_getI d_Mo_log_19 fl_Mo_54 (by assumption) ?_
    refine mx_ti (y := nI (1)) (vs_upx) ?_
    refine mx_if_le 27 d_Mo_log_22 (by decide) (fun c_22 => absurd c_22 (by decide)) (fun c_22 => ?_)
    refine mx_in_0 d_Mo_log_25 ?_
    exact mx_iret d_Mo_log_26 rfl (mx_ri_of2 (by simp [sp_log, *]) (by simp [sp_log, *]))
theorem c_Mo_led (hM : mo_ok S P mo) (hm : I (mo + 1) = m) (hH : m 3 = nI H) (hH8 : H ≤ 8) (hN : m 9 = nI N) (hN60 : N ≤ 60) {v : Int32} {b : Bool} : mx_C l E M_Mo_led 2 0 0 [.ref (mo), .int (v), .int (bI (b))] (t, S, I, P, J) (mx_ri (sp_led m H N v b).2 (t, S, mx_up I (mo) 0 (nI (sp_led m H N v b).1), P, J)) := by
  obtain ⟨hM0, hMp1, hMp2, hMp4, hMp5, hMp7, hMp14, hMp21, hMp22, hMp23, hMp24, hMp25, hMp26, hMp27, hMs1, hMs2, hMs3, hMs4, hMs5, hMs6, hMs7, hMs8, hMs9, hMs10, hMs11, hMs12, hMs13⟩ := id hM
  refine mx_C_of (ls0 := [some (.ref (mo)), some (.int (v)), some (.int (bI (b))), none, none, none]) (by decide +kernel) rfl rfl (Nat.le_of_ble_eq_true rfl) rfl ?_
  refine mx_al0 d_Mo_led_0 ?_
  refine mx_al0 d_Mo_led_1 ?_
  refine mx_il1 d_Mo_led_2 ?_
  refine mx_cV1i d_Mo_led_3 (cm_isHost hM hm hH hH8) ok_Mo_isHost ml_Mo_310 (by assumption) ⟨rfl, rfl⟩ (by decide) (Nat.le_of_ble_eq_true rfl) ?_
  refine mx_ifB_ne 13 d_Mo_led_6 (by decide) (fun c_6 => ?_) (fun c_6 => ?_)
  · skip
    obtain ⟨h, hhL, rfl⟩ := vs_isN_of (by omega) c_6
    have hhc : (nI h).toNatClampNeg = h := nI_clamp (by omega)
    have hhL8 : h < 8 := by omega
    refine mx_in_0 d_Mo_led_13 ?_
    refine mx_putI d_Mo_led_14 fl_Mo_54 (by assumption) ?_
    refine mx_al0 d_Mo_led_17 ?_
    refine mx_getI d_Mo_led_18 fl_Mo_54 (by assumption) ?_
    refine mx_ti (y := nI (0)) (vs_upx) ?_
    refine mx_if_le 26 d_Mo_led_21 (by decide) (fun c_21 => ?_) (fun c_21 => absurd (by decide) c_21)
    refine mx_in_0 d_Mo_led_26 ?_
    refine mx_is3 d_Mo_led_27 ?_
    refine mx_ic_m1 d_Mo_led_28 ?_
    refine mx_is4 d_Mo_led_29 ?_
    refine mx_al0 d_Mo_led_31 ?_
    refine mx_getR d_Mo_led_32 fl_Mo_7 (by assumption) (by assumption) ?_
    refine mx_bip 9 d_Mo_led_35 (by decide) ?_
    refine mx_iald d_Mo_led_37 (by assumption) (nI_inb (by omega) (by omega)) ?_
    refine mx_ti (y := (mx_up I (mo) 0 (nI (0))) (mo + 1) (9)) (by rw [nI_clamp (by omega)]) ?_
    refine mx_ti (y := nI (N)) ((congrFun (vs_hm hm) 9).trans hN) ?_
    refine mx_in_1 d_Mo_led_38 ?_
    refine mx_isub d_Mo_led_39 ?_
    refine mx_is5 d_Mo_led_40 ?_
    refine mx_loop (N := N) (ls := fun j => [some (.ref (mo)), some (.int (nI (h))), some (.int (bI (b))), some (.int (nI (vs_ledN m (nI h) N j))), some (.int ((vs_ledF m (nI h) N j))), some (.int ((nI (N - j) - nI (1))))]) (X := fun j => (t, S, (mx_up I (mo) 0 (nI (0))), P, J)) (fun j hj ih => ?_) ?_
    · try dsimp only
      refine mx_il5 d_Mo_led_42 ?_
      refine mx_ti (y := nI (N - j - 1)) (nI_sub (by omega)) ?_
      refine mx_if_lt 79 d_Mo_led_44 (by decide) (fun c_44 => absurd c_44 (nI_pos (by omega))) (fun c_44 => ?_)
      refine mx_al0 d_Mo_led_47 ?_
      refine mx_il5 d_Mo_led_48 ?_
      refine mx_ti (y := nI (N - j - 1)) (nI_sub (by omega)) ?_
      refine mx_in_1 d_Mo_led_50 ?_
      refine mx_cV2i d_Mo_led_51 (c_Mo_logged hM (vs_hm hm) (j := N - j - 1) (k := 1) (by omega) (by omega)) ok_Mo_logged ml_Mo_427 (by assumption) ⟨rfl, rfl⟩ (by decide) (Nat.le_of_ble_eq_true rfl) ?_
      refine mx_il1 d_Mo_led_54 ?_
      refine mx_icmp_eq 61 d_Mo_led_55 (by decide) (fun c_55 => ?_) (fun c_55 => ?_)
      · skip
        refine mx_iN3 d_Mo_led_61 ?_
        refine mx_al0 d_Mo_led_64 ?_
        refine mx_il5 d_Mo_led_65 ?_
        refine mx_ti (y := nI (N - j - 1)) (nI_sub (by omega)) ?_
        refine mx_in_0 d_Mo_led_67 ?_
        refine mx_cV2i d_Mo_led_68 (c_Mo_logged hM (vs_hm hm) (j := N - j - 1) (k := 0) (by omega) (by omega)) ok_Mo_logged ml_Mo_427 (by assumption) ⟨rfl, rfl⟩ (by decide) (Nat.le_of_ble_eq_true rfl) ?_
        refine mx_is4 d_Mo_led_71 ?_
        refine mx_ii5 (v := -1) d_Mo_led_73 (by decide) ?_
        refine mx_goto 42 d_Mo_led_76 (by decide) ?_
        have e3 : nI (vs_ledN m (nI h) N j + 1) = nI (vs_ledN m (nI h) N (j + 1)) := by (show nI _ = nI (if m (259 + 6 * (N - j - 1) + 1) = nI h then vs_ledN m (nI h) N j + 1 else vs_ledN m (nI h) N j); first | rw [if_pos c_55] | rw [if_neg c_55])
        refine mx_lsc (congrArg (fun z9 => ([some (.ref (mo)), some (.int (nI (h))), some (.int (bI (b))), some (.int (z9)), some (.int ((m (259 + 6 * (N - j - 1) + 0)))), some (.int (((nI (N - j) - nI (1)) + -1)))] : List (Option Value))) e3) ?_
        have e4 : (m (259 + 6 * (N - j - 1) + 0)) = (vs_ledF m (nI h) N (j + 1)) := by (show _ = (if m (259 + 6 * (N - j - 1) + 1) = nI h then m (259 + 6 * (N - j - 1) + 0) else vs_ledF m (nI h) N j); first | rw [if_pos c_55] | rw [if_neg c_55])
        refine mx_lsc (congrArg (fun z9 => ([some (.ref (mo)), some (.int (nI (h))), some (.int (bI (b))), some (.int (nI (vs_ledN m (nI h) N (j + 1)))), some (.int (z9)), some (.int (((nI (N - j) - nI (1)) + -1)))] : List (Option Value))) e4) ?_
        have e5 : ((nI (N - j) - nI (1)) + -1) = (nI (N - (j + 1)) - nI (1)) := by exact vs_led5 (by omega)
        refine mx_lsc (congrArg (fun z9 => ([some (.ref (mo)), some (.int (nI (h))), some (.int (bI (b))), some (.int (nI (vs_ledN m (nI h) N (j + 1)))), some (.int ((vs_ledF m (nI h) N (j + 1)))), some (.int (z9))] : List (Option Value))) e5) ?_
        exact ih
      · skip
        refine mx_goto 73 d_Mo_led_58 (by decide) ?_
        refine mx_ii5 (v := -1) d_Mo_led_73 (by decide) ?_
        refine mx_goto 42 d_Mo_led_76 (by decide) ?_
        have e3 : nI (vs_ledN m (nI h) N j) = nI (vs_ledN m (nI h) N (j + 1)) := by (show nI _ = nI (if m (259 + 6 * (N - j - 1) + 1) = nI h then vs_ledN m (nI h) N j + 1 else vs_ledN m (nI h) N j); first | rw [if_pos c_55] | rw [if_neg c_55])
        refine mx_lsc (congrArg (fun z9 => ([some (.ref (mo)), some (.int (nI (h))), some (.int (bI (b))), some (.int (z9)), some (.int ((vs_ledF m (nI h) N j))), some (.int (((nI (N - j) - nI (1)) + -1)))] : List (Option Value))) e3) ?_
        have e4 : (vs_ledF m (nI h) N j) = (vs_ledF m (nI h) N (j + 1)) := by (show _ = (if m (259 + 6 * (N - j - 1) + 1) = nI h then m (259 + 6 * (N - j - 1) + 0) else vs_ledF m (nI h) N j); first | rw [if_pos c_55] | rw [if_neg c_55])
        refine mx_lsc (congrArg (fun z9 => ([some (.ref (mo)), some (.int (nI (h))), some (.int (bI (b))), some (.int (nI (vs_ledN m (nI h) N (j + 1)))), some (.int (z9)), some (.int (((nI (N - j) - nI (1)) + -1)))] : List (Option Value))) e4) ?_
        have e5 : ((nI (N - j) - nI (1)) + -1) = (nI (N - (j + 1)) - nI (1)) := by exact vs_led5 (by omega)
        refine mx_lsc (congrArg (fun z9 => ([some (.ref (mo)), some (.int (nI (h))), some (.int (bI (b))), some (.int (nI (vs_ledN m (nI h) N (j + 1)))), some (.int ((vs_ledF m (nI h) N (j + 1)))), some (.int (z9))] : List (Option Value))) e5) ?_
        exact ih
    · try dsimp only
      refine mx_il5 d_Mo_led_42 ?_
      refine mx_ti (y := (-1)) (by rw [Nat.sub_self]; decide) ?_
      refine mx_if_lt 79 d_Mo_led_44 (by decide) (fun c_44 => ?_) (fun c_44 => absurd (by decide) c_44)
      refine mx_il2 d_Mo_led_79 ?_
      refine mx_ifB_eq 88 d_Mo_led_80 (by decide) (fun c_80 => ?_) (fun c_80 => ?_)
      · skip
        refine mx_il3 d_Mo_led_88 ?_
        exact mx_iret d_Mo_led_89 rfl (mx_ri_of2 (by simp [sp_led, vs_led1, vs_led2, *]) (by simp [sp_led, *]))
      · skip
        refine mx_il4 d_Mo_led_83 ?_
        refine mx_goto 89 d_Mo_led_85 (by decide) ?_
        exact mx_iret d_Mo_led_89 rfl (mx_ri_of2 (by simp [sp_led, vs_led1, vs_led2, *]) (by simp [sp_led, *]))
  · skip
    refine mx_in_1 d_Mo_led_9 ?_
    refine mx_goto 14 d_Mo_led_10 (by decide) ?_
    refine mx_putI d_Mo_led_14 fl_Mo_54 (by assumption) ?_
    refine mx_al0 d_Mo_led_17 ?_
    refine mx_getI d_Mo_led_18 fl_Mo_54 (by assumption) ?_
    refine mx_ti (y := nI (1)) (vs_upx) ?_
    refine mx_if_le 26 d_Mo_led_21 (by decide) (fun c_21 => absurd c_21 (by decide)) (fun c_21 => ?_)
    refine mx_in_0 d_Mo_led_24 ?_
    exact mx_iret d_Mo_led_25 rfl (mx_ri_of2 (by simp [sp_led, vs_led1, vs_led2, *]) (by simp [sp_led, *]))
def sp_count (m : Nat → Int32) (H A : Nat) (w : Int32) : Int32 := if w = nI 0 then m 3 else if w = nI 1 then m 4 else if w = nI 2 then m 0 else if w = nI 3 then m 1 else if w = nI 4 then m 6 else if w = nI 5 then m 5 else if w = nI 6 then m 7 else if w = nI 7 then m 8 else if w = nI 8 then nI (vs_bkH m H) else if w = nI 9 then vs_gladK m H else if w = nI 10 then m 9 else if w = nI 11 then nI A else (-1)
theorem sp_count_k {A k : Nat} (hk : k < 100) : sp_count m H A (nI k) = if k = 0 then m 3 else if k = 1 then m 4 else if k = 2 then m 0 else if k = 3 then m 1 else if k = 4 then m 6 else if k = 5 then m 5 else if k = 6 then m 7 else if k = 7 then m 8 else if k = 8 then nI (vs_bkH m H) else if k = 9 then vs_gladK m H else if k = 10 then m 9 else if k = 11 then nI A else (-1) := by
  have e : ∀ j, j < 100 → ((nI k = nI j) ↔ k = j) := fun j hj => nI_eq (by omega) (by omega)
  unfold sp_count
  simp only [e 0 (by omega), e 1 (by omega), e 2 (by omega), e 3 (by omega), e 4 (by omega), e 5 (by omega), e 6 (by omega), e 7 (by omega), e 8 (by omega), e 9 (by omega), e 10 (by omega), e 11 (by omega)]
theorem c_Vh_count (hV : vh_ok S P x) (hSt : st_ok S P (x + 23)) (hSr : st_rel I (x + 23) m) (hH : m 3 = nI H) (hH8 : H ≤ 8) (hLr : lo_rel I (x + 23 + 9) m N z) {la A : Nat} (hla : P (x + 23) 2 = some la) (hLa : S la = some (0, 3)) (hlin : I la 0 = m 1) (hA : I (x + 68) 1 = nI A) (hb : bk_ok m H) {w : Int32} : mx_C l E M_Vh_count 3 0 0 [.ref (x), .int (w)] (t, S, I, P, J) (mx_ri (sp_count m H A w) (t, S, I, P, J)) := by
  obtain ⟨hV0, hVp0, hVp1, hVp2, hVp3, hVp4, hVp5, hVp7, hVp8, hVp9, hVp10, hVp11, hVp12, hVs15, hVs16, hVs68⟩ := id hV
  obtain ⟨hC0, hC1, hC2, hC3, hC4, hC5, hC6, hD1, hD2, hD3, hD4, hPe, hLo⟩ := id hSt
  obtain ⟨hPr, u0, u1, u2, u3, u4, u5, u6, u7, u8⟩ := id hSr
  obtain ⟨hA0, hA1, hA2, hA3, hA4, hA5, hA6, hA7, hB1, hB2, hB3, hB4, hB5, hB6, hB7⟩ := id hPe
  obtain ⟨r0, r1, r2, r3, r4, r5, r6, r7, r8⟩ := id hPr
  obtain ⟨hL0, hLp, hLs⟩ := id hLo
  refine mx_C_of (ls0 := [some (.ref (x)), some (.int (w))]) (by decide +kernel) rfl rfl (Nat.le_of_ble_eq_true rfl) rfl ?_
  refine mx_il1 d_Vh_count_0 ?_
  by_cases k_0 : w = nI 0
  · refine mx_tabIn 64 d_Vh_count_1 (by rw [k_0]; decide) (by rw [k_0]; decide) (by rw [k_0]; rfl) (by decide) ?_
    subst k_0
    refine mx_al0 d_Vh_count_64 ?_
    refine mx_getR d_Vh_count_65 fl_Vh_51 (by assumption) (by assumption) ?_
    refine mx_getR d_Vh_count_68 fl_Vh_162 (by assumption) (by assumption) ?_
    refine mx_getI d_Vh_count_71 fl_Vh_290 (by assumption) ?_
    exact mx_iret d_Vh_count_74 rfl (mx_ri_of r0)
  by_cases k_1 : w = nI 1
  · refine mx_tabIn 75 d_Vh_count_1 (by rw [k_1]; decide) (by rw [k_1]; decide) (by rw [k_1]; rfl) (by decide) ?_
    subst k_1
    refine mx_al0 d_Vh_count_75 ?_
    refine mx_getR d_Vh_count_76 fl_Vh_51 (by assumption) (by assumption) ?_
    refine mx_getR d_Vh_count_79 fl_Vh_162 (by assumption) (by assumption) ?_
    refine mx_getI d_Vh_count_82 fl_Vh_325 (by assumption) ?_
    exact mx_iret d_Vh_count_85 rfl (mx_ri_of r1)
  by_cases k_2 : w = nI 2
  · refine mx_tabIn 86 d_Vh_count_1 (by rw [k_2]; decide) (by rw [k_2]; decide) (by rw [k_2]; rfl) (by decide) ?_
    subst k_2
    refine mx_al0 d_Vh_count_86 ?_
    refine mx_getR d_Vh_count_87 fl_Vh_51 (by assumption) (by assumption) ?_
    refine mx_getI d_Vh_count_90 fl_Vh_122 (by assumption) ?_
    exact mx_iret d_Vh_count_93 rfl (mx_ri_of u0)
  by_cases k_3 : w = nI 3
  · refine mx_tabIn 94 d_Vh_count_1 (by rw [k_3]; decide) (by rw [k_3]; decide) (by rw [k_3]; rfl) (by decide) ?_
    subst k_3
    refine mx_al0 d_Vh_count_94 ?_
    refine mx_getR d_Vh_count_95 fl_Vh_51 (by assumption) (by assumption) ?_
    refine mx_getR d_Vh_count_98 fl_Vh_149 (by assumption) (by assumption) ?_
    refine mx_getI d_Vh_count_101 fl_Vh_153 (by assumption) ?_
    exact mx_iret d_Vh_count_104 rfl (mx_ri_of hlin)
  by_cases k_4 : w = nI 4
  · refine mx_tabIn 105 d_Vh_count_1 (by rw [k_4]; decide) (by rw [k_4]; decide) (by rw [k_4]; rfl) (by decide) ?_
    subst k_4
    refine mx_al0 d_Vh_count_105 ?_
    refine mx_getR d_Vh_count_106 fl_Vh_51 (by assumption) (by assumption) ?_
    refine mx_getI d_Vh_count_109 fl_Vh_455 (by assumption) ?_
    exact mx_iret d_Vh_count_112 rfl (mx_ri_of u2)
  by_cases k_5 : w = nI 5
  · refine mx_tabIn 113 d_Vh_count_1 (by rw [k_5]; decide) (by rw [k_5]; decide) (by rw [k_5]; rfl) (by decide) ?_
    subst k_5
    refine mx_al0 d_Vh_count_113 ?_
    refine mx_getR d_Vh_count_114 fl_Vh_51 (by assumption) (by assumption) ?_
    refine mx_getI d_Vh_count_117 fl_Vh_384 (by assumption) ?_
    exact mx_iret d_Vh_count_120 rfl (mx_ri_of u1)
  by_cases k_6 : w = nI 6
  · refine mx_tabIn 121 d_Vh_count_1 (by rw [k_6]; decide) (by rw [k_6]; decide) (by rw [k_6]; rfl) (by decide) ?_
    subst k_6
    refine mx_al0 d_Vh_count_121 ?_
    refine mx_getR d_Vh_count_122 fl_Vh_51 (by assumption) (by assumption) ?_
    refine mx_getI d_Vh_count_125 fl_Vh_276 (by assumption) ?_
    exact mx_iret d_Vh_count_128 rfl (mx_ri_of u3)
  by_cases k_7 : w = nI 7
  · refine mx_tabIn 129 d_Vh_count_1 (by rw [k_7]; decide) (by rw [k_7]; decide) (by rw [k_7]; rfl) (by decide) ?_
    subst k_7
    refine mx_al0 d_Vh_count_129 ?_
    refine mx_getR d_Vh_count_130 fl_Vh_51 (by assumption) (by assumption) ?_
    refine mx_getI d_Vh_count_133 fl_Vh_279 (by assumption) ?_
    exact mx_iret d_Vh_count_136 rfl (mx_ri_of u4)
  by_cases k_8 : w = nI 8
  · refine mx_tabIn 137 d_Vh_count_1 (by rw [k_8]; decide) (by rw [k_8]; decide) (by rw [k_8]; rfl) (by decide) ?_
    subst k_8
    refine mx_al0 d_Vh_count_137 ?_
    refine mx_getR d_Vh_count_138 fl_Vh_51 (by assumption) (by assumption) ?_
    refine mx_cV0i d_Vh_count_141 (c_St_howManyBooked hSt hSr) ok_St_howManyBooked ml_Vh_458 (by assumption) ⟨rfl, rfl⟩ (by decide) (Nat.le_of_ble_eq_true rfl) ?_
    exact mx_iret d_Vh_count_144 rfl (mx_ri_of (by rw [vs_bk_eq hb hH8]; rfl))
  by_cases k_9 : w = nI 9
  · refine mx_tabIn 145 d_Vh_count_1 (by rw [k_9]; decide) (by rw [k_9]; decide) (by rw [k_9]; rfl) (by decide) ?_
    subst k_9
    refine mx_al0 d_Vh_count_145 ?_
    refine mx_getR d_Vh_count_146 fl_Vh_51 (by assumption) (by assumption) ?_
    refine mx_cV0i d_Vh_count_149 (c_St_gladnessOfAll hSt hSr hH hH8) ok_St_gladnessOfAll ml_Vh_421 (by assumption) ⟨rfl, rfl⟩ (by decide) (Nat.le_of_ble_eq_true rfl) ?_
    exact mx_iret d_Vh_count_152 rfl (mx_ri_of rfl)
  by_cases k_10 : w = nI 10
  · refine mx_tabIn 153 d_Vh_count_1 (by rw [k_10]; decide) (by rw [k_10]; decide) (by rw [k_10]; rfl) (by decide) ?_
    subst k_10
    refine mx_al0 d_Vh_count_153 ?_
    refine mx_getR d_Vh_count_154 fl_Vh_51 (by assumption) (by assumption) ?_
    refine mx_getR d_Vh_count_157 fl_Vh_432 (by assumption) (by assumption) ?_
    refine mx_getI d_Vh_count_160 fl_Vh_461 (by assumption) ?_
    exact mx_iret d_Vh_count_163 rfl (mx_ri_of (hLr.1.trans hLr.2.1.symm))
  by_cases k_11 : w = nI 11
  · refine mx_tabIn 164 d_Vh_count_1 (by rw [k_11]; decide) (by rw [k_11]; decide) (by rw [k_11]; rfl) (by decide) ?_
    subst k_11
    refine mx_al0 d_Vh_count_164 ?_
    refine mx_getR d_Vh_count_165 fl_Vh_64 (by assumption) (by assumption) ?_
    refine mx_getI d_Vh_count_168 fl_Vh_462 (by assumption) ?_
    exact mx_iret d_Vh_count_171 rfl (mx_ri_of hA)
  refine mx_tabOut 172 d_Vh_count_1 (by exact vs_tabO (n := 11) (by omega) (vs_allS (vs_allS (vs_allS (vs_allS (vs_allS (vs_allS (vs_allS (vs_allS (vs_allS (vs_allS (vs_allS (vs_all0 k_0) k_1) k_2) k_3) k_4) k_5) k_6) k_7) k_8) k_9) k_10) k_11)) (by decide) ?_
  refine mx_ic_m1 d_Vh_count_172 ?_
  exact mx_iret d_Vh_count_173 rfl (mx_ri_of (by simp [sp_count, *]))
theorem vs_67 {w : Int32} (h : (decide (nI 6 ≤ w) && decide (w ≤ nI 7)) = true) : ∃ j, j < 2 ∧ w = nI (6 + j) := by
  simp only [Bool.and_eq_true, decide_eq_true_eq] at h
  have h0 : 0 ≤ w := Int32.le_trans (by decide) h.1
  obtain ⟨j, hj, rfl⟩ := nI_of (x := w) (Int32.not_lt.mpr h0)
  have h1 := (nI_leI (by omega) hj).mp h.1
  have h2 := (nI_leI hj (by omega)).mp h.2
  exact ⟨j - 6, by omega, by rw [show 6 + (j - 6) = j by omega]⟩
theorem vs_67n {w : Int32} (h : (decide (nI 6 ≤ w) && decide (w ≤ nI 7)) = false) : ¬ w = nI 6 ∧ ¬ w = nI 7 := ⟨fun e => by subst e; revert h; decide, fun e => by subst e; revert h; decide⟩
theorem c_Mo_count (hM : mo_ok S P mo) (hm : I (mo + 1) = m) (hH : m 3 = nI H) (hH8 : H ≤ 8) {A : Nat} (hA : I mo 6 = nI A) {w : Int32} : mx_C l E M_Mo_count 3 0 0 [.ref (mo), .int (w)] (t, S, I, P, J) (mx_ri (sp_count m H A w) (t, S, mx_up I (mo) 0 (nI 0), P, J)) := by
  obtain ⟨hM0, hMp1, hMp2, hMp4, hMp5, hMp7, hMp14, hMp21, hMp22, hMp23, hMp24, hMp25, hMp26, hMp27, hMs1, hMs2, hMs3, hMs4, hMs5, hMs6, hMs7, hMs8, hMs9, hMs10, hMs11, hMs12, hMs13⟩ := id hM
  refine mx_C_of (ls0 := [some (.ref (mo)), some (.int (w))]) (by decide +kernel) rfl rfl (Nat.le_of_ble_eq_true rfl) rfl ?_
  refine mx_al0 d_Mo_count_0 ?_
  refine mx_in_0 d_Mo_count_1 ?_
  refine mx_putI d_Mo_count_2 fl_Mo_54 (by assumption) ?_
  refine mx_il1 d_Mo_count_5 ?_
  refine mx_if_ne 16 d_Mo_count_6 (by decide) (fun c_6 => ?_) (fun c_6 => ?_)
  · skip
    have c_0 : ¬ w = nI 0 := c_6
    refine mx_il1 d_Mo_count_16 ?_
    refine mx_in_1 d_Mo_count_17 ?_
    refine mx_icmp_ne 28 d_Mo_count_18 (by decide) (fun c_18 => ?_) (fun c_18 => ?_)
    · skip
      refine mx_il1 d_Mo_count_28 ?_
      refine mx_in_2 d_Mo_count_29 ?_
      refine mx_icmp_ne 40 d_Mo_count_30 (by decide) (fun c_30 => ?_) (fun c_30 => ?_)
      · skip
        refine mx_il1 d_Mo_count_40 ?_
        refine mx_in_3 d_Mo_count_41 ?_
        refine mx_icmp_ne 52 d_Mo_count_42 (by decide) (fun c_42 => ?_) (fun c_42 => ?_)
        · skip
          refine mx_il1 d_Mo_count_52 ?_
          refine mx_in_4 d_Mo_count_53 ?_
          refine mx_icmp_ne 65 d_Mo_count_54 (by decide) (fun c_54 => ?_) (fun c_54 => ?_)
          · skip
            refine mx_il1 d_Mo_count_65 ?_
            refine mx_in_5 d_Mo_count_66 ?_
            refine mx_icmp_ne 77 d_Mo_count_67 (by decide) (fun c_67 => ?_) (fun c_67 => ?_)
            · skip
              refine mx_il1 d_Mo_count_77 ?_
              refine mx_bip 6 d_Mo_count_78 (by decide) ?_
              refine mx_bip 7 d_Mo_count_80 (by decide) ?_
              refine mx_cS3i d_Mo_count_82 (c_Mo_isIn) ok_Mo_isIn ml_Mo_57 (by decide) (Nat.le_of_ble_eq_true rfl) ?_
              refine mx_ifB_eq 101 d_Mo_count_85 (by decide) (fun c_85 => ?_) (fun c_85 => ?_)
              · skip
                obtain ⟨c_x6, c_x7⟩ := vs_67n c_85
                refine mx_il1 d_Mo_count_101 ?_
                refine mx_bip 8 d_Mo_count_102 (by decide) ?_
                refine mx_icmp_ne 112 d_Mo_count_104 (by decide) (fun c_104 => ?_) (fun c_104 => ?_)
                · skip
                  refine mx_il1 d_Mo_count_112 ?_
                  refine mx_bip 9 d_Mo_count_113 (by decide) ?_
                  refine mx_icmp_ne 123 d_Mo_count_115 (by decide) (fun c_115 => ?_) (fun c_115 => ?_)
                  · skip
                    refine mx_il1 d_Mo_count_123 ?_
                    refine mx_bip 10 d_Mo_count_124 (by decide) ?_
                    refine mx_icmp_ne 137 d_Mo_count_126 (by decide) (fun c_126 => ?_) (fun c_126 => ?_)
                    · skip
                      refine mx_il1 d_Mo_count_137 ?_
                      refine mx_bip 11 d_Mo_count_138 (by decide) ?_
                      refine mx_icmp_ne 150 d_Mo_count_140 (by decide) (fun c_140 => ?_) (fun c_140 => ?_)
                      · skip
                        refine mx_ic_m1 d_Mo_count_150 ?_
                        exact mx_iret d_Mo_count_151 rfl (mx_ri_of2 (by have hz : mx_up I mo 0 (nI 0) (mo + 1) = m := vs_hm hm; first | (simp [sp_count, *]; done) | (rw [c_0, sp_count_k (by omega)]; simp [hz]; done) | (rw [c_18, sp_count_k (by omega)]; simp [hz]; done) | (rw [c_30, sp_count_k (by omega)]; simp [hz]; done) | (rw [c_42, sp_count_k (by omega)]; simp [hz]; done) | (rw [c_54, sp_count_k (by omega)]; simp [hz]; done) | (rw [c_67, sp_count_k (by omega)]; simp [hz]; done) | (rw [c_104, sp_count_k (by omega)]; simp [hz]; done) | (rw [c_115, sp_count_k (by omega)]; simp [hz]; done) | (rw [c_126, sp_count_k (by omega)]; simp [hz]; done) | (rw [c_140, sp_count_k (by omega)]; simp [hz]; done) | (obtain rfl | rfl : j = 0 ∨ j = 1 := (by omega) <;> (rw [sp_count_k (by omega)]; simp [hz]))) rfl)
                      · skip
                        refine mx_al0 d_Mo_count_143 ?_
                        refine mx_getI d_Mo_count_144 fl_Mo_205 (by assumption) ?_
                        refine mx_ti (y := nI (A)) (by simp [mx_up, hA]) ?_
                        refine mx_goto 151 d_Mo_count_147 (by decide) ?_
                        exact mx_iret d_Mo_count_151 rfl (mx_ri_of2 (by have hz : mx_up I mo 0 (nI 0) (mo + 1) = m := vs_hm hm; first | (simp [sp_count, *]; done) | (rw [c_0, sp_count_k (by omega)]; simp [hz]; done) | (rw [c_18, sp_count_k (by omega)]; simp [hz]; done) | (rw [c_30, sp_count_k (by omega)]; simp [hz]; done) | (rw [c_42, sp_count_k (by omega)]; simp [hz]; done) | (rw [c_54, sp_count_k (by omega)]; simp [hz]; done) | (rw [c_67, sp_count_k (by omega)]; simp [hz]; done) | (rw [c_104, sp_count_k (by omega)]; simp [hz]; done) | (rw [c_115, sp_count_k (by omega)]; simp [hz]; done) | (rw [c_126, sp_count_k (by omega)]; simp [hz]; done) | (rw [c_140, sp_count_k (by omega)]; simp [hz]; done) | (obtain rfl | rfl : j = 0 ∨ j = 1 := (by omega) <;> (rw [sp_count_k (by omega)]; simp [hz]))) rfl)
                    · skip
                      refine mx_al0 d_Mo_count_129 ?_
                      refine mx_getR d_Mo_count_130 fl_Mo_7 (by assumption) (by assumption) ?_
                      refine mx_bip 9 d_Mo_count_133 (by decide) ?_
                      refine mx_iald d_Mo_count_135 (by assumption) (nI_inb (by omega) (by omega)) ?_
                      refine mx_ti (y := (mx_up I (mo) 0 (nI (0))) (mo + 1) (9)) (by rw [nI_clamp (by omega)]) ?_
                      exact mx_iret d_Mo_count_136 rfl (mx_ri_of2 (by have hz : mx_up I mo 0 (nI 0) (mo + 1) = m := vs_hm hm; first | (simp [sp_count, *]; done) | (rw [c_0, sp_count_k (by omega)]; simp [hz]; done) | (rw [c_18, sp_count_k (by omega)]; simp [hz]; done) | (rw [c_30, sp_count_k (by omega)]; simp [hz]; done) | (rw [c_42, sp_count_k (by omega)]; simp [hz]; done) | (rw [c_54, sp_count_k (by omega)]; simp [hz]; done) | (rw [c_67, sp_count_k (by omega)]; simp [hz]; done) | (rw [c_104, sp_count_k (by omega)]; simp [hz]; done) | (rw [c_115, sp_count_k (by omega)]; simp [hz]; done) | (rw [c_126, sp_count_k (by omega)]; simp [hz]; done) | (rw [c_140, sp_count_k (by omega)]; simp [hz]; done) | (obtain rfl | rfl : j = 0 ∨ j = 1 := (by omega) <;> (rw [sp_count_k (by omega)]; simp [hz]))) rfl)
                  · skip
                    refine mx_al0 d_Mo_count_118 ?_
                    refine mx_cV0i d_Mo_count_119 (cm_gladness hM (vs_hm hm) hH hH8) ok_Mo_gladness ml_Mo_319 (by assumption) ⟨rfl, rfl⟩ (by decide) (Nat.le_of_ble_eq_true rfl) ?_
                    exact mx_iret d_Mo_count_122 rfl (mx_ri_of2 (by have hz : mx_up I mo 0 (nI 0) (mo + 1) = m := vs_hm hm; first | (simp [sp_count, *]; done) | (rw [c_0, sp_count_k (by omega)]; simp [hz]; done) | (rw [c_18, sp_count_k (by omega)]; simp [hz]; done) | (rw [c_30, sp_count_k (by omega)]; simp [hz]; done) | (rw [c_42, sp_count_k (by omega)]; simp [hz]; done) | (rw [c_54, sp_count_k (by omega)]; simp [hz]; done) | (rw [c_67, sp_count_k (by omega)]; simp [hz]; done) | (rw [c_104, sp_count_k (by omega)]; simp [hz]; done) | (rw [c_115, sp_count_k (by omega)]; simp [hz]; done) | (rw [c_126, sp_count_k (by omega)]; simp [hz]; done) | (rw [c_140, sp_count_k (by omega)]; simp [hz]; done) | (obtain rfl | rfl : j = 0 ∨ j = 1 := (by omega) <;> (rw [sp_count_k (by omega)]; simp [hz]))) rfl)
                · skip
                  refine mx_al0 d_Mo_count_107 ?_
                  refine mx_cV0i d_Mo_count_108 (c_Mo_bookings hM (vs_hm hm) hH hH8) ok_Mo_bookings ml_Mo_433 (by assumption) ⟨rfl, rfl⟩ (by decide) (Nat.le_of_ble_eq_true rfl) ?_
                  exact mx_iret d_Mo_count_111 rfl (mx_ri_of2 (by have hz : mx_up I mo 0 (nI 0) (mo + 1) = m := vs_hm hm; first | (simp [sp_count, *]; done) | (rw [c_0, sp_count_k (by omega)]; simp [hz]; done) | (rw [c_18, sp_count_k (by omega)]; simp [hz]; done) | (rw [c_30, sp_count_k (by omega)]; simp [hz]; done) | (rw [c_42, sp_count_k (by omega)]; simp [hz]; done) | (rw [c_54, sp_count_k (by omega)]; simp [hz]; done) | (rw [c_67, sp_count_k (by omega)]; simp [hz]; done) | (rw [c_104, sp_count_k (by omega)]; simp [hz]; done) | (rw [c_115, sp_count_k (by omega)]; simp [hz]; done) | (rw [c_126, sp_count_k (by omega)]; simp [hz]; done) | (rw [c_140, sp_count_k (by omega)]; simp [hz]; done) | (obtain rfl | rfl : j = 0 ∨ j = 1 := (by omega) <;> (rw [sp_count_k (by omega)]; simp [hz]))) rfl)
              · skip
                obtain ⟨j, hj, rfl⟩ := vs_67 c_85
                refine mx_al0 d_Mo_count_88 ?_
                refine mx_getR d_Mo_count_89 fl_Mo_7 (by assumption) (by assumption) ?_
                refine mx_bip 7 d_Mo_count_92 (by decide) ?_
                refine mx_il1 d_Mo_count_94 ?_
                refine mx_iaddN d_Mo_count_95 ?_
                refine mx_bip 6 d_Mo_count_96 (by decide) ?_
                refine mx_isubN d_Mo_count_98 (by omega) ?_
                refine mx_iald d_Mo_count_99 (by assumption) (nI_inb (by omega) (by omega)) ?_
                refine mx_ti (y := (mx_up I (mo) 0 (nI (0))) (mo + 1) ((7 + (6 + j)) - 6)) (by rw [nI_clamp (by omega)]) ?_
                exact mx_iret d_Mo_count_100 rfl (mx_ri_of2 (by have hz : mx_up I mo 0 (nI 0) (mo + 1) = m := vs_hm hm; first | (simp [sp_count, *]; done) | (rw [c_0, sp_count_k (by omega)]; simp [hz]; done) | (rw [c_18, sp_count_k (by omega)]; simp [hz]; done) | (rw [c_30, sp_count_k (by omega)]; simp [hz]; done) | (rw [c_42, sp_count_k (by omega)]; simp [hz]; done) | (rw [c_54, sp_count_k (by omega)]; simp [hz]; done) | (rw [c_67, sp_count_k (by omega)]; simp [hz]; done) | (rw [c_104, sp_count_k (by omega)]; simp [hz]; done) | (rw [c_115, sp_count_k (by omega)]; simp [hz]; done) | (rw [c_126, sp_count_k (by omega)]; simp [hz]; done) | (rw [c_140, sp_count_k (by omega)]; simp [hz]; done) | (obtain rfl | rfl : j = 0 ∨ j = 1 := (by omega) <;> (rw [sp_count_k (by omega)]; simp [hz]))) rfl)
            · skip
              refine mx_al0 d_Mo_count_70 ?_
              refine mx_getR d_Mo_count_71 fl_Mo_7 (by assumption) (by assumption) ?_
              refine mx_in_5 d_Mo_count_74 ?_
              refine mx_iald d_Mo_count_75 (by assumption) (nI_inb (by omega) (by omega)) ?_
              refine mx_ti (y := (mx_up I (mo) 0 (nI (0))) (mo + 1) (5)) (by rw [nI_clamp (by omega)]) ?_
              exact mx_iret d_Mo_count_76 rfl (mx_ri_of2 (by have hz : mx_up I mo 0 (nI 0) (mo + 1) = m := vs_hm hm; first | (simp [sp_count, *]; done) | (rw [c_0, sp_count_k (by omega)]; simp [hz]; done) | (rw [c_18, sp_count_k (by omega)]; simp [hz]; done) | (rw [c_30, sp_count_k (by omega)]; simp [hz]; done) | (rw [c_42, sp_count_k (by omega)]; simp [hz]; done) | (rw [c_54, sp_count_k (by omega)]; simp [hz]; done) | (rw [c_67, sp_count_k (by omega)]; simp [hz]; done) | (rw [c_104, sp_count_k (by omega)]; simp [hz]; done) | (rw [c_115, sp_count_k (by omega)]; simp [hz]; done) | (rw [c_126, sp_count_k (by omega)]; simp [hz]; done) | (rw [c_140, sp_count_k (by omega)]; simp [hz]; done) | (obtain rfl | rfl : j = 0 ∨ j = 1 := (by omega) <;> (rw [sp_count_k (by omega)]; simp [hz]))) rfl)
          · skip
            refine mx_al0 d_Mo_count_57 ?_
            refine mx_getR d_Mo_count_58 fl_Mo_7 (by assumption) (by assumption) ?_
            refine mx_bip 6 d_Mo_count_61 (by decide) ?_
            refine mx_iald d_Mo_count_63 (by assumption) (nI_inb (by omega) (by omega)) ?_
            refine mx_ti (y := (mx_up I (mo) 0 (nI (0))) (mo + 1) (6)) (by rw [nI_clamp (by omega)]) ?_
            exact mx_iret d_Mo_count_64 rfl (mx_ri_of2 (by have hz : mx_up I mo 0 (nI 0) (mo + 1) = m := vs_hm hm; first | (simp [sp_count, *]; done) | (rw [c_0, sp_count_k (by omega)]; simp [hz]; done) | (rw [c_18, sp_count_k (by omega)]; simp [hz]; done) | (rw [c_30, sp_count_k (by omega)]; simp [hz]; done) | (rw [c_42, sp_count_k (by omega)]; simp [hz]; done) | (rw [c_54, sp_count_k (by omega)]; simp [hz]; done) | (rw [c_67, sp_count_k (by omega)]; simp [hz]; done) | (rw [c_104, sp_count_k (by omega)]; simp [hz]; done) | (rw [c_115, sp_count_k (by omega)]; simp [hz]; done) | (rw [c_126, sp_count_k (by omega)]; simp [hz]; done) | (rw [c_140, sp_count_k (by omega)]; simp [hz]; done) | (obtain rfl | rfl : j = 0 ∨ j = 1 := (by omega) <;> (rw [sp_count_k (by omega)]; simp [hz]))) rfl)
        · skip
          refine mx_al0 d_Mo_count_45 ?_
          refine mx_getR d_Mo_count_46 fl_Mo_7 (by assumption) (by assumption) ?_
          refine mx_in_1 d_Mo_count_49 ?_
          refine mx_iald d_Mo_count_50 (by assumption) (nI_inb (by omega) (by omega)) ?_
          refine mx_ti (y := (mx_up I (mo) 0 (nI (0))) (mo + 1) (1)) (by rw [nI_clamp (by omega)]) ?_
          exact mx_iret d_Mo_count_51 rfl (mx_ri_of2 (by have hz : mx_up I mo 0 (nI 0) (mo + 1) = m := vs_hm hm; first | (simp [sp_count, *]; done) | (rw [c_0, sp_count_k (by omega)]; simp [hz]; done) | (rw [c_18, sp_count_k (by omega)]; simp [hz]; done) | (rw [c_30, sp_count_k (by omega)]; simp [hz]; done) | (rw [c_42, sp_count_k (by omega)]; simp [hz]; done) | (rw [c_54, sp_count_k (by omega)]; simp [hz]; done) | (rw [c_67, sp_count_k (by omega)]; simp [hz]; done) | (rw [c_104, sp_count_k (by omega)]; simp [hz]; done) | (rw [c_115, sp_count_k (by omega)]; simp [hz]; done) | (rw [c_126, sp_count_k (by omega)]; simp [hz]; done) | (rw [c_140, sp_count_k (by omega)]; simp [hz]; done) | (obtain rfl | rfl : j = 0 ∨ j = 1 := (by omega) <;> (rw [sp_count_k (by omega)]; simp [hz]))) rfl)
      · skip
        refine mx_al0 d_Mo_count_33 ?_
        refine mx_getR d_Mo_count_34 fl_Mo_7 (by assumption) (by assumption) ?_
        refine mx_in_0 d_Mo_count_37 ?_
        refine mx_iald d_Mo_count_38 (by assumption) (nI_inb (by omega) (by omega)) ?_
        refine mx_ti (y := (mx_up I (mo) 0 (nI (0))) (mo + 1) (0)) (by rw [nI_clamp (by omega)]) ?_
        exact mx_iret d_Mo_count_39 rfl (mx_ri_of2 (by have hz : mx_up I mo 0 (nI 0) (mo + 1) = m := vs_hm hm; first | (simp [sp_count, *]; done) | (rw [c_0, sp_count_k (by omega)]; simp [hz]; done) | (rw [c_18, sp_count_k (by omega)]; simp [hz]; done) | (rw [c_30, sp_count_k (by omega)]; simp [hz]; done) | (rw [c_42, sp_count_k (by omega)]; simp [hz]; done) | (rw [c_54, sp_count_k (by omega)]; simp [hz]; done) | (rw [c_67, sp_count_k (by omega)]; simp [hz]; done) | (rw [c_104, sp_count_k (by omega)]; simp [hz]; done) | (rw [c_115, sp_count_k (by omega)]; simp [hz]; done) | (rw [c_126, sp_count_k (by omega)]; simp [hz]; done) | (rw [c_140, sp_count_k (by omega)]; simp [hz]; done) | (obtain rfl | rfl : j = 0 ∨ j = 1 := (by omega) <;> (rw [sp_count_k (by omega)]; simp [hz]))) rfl)
    · skip
      refine mx_al0 d_Mo_count_21 ?_
      refine mx_getR d_Mo_count_22 fl_Mo_7 (by assumption) (by assumption) ?_
      refine mx_in_4 d_Mo_count_25 ?_
      refine mx_iald d_Mo_count_26 (by assumption) (nI_inb (by omega) (by omega)) ?_
      refine mx_ti (y := (mx_up I (mo) 0 (nI (0))) (mo + 1) (4)) (by rw [nI_clamp (by omega)]) ?_
      exact mx_iret d_Mo_count_27 rfl (mx_ri_of2 (by have hz : mx_up I mo 0 (nI 0) (mo + 1) = m := vs_hm hm; first | (simp [sp_count, *]; done) | (rw [c_0, sp_count_k (by omega)]; simp [hz]; done) | (rw [c_18, sp_count_k (by omega)]; simp [hz]; done) | (rw [c_30, sp_count_k (by omega)]; simp [hz]; done) | (rw [c_42, sp_count_k (by omega)]; simp [hz]; done) | (rw [c_54, sp_count_k (by omega)]; simp [hz]; done) | (rw [c_67, sp_count_k (by omega)]; simp [hz]; done) | (rw [c_104, sp_count_k (by omega)]; simp [hz]; done) | (rw [c_115, sp_count_k (by omega)]; simp [hz]; done) | (rw [c_126, sp_count_k (by omega)]; simp [hz]; done) | (rw [c_140, sp_count_k (by omega)]; simp [hz]; done) | (obtain rfl | rfl : j = 0 ∨ j = 1 := (by omega) <;> (rw [sp_count_k (by omega)]; simp [hz]))) rfl)
  · skip
    have c_0 : w = nI 0 := c_6
    refine mx_al0 d_Mo_count_9 ?_
    refine mx_getR d_Mo_count_10 fl_Mo_7 (by assumption) (by assumption) ?_
    refine mx_in_3 d_Mo_count_13 ?_
    refine mx_iald d_Mo_count_14 (by assumption) (nI_inb (by omega) (by omega)) ?_
    refine mx_ti (y := (mx_up I (mo) 0 (nI (0))) (mo + 1) (3)) (by rw [nI_clamp (by omega)]) ?_
    exact mx_iret d_Mo_count_15 rfl (mx_ri_of2 (by have hz : mx_up I mo 0 (nI 0) (mo + 1) = m := vs_hm hm; first | (simp [sp_count, *]; done) | (rw [c_0, sp_count_k (by omega)]; simp [hz]; done) | (rw [c_18, sp_count_k (by omega)]; simp [hz]; done) | (rw [c_30, sp_count_k (by omega)]; simp [hz]; done) | (rw [c_42, sp_count_k (by omega)]; simp [hz]; done) | (rw [c_54, sp_count_k (by omega)]; simp [hz]; done) | (rw [c_67, sp_count_k (by omega)]; simp [hz]; done) | (rw [c_104, sp_count_k (by omega)]; simp [hz]; done) | (rw [c_115, sp_count_k (by omega)]; simp [hz]; done) | (rw [c_126, sp_count_k (by omega)]; simp [hz]; done) | (rw [c_140, sp_count_k (by omega)]; simp [hz]; done) | (obtain rfl | rfl : j = 0 ∨ j = 1 := (by omega) <;> (rw [sp_count_k (by omega)]; simp [hz]))) rfl)
end J18
