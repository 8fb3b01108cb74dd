/-! VALUE, GATE -/
section S27
variable {l : Launch} {E : mx_Env} {t : Nat} {S : mx_S} {I : mx_I} {P : mx_P} {J : mx_G} {m : Nat → Int32} {x mo A H G z la pe : Nat}
def sp_gate (m : Nat → Int32) (v w : Int32) : Nat × Int32 := if vs_isN v 64 && vs_isN w 64 then (0, nI 64 * m 7 + m 8) else (1, nI 0)
theorem c_Pe_tell (hPe : pe_ok S P pe) {h g : Nat} (hh : h < 8) (hg : g < 8) {b : Bool} {v : Int32} : mx_C l E M_Pe_tellRank 1 0 0 [.ref (pe), .int (nI (h)), .int (nI (g)), .int (bI (b)), .int (v)] (t, S, I, P, J) (mx_rv (t, S, mx_up I (if b then pe + 6 else pe + 7) (8 * h + g) v, P, J)) := by
  obtain ⟨hA0, hA1, hA2, hA3, hA4, hA5, hA6, hA7, hB1, hB2, hB3, hB4, hB5, hB6, hB7⟩ := id hPe
  refine mx_C_of (ls0 := [some (.ref (pe)), some (.int (nI (h))), some (.int (nI (g))), some (.int (bI (b))), some (.int (v))]) (by decide +kernel) rfl rfl (Nat.le_of_ble_eq_true rfl) rfl ?_
  refine mx_il3 d_Pe_tellRank_0 ?_
  refine mx_ifB_eq 11 d_Pe_tellRank_1 (by decide) (fun c_1 => ?_) (fun c_1 => ?_)
  · skip
    refine mx_al0 d_Pe_tellRank_11 ?_
    refine mx_getR d_Pe_tellRank_12 fl_Pe_37 (by assumption) (by assumption) ?_
    refine mx_bip 8 d_Pe_tellRank_15 (by decide) ?_
    refine mx_il1 d_Pe_tellRank_17 ?_
    refine mx_imulN d_Pe_tellRank_18 ?_
    refine mx_il2 d_Pe_tellRank_19 ?_
    refine mx_iaddN d_Pe_tellRank_20 ?_
    refine mx_il4 d_Pe_tellRank_21 ?_
    refine mx_cSN3v d_Pe_tellRank_23 (c_put (k := 8 * h + g) (by assumption) (by omega) (by omega)) ok_Vh_put ml_Pe_44 (by decide) (Nat.le_of_ble_eq_true rfl) ?_
    exact mx_vret d_Pe_tellRank_26 rfl (mx_rv_of (by simp [*]))
  · skip
    refine mx_al0 d_Pe_tellRank_4 ?_
    refine mx_getR d_Pe_tellRank_5 fl_Pe_34 (by assumption) (by assumption) ?_
    refine mx_goto 15 d_Pe_tellRank_8 (by decide) ?_
    refine mx_bip 8 d_Pe_tellRank_15 (by decide) ?_
    refine mx_il1 d_Pe_tellRank_17 ?_
    refine mx_imulN d_Pe_tellRank_18 ?_
    refine mx_il2 d_Pe_tellRank_19 ?_
    refine mx_iaddN d_Pe_tellRank_20 ?_
    refine mx_il4 d_Pe_tellRank_21 ?_
    refine mx_cSN3v d_Pe_tellRank_23 (c_put (k := 8 * h + g) (by assumption) (by omega) (by omega)) ok_Vh_put ml_Pe_44 (by decide) (Nat.le_of_ble_eq_true rfl) ?_
    exact mx_vret d_Pe_tellRank_26 rfl (mx_rv_of (by simp [*]))
theorem c_Vh_gate (htr : l.stackTraces = false) (hV : vh_ok S P x) (hSt : st_ok S P (x + 23)) (hSr : st_rel I (x + 23) m) (hPt : pt_ok S P (x + 68)) (hla : P (x + 23) 2 = some la) (hz1 : I (x + 68) 2 = nI z) (hz : z < 12) (hA : I (x + 68) 1 = nI A) (hA12 : A ≤ 12) {v w : Int32} : mx_C l E M_Vh_gate 7 3 18 [.ref (x), .int (v), .int (w)] (t, S, I, P, J) (mx_pk (fun _ => "java/lang/IllegalArgumentException") (sp_gate m v w) (t, S, I, P, J) (t, S, mx_up (mx_up (vs_keep I (x + 68) (x + 23) z A) (x + 23) 6 v) (x + 23) 7 w, (mx_upP P (x + 68 + 2 + 15 * z) 2 (some la)), J)) := by
  obtain ⟨hV0, hVp0, hVp1, hVp2, hVp3, hVp4, hVp5, hVp7, hVp8, hVp9, hVp10, hVp11, hVp12, hVs15, hVs16, hVs68⟩ := id hV
  obtain ⟨hC0, hC1, hC2, hC3, hC4, hC5, hC6, hD1, hD2, hD3, hD4, hPe, hLo⟩ := id hSt
  obtain ⟨hPr, u0, u1, u2, u3, u4, u5, u6, u7, u8⟩ := id hSr
  obtain ⟨hA0, hA1, hA2, hA3, hA4, hA5, hA6, hA7, hB1, hB2, hB3, hB4, hB5, hB6, hB7⟩ := id hPe
  obtain ⟨r0, r1, r2, r3, r4, r5, r6, r7, r8⟩ := id hPr
  have hu : ∀ c, c ≠ x + 68 + 2 + 15 * z → (mx_upP P (x + 68 + 2 + 15 * z) 2 (some la)) c = P c := fun c hc => mx_upP_ne hc
  have hW3 : (mx_upP P (x + 68 + 2 + 15 * z) 2 (some la)) x 3 = some (x + 23) := by rw [hu x (by omega)]; exact hVp3
  have hW7 : (mx_upP P (x + 68 + 2 + 15 * z) 2 (some la)) x 7 = some (x + 68) := by rw [hu x (by omega)]; exact hVp7
  have hX0 : (mx_upP P (x + 68 + 2 + 15 * z) 2 (some la)) (x + 23) 0 = some (x + 23 + 1) := by rw [hu (x + 23) (by omega)]; assumption
  have hX1 : (mx_upP P (x + 68 + 2 + 15 * z) 2 (some la)) (x + 23) 1 = some (x + 23 + 9) := by rw [hu (x + 23) (by omega)]; assumption
  have hX10 : (mx_upP P (x + 68 + 2 + 15 * z) 2 (some la)) (x + 23) 10 = some (x + 23 + 11) := by rw [hu (x + 23) (by omega)]; assumption
  have hX11 : (mx_upP P (x + 68 + 2 + 15 * z) 2 (some la)) (x + 23) 11 = some (x + 23 + 12) := by rw [hu (x + 23) (by omega)]; assumption
  have hX12 : (mx_upP P (x + 68 + 2 + 15 * z) 2 (some la)) (x + 23) 12 = some (x + 23 + 13) := by rw [hu (x + 23) (by omega)]; assumption
  have hX13 : (mx_upP P (x + 68 + 2 + 15 * z) 2 (some la)) (x + 23) 13 = some (x + 23 + 14) := by rw [hu (x + 23) (by omega)]; assumption
  have hY2 : (mx_upP P (x + 68 + 2 + 15 * z) 2 (some la)) (x + 23 + 1) 2 = some (x + 23 + 1 + 1) := by rw [hu (x + 23 + 1) (by omega)]; assumption
  have hY3 : (mx_upP P (x + 68 + 2 + 15 * z) 2 (some la)) (x + 23 + 1) 3 = some (x + 23 + 1 + 2) := by rw [hu (x + 23 + 1) (by omega)]; assumption
  have hY4 : (mx_upP P (x + 68 + 2 + 15 * z) 2 (some la)) (x + 23 + 1) 4 = some (x + 23 + 1 + 3) := by rw [hu (x + 23 + 1) (by omega)]; assumption
  have hY5 : (mx_upP P (x + 68 + 2 + 15 * z) 2 (some la)) (x + 23 + 1) 5 = some (x + 23 + 1 + 4) := by rw [hu (x + 23 + 1) (by omega)]; assumption
  have hY6 : (mx_upP P (x + 68 + 2 + 15 * z) 2 (some la)) (x + 23 + 1) 6 = some (x + 23 + 1 + 5) := by rw [hu (x + 23 + 1) (by omega)]; assumption
  have hY7 : (mx_upP P (x + 68 + 2 + 15 * z) 2 (some la)) (x + 23 + 1) 7 = some (x + 23 + 1 + 6) := by rw [hu (x + 23 + 1) (by omega)]; assumption
  have hY8 : (mx_upP P (x + 68 + 2 + 15 * z) 2 (some la)) (x + 23 + 1) 8 = some (x + 23 + 1 + 7) := by rw [hu (x + 23 + 1) (by omega)]; assumption
  have hK : ∀ c, c < x + 68 → (vs_keep I (x + 68) (x + 23) z A) c = I c := fun c hc => vs_keep_o hz (Or.inl hc)
  have hPt0 := hPt.1
  refine mx_C_of (ls0 := [some (.ref (x)), some (.int (v)), some (.int (w)), none]) (by decide +kernel) rfl rfl (Nat.le_of_ble_eq_true rfl) rfl ?_
  refine mx_il1 d_Vh_gate_0 ?_
  refine mx_in_0 d_Vh_gate_1 ?_
  refine mx_bip 63 d_Vh_gate_2 (by decide) ?_
  refine mx_nS3 d_Vh_gate_4 (c_needNumber htr) ok_Vh_needNumber ml_Vh_269 rfl (by decide) (by decide) (by decide) (Nat.le_of_ble_eq_true rfl) (fun hb4 t9 ht => mx_pk_x ht 0 (by have hnO := vs_nn0 (n := 63) (by omega) hb4; simp_all [sp_gate]) rfl) (fun hb4 => ?_)
  have hnv : vs_isN v 64 = true := by rw [← vs_isN_le2 (n := 63) (by omega)]; exact hb4
  refine mx_il2 d_Vh_gate_7 ?_
  refine mx_in_0 d_Vh_gate_8 ?_
  refine mx_bip 63 d_Vh_gate_9 (by decide) ?_
  refine mx_nS3 d_Vh_gate_11 (c_needNumber htr) ok_Vh_needNumber ml_Vh_269 rfl (by decide) (by decide) (by decide) (Nat.le_of_ble_eq_true rfl) (fun hb11 t9 ht => mx_pk_x ht 0 (by have hnO := vs_nn0 (n := 63) (by omega) hb11; simp_all [sp_gate]) rfl) (fun hb11 => ?_)
  have hnw : vs_isN w 64 = true := by rw [← vs_isN_le2 (n := 63) (by omega)]; exact hb11
  refine mx_al0 d_Vh_gate_14 ?_
  refine mx_getR d_Vh_gate_15 fl_Vh_64 (by assumption) (by assumption) ?_
  refine mx_al0 d_Vh_gate_18 ?_
  refine mx_getR d_Vh_gate_19 fl_Vh_51 (by assumption) (by assumption) ?_
  refine mx_cV1v d_Vh_gate_22 (c_keep hPt hSt hla hz1 hz hA hA12) ok_Pt_keep ml_Vh_257 (by assumption) ⟨rfl, rfl⟩ (by decide) (Nat.le_of_ble_eq_true rfl) ?_
  refine mx_bip 64 d_Vh_gate_25 (by decide) ?_
  refine mx_al0 d_Vh_gate_27 ?_
  refine mx_getR d_Vh_gate_28 fl_Vh_51 (by assumption) (by assumption) ?_
  refine mx_getI d_Vh_gate_31 fl_Vh_276 (by assumption) ?_
  refine mx_imul d_Vh_gate_34 ?_
  refine mx_al0 d_Vh_gate_35 ?_
  refine mx_getR d_Vh_gate_36 fl_Vh_51 (by assumption) (by assumption) ?_
  refine mx_getI d_Vh_gate_39 fl_Vh_279 (by assumption) ?_
  refine mx_iadd d_Vh_gate_42 ?_
  refine mx_is3 d_Vh_gate_43 ?_
  refine mx_al0 d_Vh_gate_44 ?_
  refine mx_getR d_Vh_gate_45 fl_Vh_51 (by assumption) (by assumption) ?_
  refine mx_il1 d_Vh_gate_48 ?_
  refine mx_putI d_Vh_gate_49 fl_Vh_276 (by assumption) ?_
  refine mx_al0 d_Vh_gate_52 ?_
  refine mx_getR d_Vh_gate_53 fl_Vh_51 (by assumption) (by assumption) ?_
  refine mx_il2 d_Vh_gate_56 ?_
  refine mx_putI d_Vh_gate_57 fl_Vh_279 (by assumption) ?_
  refine mx_il3 d_Vh_gate_60 ?_
  exact mx_iret d_Vh_gate_61 rfl (mx_pk_i (by rw [hK _ (by omega), u3, u4]; simp [sp_gate, *]) rfl)
theorem c_Mo_gate (hM : mo_ok S P mo) (hm : I (mo + 1) = m) (hA : I mo 6 = nI A) (hA12 : A ≤ 12) {v w : Int32} : mx_C l E M_Mo_gate 2 0 0 [.ref (mo), .int (v), .int (w)] (t, S, I, P, J) (mx_ri (sp_gate m v w).2 (t, S, (if (sp_gate m v w).1 = 0 then mx_up (mx_up (vs_rem (mx_up I mo 0 (nI 0)) mo A) (mo + 1) 7 v) (mo + 1) 8 w else mx_up I mo 0 (nI 1)), P, J)) := by
  obtain ⟨hM0, hMp1, hMp2, hMp4, hMp5, hMp7, hMp14, hMp21, hMp22, hMp23, hMp24, hMp25, hMp26, hMp27, hMs1, hMs2, hMs3, hMs4, hMs5, hMs6, hMs7, hMs8, hMs9, hMs10, hMs11, hMs12, hMs13⟩ := id hM
  refine mx_C_of (ls0 := [some (.ref (mo)), some (.int (v)), some (.int (w)), none, none]) (by decide +kernel) rfl rfl (Nat.le_of_ble_eq_true rfl) rfl ?_
  refine mx_al0 d_Mo_gate_0 ?_
  refine mx_il1 d_Mo_gate_1 ?_
  refine mx_in_0 d_Mo_gate_2 ?_
  refine mx_bip 63 d_Mo_gate_3 (by decide) ?_
  refine mx_cS3i d_Mo_gate_5 (cm_isIn0 (x := v) (n := 63) (by omega)) ok_Mo_isIn ml_Mo_57 (by decide) (Nat.le_of_ble_eq_true rfl) ?_
  refine mx_ifB_eq 21 d_Mo_gate_8 (by decide) (fun c_8 => ?_) (fun c_8 => ?_)
  · skip
    refine mx_in_1 d_Mo_gate_21 ?_
    refine mx_goto 26 d_Mo_gate_22 (by decide) ?_
    refine mx_putI d_Mo_gate_26 fl_Mo_54 (by assumption) ?_
    refine mx_al0 d_Mo_gate_29 ?_
    refine mx_getI d_Mo_gate_30 fl_Mo_54 (by assumption) ?_
    refine mx_ti (y := nI (1)) (vs_upx) ?_
    refine mx_if_le 38 d_Mo_gate_33 (by decide) (fun c_33 => absurd c_33 (by decide)) (fun c_33 => ?_)
    refine mx_in_0 d_Mo_gate_36 ?_
    exact mx_iret d_Mo_gate_37 rfl (mx_ri_of2 (by simp [sp_gate, *]) (by simp [sp_gate, *]))
  · skip
    refine mx_il2 d_Mo_gate_11 ?_
    refine mx_in_0 d_Mo_gate_12 ?_
    refine mx_bip 63 d_Mo_gate_13 (by decide) ?_
    refine mx_cS3i d_Mo_gate_15 (cm_isIn0 (x := w) (n := 63) (by omega)) ok_Mo_isIn ml_Mo_57 (by decide) (Nat.le_of_ble_eq_true rfl) ?_
    refine mx_ifB_ne 25 d_Mo_gate_18 (by decide) (fun c_18 => ?_) (fun c_18 => ?_)
    · skip
      refine mx_in_0 d_Mo_gate_25 ?_
      refine mx_putI d_Mo_gate_26 fl_Mo_54 (by assumption) ?_
      refine mx_al0 d_Mo_gate_29 ?_
      refine mx_getI d_Mo_gate_30 fl_Mo_54 (by assumption) ?_
      refine mx_ti (y := nI (0)) (vs_upx) ?_
      refine mx_if_le 38 d_Mo_gate_33 (by decide) (fun c_33 => ?_) (fun c_33 => absurd (by decide) c_33)
      refine mx_al0 d_Mo_gate_38 ?_
      refine mx_getR d_Mo_gate_39 fl_Mo_7 (by assumption) (by assumption) ?_
      refine mx_bip 8 d_Mo_gate_42 (by decide) ?_
      refine mx_iald d_Mo_gate_44 (by assumption) (nI_inb (by omega) (by omega)) ?_
      refine mx_ti (y := (mx_up I (mo) 0 (nI (0))) (mo + 1) (8)) (by rw [nI_clamp (by omega)]) ?_
      refine mx_ti (y := (m 8)) (congrFun (vs_hm hm) 8) ?_
      refine mx_is3 d_Mo_gate_45 ?_
      refine mx_al0 d_Mo_gate_46 ?_
      refine mx_bip 7 d_Mo_gate_47 (by decide) ?_
      refine mx_il1 d_Mo_gate_49 ?_
      refine mx_cV2i d_Mo_gate_50 (c_Mo_sets hM (vs_hm hm) (A := A) (w := 7) ((mx_up_z (by decide)).trans hA) hA12 (by omega)) ok_Mo_sets ml_Mo_344 (by assumption) ⟨rfl, rfl⟩ (by decide) (Nat.le_of_ble_eq_true rfl) ?_
      refine mx_is4 d_Mo_gate_53 ?_
      refine mx_al0 d_Mo_gate_55 ?_
      refine mx_getR d_Mo_gate_56 fl_Mo_7 (by assumption) (by assumption) ?_
      refine mx_bip 8 d_Mo_gate_59 (by decide) ?_
      refine mx_il2 d_Mo_gate_61 ?_
      refine mx_iast d_Mo_gate_62 (by assumption) (nI_inb (by omega) (by omega)) ?_
      rw [nI_clamp (by omega)]
      refine mx_bip 64 d_Mo_gate_63 (by decide) ?_
      refine mx_il4 d_Mo_gate_65 ?_
      refine mx_imul d_Mo_gate_67 ?_
      refine mx_il3 d_Mo_gate_68 ?_
      refine mx_iadd d_Mo_gate_69 ?_
      exact mx_iret d_Mo_gate_70 rfl (mx_ri_of2 (by simp [sp_gate, *]) (by simp [sp_gate, *]))
    · skip
      refine mx_in_1 d_Mo_gate_21 ?_
      refine mx_goto 26 d_Mo_gate_22 (by decide) ?_
      refine mx_putI d_Mo_gate_26 fl_Mo_54 (by assumption) ?_
      refine mx_al0 d_Mo_gate_29 ?_
      refine mx_getI d_Mo_gate_30 fl_Mo_54 (by assumption) ?_
      refine mx_ti (y := nI (1)) (vs_upx) ?_
      refine mx_if_le 38 d_Mo_gate_33 (by decide) (fun c_33 => absurd c_33 (by decide)) (fun c_33 => ?_)
      refine mx_in_0 d_Mo_gate_36 ?_
      exact mx_iret d_Mo_gate_37 rfl (mx_ri_of2 (by simp [sp_gate, *]) (by simp [sp_gate, *]))
theorem c_Vh_value (htr : l.stackTraces = false) (hV : vh_ok S P x) (hSt : st_ok S P (x + 23)) (hSr : st_rel I (x + 23) m) (hH : m 3 = nI H) (hH8 : H ≤ 8) (hG : m 4 = nI G) (hG8 : G ≤ 8) (hPt : pt_ok S P (x + 68)) (hla : P (x + 23) 2 = some la) (hz1 : I (x + 68) 2 = nI z) (hz : z < 12) (hA : I (x + 68) 1 = nI A) (hA12 : A ≤ 12) {v w u : Int32} {b : Bool} : mx_C l E M_Vh_value 7 4 24 [.ref (x), .int (v), .int (w), .int (bI (b)), .int (u)] (t, S, I, P, J) (mx_pk (fun c => if c = 1 then "java/lang/IndexOutOfBoundsException" else "java/lang/IllegalArgumentException") (sp_value m H G v w b u) (t, S, I, P, J) (t, S, mx_up (vs_keep I (x + 68) (x + 23) z A) (if b then x + 23 + 1 + 6 else x + 23 + 1 + 7) (8 * v.toNatClampNeg + w.toNatClampNeg) u, (mx_upP P (x + 68 + 2 + 15 * z) 2 (some la)), J)) := by
  obtain ⟨hV0, hVp0, hVp1, hVp2, hVp3, hVp4, hVp5, hVp7, hVp8, hVp9, hVp10, hVp11, hVp12, hVs15, hVs16, hVs68⟩ := id hV
  obtain ⟨hC0, hC1, hC2, hC3, hC4, hC5, hC6, hD1, hD2, hD3, hD4, hPe, hLo⟩ := id hSt
  obtain ⟨hPr, u0, u1, u2, u3, u4, u5, u6, u7, u8⟩ := id hSr
  obtain ⟨hA0, hA1, hA2, hA3, hA4, hA5, hA6, hA7, hB1, hB2, hB3, hB4, hB5, hB6, hB7⟩ := id hPe
  obtain ⟨r0, r1, r2, r3, r4, r5, r6, r7, r8⟩ := id hPr
  have hu : ∀ c, c ≠ x + 68 + 2 + 15 * z → (mx_upP P (x + 68 + 2 + 15 * z) 2 (some la)) c = P c := fun c hc => mx_upP_ne hc
  have hW3 : (mx_upP P (x + 68 + 2 + 15 * z) 2 (some la)) x 3 = some (x + 23) := by rw [hu x (by omega)]; exact hVp3
  have hW7 : (mx_upP P (x + 68 + 2 + 15 * z) 2 (some la)) x 7 = some (x + 68) := by rw [hu x (by omega)]; exact hVp7
  have hX0 : (mx_upP P (x + 68 + 2 + 15 * z) 2 (some la)) (x + 23) 0 = some (x + 23 + 1) := by rw [hu (x + 23) (by omega)]; assumption
  have hX1 : (mx_upP P (x + 68 + 2 + 15 * z) 2 (some la)) (x + 23) 1 = some (x + 23 + 9) := by rw [hu (x + 23) (by omega)]; assumption
  have hX10 : (mx_upP P (x + 68 + 2 + 15 * z) 2 (some la)) (x + 23) 10 = some (x + 23 + 11) := by rw [hu (x + 23) (by omega)]; assumption
  have hX11 : (mx_upP P (x + 68 + 2 + 15 * z) 2 (some la)) (x + 23) 11 = some (x + 23 + 12) := by rw [hu (x + 23) (by omega)]; assumption
  have hX12 : (mx_upP P (x + 68 + 2 + 15 * z) 2 (some la)) (x + 23) 12 = some (x + 23 + 13) := by rw [hu (x + 23) (by omega)]; assumption
  have hX13 : (mx_upP P (x + 68 + 2 + 15 * z) 2 (some la)) (x + 23) 13 = some (x + 23 + 14) := by rw [hu (x + 23) (by omega)]; assumption
  have hY2 : (mx_upP P (x + 68 + 2 + 15 * z) 2 (some la)) (x + 23 + 1) 2 = some (x + 23 + 1 + 1) := by rw [hu (x + 23 + 1) (by omega)]; assumption
  have hY3 : (mx_upP P (x + 68 + 2 + 15 * z) 2 (some la)) (x + 23 + 1) 3 = some (x + 23 + 1 + 2) := by rw [hu (x + 23 + 1) (by omega)]; assumption
  have hY4 : (mx_upP P (x + 68 + 2 + 15 * z) 2 (some la)) (x + 23 + 1) 4 = some (x + 23 + 1 + 3) := by rw [hu (x + 23 + 1) (by omega)]; assumption
  have hY5 : (mx_upP P (x + 68 + 2 + 15 * z) 2 (some la)) (x + 23 + 1) 5 = some (x + 23 + 1 + 4) := by rw [hu (x + 23 + 1) (by omega)]; assumption
  have hY6 : (mx_upP P (x + 68 + 2 + 15 * z) 2 (some la)) (x + 23 + 1) 6 = some (x + 23 + 1 + 5) := by rw [hu (x + 23 + 1) (by omega)]; assumption
  have hY7 : (mx_upP P (x + 68 + 2 + 15 * z) 2 (some la)) (x + 23 + 1) 7 = some (x + 23 + 1 + 6) := by rw [hu (x + 23 + 1) (by omega)]; assumption
  have hY8 : (mx_upP P (x + 68 + 2 + 15 * z) 2 (some la)) (x + 23 + 1) 8 = some (x + 23 + 1 + 7) := by rw [hu (x + 23 + 1) (by omega)]; assumption
  have hK : ∀ c, c < x + 68 → (vs_keep I (x + 68) (x + 23) z A) c = I c := fun c hc => vs_keep_o hz (Or.inl hc)
  have hPt0 := hPt.1
  have hSt9 : st_ok S (mx_upP P (x + 68 + 2 + 15 * z) 2 (some la)) (x + 23) := hSt.congrP (fun c h1 h2 => hu c (by omega))
  have hSr9 : st_rel (vs_keep I (x + 68) (x + 23) z A) (x + 23) m := hSr.congr (fun c h1 h2 => hK c (by omega))
  have hPe9 := hSt9.2.2.2.2.2.2.2.2.2.2.2.1
  have hPr9 := hSr9.1
  refine mx_C_of (ls0 := [some (.ref (x)), some (.int (v)), some (.int (w)), some (.int (bI (b))), some (.int (u)), none]) (by decide +kernel) rfl rfl (Nat.le_of_ble_eq_true rfl) rfl ?_
  refine mx_al0 d_Vh_value_0 ?_
  refine mx_il1 d_Vh_value_1 ?_
  refine mx_nV1 d_Vh_value_2 (c_needHost htr hV hSt hSr hH hH8) ok_Vh_needHost ml_Vh_159 (by assumption) ⟨rfl, rfl⟩ rfl (by decide) (by decide) (by decide) (Nat.le_of_ble_eq_true rfl) (fun hb2 t9 ht => mx_pk_x ht 0 (by simp_all [sp_value]) rfl) (fun hb2 => ?_)
  obtain ⟨h, hhL, rfl⟩ := vs_isN_of (by omega) hb2
  have hhc : (nI h).toNatClampNeg = h := nI_clamp (by omega)
  have hhL8 : h < 8 := by omega
  refine mx_al0 d_Vh_value_5 ?_
  refine mx_il2 d_Vh_value_6 ?_
  refine mx_nV1 d_Vh_value_7 (c_needGuest htr hV hSt hSr hG hG8) ok_Vh_needGuest ml_Vh_199 (by assumption) ⟨rfl, rfl⟩ rfl (by decide) (by decide) (by decide) (Nat.le_of_ble_eq_true rfl) (fun hb7 t9 ht => mx_pk_x ht 0 (by simp_all [sp_value]) rfl) (fun hb7 => ?_)
  obtain ⟨g, hgL, rfl⟩ := vs_isN_of (by omega) hb7
  have hgc : (nI g).toNatClampNeg = g := nI_clamp (by omega)
  have hgL8 : g < 8 := by omega
  refine mx_il4 d_Vh_value_10 ?_
  refine mx_in_0 d_Vh_value_12 ?_
  refine mx_bip 9 d_Vh_value_13 (by decide) ?_
  refine mx_nS3 d_Vh_value_15 (c_needNumber htr) ok_Vh_needNumber ml_Vh_269 rfl (by decide) (by decide) (by decide) (Nat.le_of_ble_eq_true rfl) (fun hb15 t9 ht => mx_pk_x ht 1 (by have hnO := vs_nn0 (n := 9) (by omega) hb15; simp_all [sp_value]) rfl) (fun hb15 => ?_)
  have hnu : vs_isN u 10 = true := by rw [← vs_isN_le2 (n := 9) (by omega)]; exact hb15
  refine mx_al0 d_Vh_value_18 ?_
  refine mx_getR d_Vh_value_19 fl_Vh_64 (by assumption) (by assumption) ?_
  refine mx_al0 d_Vh_value_22 ?_
  refine mx_getR d_Vh_value_23 fl_Vh_51 (by assumption) (by assumption) ?_
  refine mx_cV1v d_Vh_value_26 (c_keep hPt hSt hla hz1 hz hA hA12) ok_Pt_keep ml_Vh_257 (by assumption) ⟨rfl, rfl⟩ (by decide) (Nat.le_of_ble_eq_true rfl) ?_
  refine mx_al0 d_Vh_value_29 ?_
  refine mx_getR d_Vh_value_30 fl_Vh_51 (by assumption) (by assumption) ?_
  refine mx_getR d_Vh_value_33 fl_Vh_162 (by assumption) (by assumption) ?_
  refine mx_il1 d_Vh_value_36 ?_
  refine mx_il2 d_Vh_value_37 ?_
  refine mx_il3 d_Vh_value_38 ?_
  refine mx_cV3i d_Vh_value_39 (c_Pe_rankB hPe9 hPr9 (h := h) (g := g) (b := b) (by omega) (by omega)) ok_Pe_rankOf ml_Vh_222 (by assumption) ⟨rfl, rfl⟩ (by decide) (Nat.le_of_ble_eq_true rfl) ?_
  refine mx_is5 d_Vh_value_42 ?_
  refine mx_al0 d_Vh_value_44 ?_
  refine mx_getR d_Vh_value_45 fl_Vh_51 (by assumption) (by assumption) ?_
  refine mx_getR d_Vh_value_48 fl_Vh_162 (by assumption) (by assumption) ?_
  refine mx_il1 d_Vh_value_51 ?_
  refine mx_il2 d_Vh_value_52 ?_
  refine mx_il3 d_Vh_value_53 ?_
  refine mx_il4 d_Vh_value_54 ?_
  refine mx_cV4v d_Vh_value_56 (c_Pe_tell (by assumption) (h := h) (g := g) (b := b) (by omega) (by omega)) ok_Pe_tellRank ml_Vh_282 (by assumption) ⟨rfl, rfl⟩ (by decide) (Nat.le_of_ble_eq_true rfl) ?_
  refine mx_il5 d_Vh_value_59 ?_
  exact mx_iret d_Vh_value_61 rfl (mx_pk_i (by simp [sp_value, *]) (by rw [hhc, hgc]))
end S27
