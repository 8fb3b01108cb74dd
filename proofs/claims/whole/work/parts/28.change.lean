/-! CHANGE -/
section S28
variable {l : Launch} {E : mx_Env} {t : Nat} {S : mx_S} {I : mx_I} {P : mx_P} {J : mx_G} {m : Nat → Int32} {x mo A H G z la pe : Nat}
def sp_change (m : Nat → Int32) (H : Nat) (v w u : Int32) : Nat × Int32 := if vs_isN v H && (vs_isN w H && vs_isN u 8) then (if v = w then (2, nI 0) else (0, m (195 + 8 * w.toNatClampNeg + u.toNatClampNeg))) else (1, nI 0)
theorem c_Vh_change (htr : l.stackTraces = false) (hV : vh_ok S P x) (hSt : st_ok S P (x + 23)) (hSr : st_rel I (x + 23) m) (hH : m 3 = nI H) (hH8 : H ≤ 8) (hPt : pt_ok S P (x + 68)) (hla : P (x + 23) 2 = some la) (hz1 : I (x + 68) 2 = nI z) (hz : z < 12) (hA : I (x + 68) 1 = nI A) (hA12 : A ≤ 12) {v w u : Int32} : mx_C l E M_Vh_change 7 4 24 [.ref (x), .int (v), .int (w), .int (u)] (t, S, I, P, J) (mx_pk (fun c => if c = 1 then "java/lang/IndexOutOfBoundsException" else "java/lang/IllegalArgumentException") (sp_change m H v w u) (t, S, I, P, J) (t, S, mx_up (mx_up (vs_keep I (x + 68) (x + 23) z A) (x + 23 + 13) (8 * v.toNatClampNeg + u.toNatClampNeg) (m (195 + 8 * w.toNatClampNeg + u.toNatClampNeg))) (x + 23 + 13) (8 * w.toNatClampNeg + u.toNatClampNeg) (m (195 + 8 * v.toNatClampNeg + u.toNatClampNeg)), (mx_upP P (x + 68 + 2 + 15 * z) 2 (some la)), J)) := by
  obtain ⟨hV0, hVp0, hVp1, hVp2, hVp3, hVp4, hVp5, hVp7, hVp8, hVp9, hVp10, hVp11, hVp12, hVs15, hVs16, hVs68⟩ := id hV
  obtain ⟨hC0, hC1, hC2, hC3, hC4, hC5, hC6, hD1, hD2, hD3, hD4, hPe, hLo⟩ := id hSt
  obtain ⟨hPr, u0, u1, u2, u3, u4, u5, u6, u7, u8⟩ := id hSr
  obtain ⟨hA0, hA1, hA2, hA3, hA4, hA5, hA6, hA7, hB1, hB2, hB3, hB4, hB5, hB6, hB7⟩ := id hPe
  obtain ⟨r0, r1, r2, r3, r4, r5, r6, r7, r8⟩ := id hPr
  have hu : ∀ c, c ≠ x + 68 + 2 + 15 * z → (mx_upP P (x + 68 + 2 + 15 * z) 2 (some la)) c = P c := fun c hc => mx_upP_ne hc
  have hW3 : (mx_upP P (x + 68 + 2 + 15 * z) 2 (some la)) x 3 = some (x + 23) := by rw [hu x (by omega)]; exact hVp3
  have hW7 : (mx_upP P (x + 68 + 2 + 15 * z) 2 (some la)) x 7 = some (x + 68) := by rw [hu x (by omega)]; exact hVp7
  have hX0 : (mx_upP P (x + 68 + 2 + 15 * z) 2 (some la)) (x + 23) 0 = some (x + 23 + 1) := by rw [hu (x + 23) (by omega)]; assumption
  have hX1 : (mx_upP P (x + 68 + 2 + 15 * z) 2 (some la)) (x + 23) 1 = some (x + 23 + 9) := by rw [hu (x + 23) (by omega)]; assumption
  have hX10 : (mx_upP P (x + 68 + 2 + 15 * z) 2 (some la)) (x + 23) 10 = some (x + 23 + 11) := by rw [hu (x + 23) (by omega)]; assumption
  have hX11 : (mx_upP P (x + 68 + 2 + 15 * z) 2 (some la)) (x + 23) 11 = some (x + 23 + 12) := by rw [hu (x + 23) (by omega)]; assumption
  have hX12 : (mx_upP P (x + 68 + 2 + 15 * z) 2 (some la)) (x + 23) 12 = some (x + 23 + 13) := by rw [hu (x + 23) (by omega)]; assumption
  have hX13 : (mx_upP P (x + 68 + 2 + 15 * z) 2 (some la)) (x + 23) 13 = some (x + 23 + 14) := by rw [hu (x + 23) (by omega)]; assumption
  have hY2 : (mx_upP P (x + 68 + 2 + 15 * z) 2 (some la)) (x + 23 + 1) 2 = some (x + 23 + 1 + 1) := by rw [hu (x + 23 + 1) (by omega)]; assumption
  have hY3 : (mx_upP P (x + 68 + 2 + 15 * z) 2 (some la)) (x + 23 + 1) 3 = some (x + 23 + 1 + 2) := by rw [hu (x + 23 + 1) (by omega)]; assumption
  have hY4 : (mx_upP P (x + 68 + 2 + 15 * z) 2 (some la)) (x + 23 + 1) 4 = some (x + 23 + 1 + 3) := by rw [hu (x + 23 + 1) (by omega)]; assumption
  have hY5 : (mx_upP P (x + 68 + 2 + 15 * z) 2 (some la)) (x + 23 + 1) 5 = some (x + 23 + 1 + 4) := by rw [hu (x + 23 + 1) (by omega)]; assumption
  have hY6 : (mx_upP P (x + 68 + 2 + 15 * z) 2 (some la)) (x + 23 + 1) 6 = some (x + 23 + 1 + 5) := by rw [hu (x + 23 + 1) (by omega)]; assumption
  have hY7 : (mx_upP P (x + 68 + 2 + 15 * z) 2 (some la)) (x + 23 + 1) 7 = some (x + 23 + 1 + 6) := by rw [hu (x + 23 + 1) (by omega)]; assumption
  have hY8 : (mx_upP P (x + 68 + 2 + 15 * z) 2 (some la)) (x + 23 + 1) 8 = some (x + 23 + 1 + 7) := by rw [hu (x + 23 + 1) (by omega)]; assumption
  have hK : ∀ c, c < x + 68 → (vs_keep I (x + 68) (x + 23) z A) c = I c := fun c hc => vs_keep_o hz (Or.inl hc)
  have hPt0 := hPt.1
  have hSt9 : st_ok S (mx_upP P (x + 68 + 2 + 15 * z) 2 (some la)) (x + 23) := hSt.congrP (fun c h1 h2 => hu c (by omega))
  have hSr9 : st_rel (vs_keep I (x + 68) (x + 23) z A) (x + 23) m := hSr.congr (fun c h1 h2 => hK c (by omega))
  refine mx_C_of (ls0 := [some (.ref (x)), some (.int (v)), some (.int (w)), some (.int (u)), none, none]) (by decide +kernel) rfl rfl (Nat.le_of_ble_eq_true rfl) rfl ?_
  refine mx_al0 d_Vh_change_0 ?_
  refine mx_il1 d_Vh_change_1 ?_
  refine mx_nV1 d_Vh_change_2 (c_needHost htr hV hSt hSr hH hH8) ok_Vh_needHost ml_Vh_159 (by assumption) ⟨rfl, rfl⟩ rfl (by decide) (by decide) (by decide) (Nat.le_of_ble_eq_true rfl) (fun hb2 t9 ht => mx_pk_x ht 0 (by simp_all [sp_change]) rfl) (fun hb2 => ?_)
  obtain ⟨h, hhL, rfl⟩ := vs_isN_of (by omega) hb2
  have hhc : (nI h).toNatClampNeg = h := nI_clamp (by omega)
  have hhL8 : h < 8 := by omega
  refine mx_al0 d_Vh_change_5 ?_
  refine mx_il2 d_Vh_change_6 ?_
  refine mx_nV1 d_Vh_change_7 (c_needHost htr hV hSt hSr hH hH8) ok_Vh_needHost ml_Vh_159 (by assumption) ⟨rfl, rfl⟩ rfl (by decide) (by decide) (by decide) (Nat.le_of_ble_eq_true rfl) (fun hb7 t9 ht => mx_pk_x ht 0 (by simp_all [sp_change]) rfl) (fun hb7 => ?_)
  obtain ⟨p, hpL, rfl⟩ := vs_isN_of (by omega) hb7
  have hpc : (nI p).toNatClampNeg = p := nI_clamp (by omega)
  have hpL8 : p < 8 := by omega
  refine mx_il3 d_Vh_change_10 ?_
  refine mx_nS1 d_Vh_change_11 (c_needQuarter htr) ok_Vh_needQuarter ml_Vh_226 rfl (by decide) (by decide) (by decide) (Nat.le_of_ble_eq_true rfl) (fun hb11 t9 ht => mx_pk_x ht 0 (by simp_all [sp_change]) rfl) (fun hb11 => ?_)
  obtain ⟨q, hqL, rfl⟩ := vs_isN_of (by omega) hb11
  have hqc : (nI q).toNatClampNeg = q := nI_clamp (by omega)
  have hqL8 : q < 8 := by omega
  refine mx_il1 d_Vh_change_14 ?_
  refine mx_il2 d_Vh_change_15 ?_
  refine mx_nS2 d_Vh_change_16 (c_needTwo htr) ok_Vh_needTwo ml_Vh_265 rfl (by decide) (by decide) (by decide) (Nat.le_of_ble_eq_true rfl) (fun hb16 t9 ht => mx_pk_x ht 1 (by simp [sp_change, hb2, hb7, hb11, (show nI h = nI p from by simpa using hb16)]) rfl) (fun hb16 => ?_)
  have hne : ¬ nI h = nI p := of_decide_eq_true hb16
  refine mx_al0 d_Vh_change_19 ?_
  refine mx_getR d_Vh_change_20 fl_Vh_64 (by assumption) (by assumption) ?_
  refine mx_al0 d_Vh_change_23 ?_
  refine mx_getR d_Vh_change_24 fl_Vh_51 (by assumption) (by assumption) ?_
  refine mx_cV1v d_Vh_change_27 (c_keep hPt hSt hla hz1 hz hA hA12) ok_Pt_keep ml_Vh_257 (by assumption) ⟨rfl, rfl⟩ (by decide) (Nat.le_of_ble_eq_true rfl) ?_
  refine mx_al0 d_Vh_change_30 ?_
  refine mx_getR d_Vh_change_31 fl_Vh_51 (by assumption) (by assumption) ?_
  refine mx_il1 d_Vh_change_34 ?_
  refine mx_il3 d_Vh_change_35 ?_
  refine mx_cV2i d_Vh_change_36 (c_St_guestAt hSt9 hSr9 (h := h) (q := q) (by omega) (by omega)) ok_St_guestAt ml_Vh_229 (by assumption) ⟨rfl, rfl⟩ (by decide) (Nat.le_of_ble_eq_true rfl) ?_
  refine mx_is4 d_Vh_change_39 ?_
  refine mx_al0 d_Vh_change_41 ?_
  refine mx_getR d_Vh_change_42 fl_Vh_51 (by assumption) (by assumption) ?_
  refine mx_il2 d_Vh_change_45 ?_
  refine mx_il3 d_Vh_change_46 ?_
  refine mx_cV2i d_Vh_change_47 (c_St_guestAt hSt9 hSr9 (h := p) (q := q) (by omega) (by omega)) ok_St_guestAt ml_Vh_229 (by assumption) ⟨rfl, rfl⟩ (by decide) (Nat.le_of_ble_eq_true rfl) ?_
  refine mx_is5 d_Vh_change_50 ?_
  refine mx_al0 d_Vh_change_52 ?_
  refine mx_getR d_Vh_change_53 fl_Vh_51 (by assumption) (by assumption) ?_
  refine mx_il1 d_Vh_change_56 ?_
  refine mx_il3 d_Vh_change_57 ?_
  refine mx_il5 d_Vh_change_58 ?_
  refine mx_cV3v d_Vh_change_60 (c_St_enter (by assumption) (by assumption) (by assumption) (h := h) (q := q) (by omega) (by omega)) ok_St_enter ml_Vh_260 (by assumption) ⟨rfl, rfl⟩ (by decide) (Nat.le_of_ble_eq_true rfl) ?_
  refine mx_al0 d_Vh_change_63 ?_
  refine mx_getR d_Vh_change_64 fl_Vh_51 (by assumption) (by assumption) ?_
  refine mx_il2 d_Vh_change_67 ?_
  refine mx_il3 d_Vh_change_68 ?_
  refine mx_il4 d_Vh_change_69 ?_
  refine mx_cV3v d_Vh_change_71 (c_St_enter (by assumption) (by assumption) (by assumption) (h := p) (q := q) (by omega) (by omega)) ok_St_enter ml_Vh_260 (by assumption) ⟨rfl, rfl⟩ (by decide) (Nat.le_of_ble_eq_true rfl) ?_
  refine mx_il5 d_Vh_change_74 ?_
  exact mx_iret d_Vh_change_76 rfl (mx_pk_i (by simp [sp_change, hb2, hb7, hb11, hne, hhc, hpc, hqc]) (by rw [hhc, hpc, hqc]))
theorem c_Mo_change (hM : mo_ok S P mo) (hm : I (mo + 1) = m) (hH : m 3 = nI H) (hH8 : H ≤ 8) (hA : I mo 6 = nI A) (hA12 : A ≤ 12) {v w u : Int32} : mx_C l E M_Mo_change 2 0 0 [.ref (mo), .int (v), .int (w), .int (u)] (t, S, I, P, J) (mx_ri (sp_change m H v w u).2 (t, S, (if (sp_change m H v w u).1 = 0 then mx_up (mx_up (vs_rem (mx_up I mo 0 (nI 0)) mo A) (mo + 1) (195 + 8 * v.toNatClampNeg + u.toNatClampNeg) (m (195 + 8 * w.toNatClampNeg + u.toNatClampNeg))) (mo + 1) (195 + 8 * w.toNatClampNeg + u.toNatClampNeg) (m (195 + 8 * v.toNatClampNeg + u.toNatClampNeg)) else mx_up I mo 0 (nI (sp_change m H v w u).1)), P, J)) := by
  obtain ⟨hM0, hMp1, hMp2, hMp4, hMp5, hMp7, hMp14, hMp21, hMp22, hMp23, hMp24, hMp25, hMp26, hMp27, hMs1, hMs2, hMs3, hMs4, hMs5, hMs6, hMs7, hMs8, hMs9, hMs10, hMs11, hMs12, hMs13⟩ := id hM
  refine mx_C_of (ls0 := [some (.ref (mo)), some (.int (v)), some (.int (w)), some (.int (u)), none, none]) (by decide +kernel) rfl rfl (Nat.le_of_ble_eq_true rfl) rfl ?_
  refine mx_al0 d_Mo_change_0 ?_
  refine mx_al0 d_Mo_change_1 ?_
  refine mx_il1 d_Mo_change_2 ?_
  refine mx_cV1i d_Mo_change_3 (cm_isHost hM hm hH hH8) ok_Mo_isHost ml_Mo_310 (by assumption) ⟨rfl, rfl⟩ (by decide) (Nat.le_of_ble_eq_true rfl) ?_
  refine mx_ifB_eq 24 d_Mo_change_6 (by decide) (fun c_6 => ?_) (fun c_6 => ?_)
  · skip
    refine mx_in_1 d_Mo_change_24 ?_
    refine mx_goto 38 d_Mo_change_25 (by decide) ?_
    refine mx_putI d_Mo_change_38 fl_Mo_54 (by assumption) ?_
    refine mx_al0 d_Mo_change_41 ?_
    refine mx_getI d_Mo_change_42 fl_Mo_54 (by assumption) ?_
    refine mx_ti (y := nI (1)) (vs_upx) ?_
    refine mx_if_le 50 d_Mo_change_45 (by decide) (fun c_45 => absurd c_45 (by decide)) (fun c_45 => ?_)
    refine mx_in_0 d_Mo_change_48 ?_
    exact mx_iret d_Mo_change_49 rfl (mx_ri_of2 (by simp [sp_change, *]) (by simp [sp_change, *]))
  · skip
    obtain ⟨h, hhL, rfl⟩ := vs_isN_of (by omega) c_6
    have hhc : (nI h).toNatClampNeg = h := nI_clamp (by omega)
    have hhL8 : h < 8 := by omega
    refine mx_al0 d_Mo_change_9 ?_
    refine mx_il2 d_Mo_change_10 ?_
    refine mx_cV1i d_Mo_change_11 (cm_isHost hM hm hH hH8) ok_Mo_isHost ml_Mo_310 (by assumption) ⟨rfl, rfl⟩ (by decide) (Nat.le_of_ble_eq_true rfl) ?_
    refine mx_ifB_eq 24 d_Mo_change_14 (by decide) (fun c_14 => ?_) (fun c_14 => ?_)
    · skip
      refine mx_in_1 d_Mo_change_24 ?_
      refine mx_goto 38 d_Mo_change_25 (by decide) ?_
      refine mx_putI d_Mo_change_38 fl_Mo_54 (by assumption) ?_
      refine mx_al0 d_Mo_change_41 ?_
      refine mx_getI d_Mo_change_42 fl_Mo_54 (by assumption) ?_
      refine mx_ti (y := nI (1)) (vs_upx) ?_
      refine mx_if_le 50 d_Mo_change_45 (by decide) (fun c_45 => absurd c_45 (by decide)) (fun c_45 => ?_)
      refine mx_in_0 d_Mo_change_48 ?_
      exact mx_iret d_Mo_change_49 rfl (mx_ri_of2 (by simp [sp_change, *]) (by simp [sp_change, *]))
    · skip
      obtain ⟨p, hpL, rfl⟩ := vs_isN_of (by omega) c_14
      have hpc : (nI p).toNatClampNeg = p := nI_clamp (by omega)
      have hpL8 : p < 8 := by omega
      refine mx_il3 d_Mo_change_17 ?_
      refine mx_cS1i d_Mo_change_18 (c_Mo_isQuarter) ok_Mo_isQuarter ml_Mo_331 (by decide) (Nat.le_of_ble_eq_true rfl) ?_
      refine mx_ifB_ne 28 d_Mo_change_21 (by decide) (fun c_21 => ?_) (fun c_21 => ?_)
      · skip
        obtain ⟨q, hqL, rfl⟩ := vs_isN_of (by omega) c_21
        have hqc : (nI q).toNatClampNeg = q := nI_clamp (by omega)
        have hqL8 : q < 8 := by omega
        refine mx_il1 d_Mo_change_28 ?_
        refine mx_il2 d_Mo_change_29 ?_
        refine mx_icN_ne 37 d_Mo_change_30 (by decide) (by omega) (by omega) (fun c_30 => ?_) (fun c_30 => ?_)
        · skip
          have hne : ¬ nI h = nI p := fun e => c_30 ((nI_eq (by omega) (by omega)).mp e)
          refine mx_in_0 d_Mo_change_37 ?_
          refine mx_putI d_Mo_change_38 fl_Mo_54 (by assumption) ?_
          refine mx_al0 d_Mo_change_41 ?_
          refine mx_getI d_Mo_change_42 fl_Mo_54 (by assumption) ?_
          refine mx_ti (y := nI (0)) (vs_upx) ?_
          refine mx_if_le 50 d_Mo_change_45 (by decide) (fun c_45 => ?_) (fun c_45 => absurd (by decide) c_45)
          refine mx_al0 d_Mo_change_50 ?_
          refine mx_il2 d_Mo_change_51 ?_
          refine mx_il3 d_Mo_change_52 ?_
          refine mx_cV2i d_Mo_change_53 (cm_bookedIn hM (vs_hm hm) (h := p) (q := q) (by omega) (by omega)) ok_Mo_bookedIn ml_Mo_271 (by assumption) ⟨rfl, rfl⟩ (by decide) (Nat.le_of_ble_eq_true rfl) ?_
          refine mx_is4 d_Mo_change_56 ?_
          refine mx_al0 d_Mo_change_58 ?_
          refine mx_sip 195 d_Mo_change_59 (by decide) ?_
          refine mx_bip 8 d_Mo_change_62 (by decide) ?_
          refine mx_il1 d_Mo_change_64 ?_
          refine mx_imulN d_Mo_change_65 ?_
          refine mx_iaddN d_Mo_change_66 ?_
          refine mx_il3 d_Mo_change_67 ?_
          refine mx_iaddN d_Mo_change_68 ?_
          refine mx_il4 d_Mo_change_69 ?_
          refine mx_cV2i d_Mo_change_71 (c_Mo_sets hM (vs_hm hm) (A := A) (w := 195 + 8 * h + q) ((mx_up_z (by decide)).trans hA) hA12 (by omega)) ok_Mo_sets ml_Mo_344 (by assumption) ⟨rfl, rfl⟩ (by decide) (Nat.le_of_ble_eq_true rfl) ?_
          refine mx_is5 d_Mo_change_74 ?_
          refine mx_al0 d_Mo_change_76 ?_
          refine mx_getR d_Mo_change_77 fl_Mo_7 (by assumption) (by assumption) ?_
          refine mx_sip 195 d_Mo_change_80 (by decide) ?_
          refine mx_bip 8 d_Mo_change_83 (by decide) ?_
          refine mx_il2 d_Mo_change_85 ?_
          refine mx_imulN d_Mo_change_86 ?_
          refine mx_iaddN d_Mo_change_87 ?_
          refine mx_il3 d_Mo_change_88 ?_
          refine mx_iaddN d_Mo_change_89 ?_
          refine mx_il5 d_Mo_change_90 ?_
          refine mx_iast d_Mo_change_92 (by assumption) (nI_inb (by omega) (by omega)) ?_
          rw [nI_clamp (by omega)]
          refine mx_il4 d_Mo_change_93 ?_
          exact mx_iret d_Mo_change_95 rfl (mx_ri_of2 (by simp [sp_change, *]) (by simp [sp_change, *]))
        · skip
          subst c_30
          refine mx_in_2 d_Mo_change_33 ?_
          refine mx_goto 38 d_Mo_change_34 (by decide) ?_
          refine mx_putI d_Mo_change_38 fl_Mo_54 (by assumption) ?_
          refine mx_al0 d_Mo_change_41 ?_
          refine mx_getI d_Mo_change_42 fl_Mo_54 (by assumption) ?_
          refine mx_ti (y := nI (2)) (vs_upx) ?_
          refine mx_if_le 50 d_Mo_change_45 (by decide) (fun c_45 => absurd c_45 (by decide)) (fun c_45 => ?_)
          refine mx_in_0 d_Mo_change_48 ?_
          exact mx_iret d_Mo_change_49 rfl (mx_ri_of2 (by simp [sp_change, *]) (by simp [sp_change, *]))
      · skip
        refine mx_in_1 d_Mo_change_24 ?_
        refine mx_goto 38 d_Mo_change_25 (by decide) ?_
        refine mx_putI d_Mo_change_38 fl_Mo_54 (by assumption) ?_
        refine mx_al0 d_Mo_change_41 ?_
        refine mx_getI d_Mo_change_42 fl_Mo_54 (by assumption) ?_
        refine mx_ti (y := nI (1)) (vs_upx) ?_
        refine mx_if_le 50 d_Mo_change_45 (by decide) (fun c_45 => absurd c_45 (by decide)) (fun c_45 => ?_)
        refine mx_in_0 d_Mo_change_48 ?_
        exact mx_iret d_Mo_change_49 rfl (mx_ri_of2 (by simp [sp_change, *]) (by simp [sp_change, *]))
end S28
