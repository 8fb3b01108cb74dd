/-! THE TAPE -/
section G15
variable {l : Launch} {E : mx_Env} {t : Nat} {S : mx_S} {I : mx_I} {P : mx_P} {J : mx_G} {x mo te L : Nat}
def vs_by4 (v : Int32) (k : Nat) : Int32 := mx_ushr v (nI k) &&& nI 255
def vs_wr (B : Nat → Int32) (L : Nat) (v : Int32) : Nat → Int32 := fun k => if k = L + 3 then vs_by4 v 0 else if k = L + 2 then vs_by4 v 8 else if k = L + 1 then vs_by4 v 16 else if k = L then vs_by4 v 24 else B k
def vs_app (I : mx_I) (te L : Nat) (v : Int32) : mx_I := (mx_up (mx_up (mx_up (mx_up (mx_up (mx_up (mx_up (mx_up I (te + 1) (L) (((mx_ushr (v) (nI (24))) &&& nI (255)))) (te) 1 (nI (L + 1))) (te + 1) (L + 1) (((mx_ushr (v) (nI (16))) &&& nI (255)))) (te) 1 (nI (L + 1 + 1))) (te + 1) (L + 2) (((mx_ushr (v) (nI (8))) &&& nI (255)))) (te) 1 (nI (L + 2 + 1))) (te + 1) (L + 3) (((mx_ushr (v) (nI (0))) &&& nI (255)))) (te) 1 (nI (L + 3 + 1)))
theorem c_append (hT : te_ok S P te) (hL : I te 1 = nI L) (hL4 : L + 4 ≤ 400) {v : Int32} : mx_C l E M_Te_append 2 0 0 [.ref (te), .int (v)] (t, S, I, P, J) (mx_rv (t, S, vs_app I te L v, P, J)) := by
  obtain ⟨hT0, hTp0, hTp3, hTp4, hTp5, hTp6, hTs1, hTs2, hTs3, hTs4, hTs5⟩ := id hT
  refine mx_C_of (ls0 := [some (.ref (te)), some (.int (v)), none]) (by decide +kernel) rfl rfl (Nat.le_of_ble_eq_true rfl) rfl ?_
  refine mx_bip 24 d_Te_append_0 (by decide) ?_
  refine mx_is2 d_Te_append_2 ?_
  refine mx_il2 d_Te_append_3 ?_
  refine mx_if_lt 41 d_Te_append_4 (by decide) (fun c_4 => absurd c_4 (nI_pos (by omega))) (fun c_4 => ?_)
  refine mx_al0 d_Te_append_7 ?_
  refine mx_getR d_Te_append_8 fl_Te_9 (by assumption) (by assumption) ?_
  refine mx_al0 d_Te_append_11 ?_
  refine mx_getI d_Te_append_12 fl_Te_15 (by assumption) ?_
  refine mx_ti (y := nI (L)) (by simp [mx_up, hL]) ?_
  refine mx_il1 d_Te_append_15 ?_
  refine mx_il2 d_Te_append_16 ?_
  refine mx_iushr d_Te_append_17 ?_
  refine mx_sip 255 d_Te_append_18 (by decide) ?_
  refine mx_iand d_Te_append_21 ?_
  refine mx_cSN3v d_Te_append_22 (c_put (k := L) (by assumption) (by omega) (by omega)) ok_Vh_put ml_Te_34 (by decide) (Nat.le_of_ble_eq_true rfl) ?_
  refine mx_al0 d_Te_append_25 ?_
  refine mx_dup d_Te_append_26 rfl ?_
  refine mx_getI d_Te_append_27 fl_Te_15 (by assumption) ?_
  refine mx_ti (y := nI (L)) (by simp [mx_up, hL]) ?_
  refine mx_in_1 d_Te_append_30 ?_
  refine mx_iaddN d_Te_append_31 ?_
  refine mx_putI d_Te_append_32 fl_Te_15 (by assumption) ?_
  refine mx_ii2 (v := -8) d_Te_append_35 (by decide) ?_
  rw [show (nI (24) + -8 : Int32) = nI (16) from by decide]
  refine mx_goto 3 d_Te_append_38 (by decide) ?_
  refine mx_il2 d_Te_append_3 ?_
  refine mx_if_lt 41 d_Te_append_4 (by decide) (fun c_4 => absurd c_4 (nI_pos (by omega))) (fun c_4 => ?_)
  refine mx_al0 d_Te_append_7 ?_
  refine mx_getR d_Te_append_8 fl_Te_9 (by assumption) (by assumption) ?_
  refine mx_al0 d_Te_append_11 ?_
  refine mx_getI d_Te_append_12 fl_Te_15 (by assumption) ?_
  refine mx_ti (y := nI (L + 1)) (by simp [mx_up, hL]) ?_
  refine mx_il1 d_Te_append_15 ?_
  refine mx_il2 d_Te_append_16 ?_
  refine mx_iushr d_Te_append_17 ?_
  refine mx_sip 255 d_Te_append_18 (by decide) ?_
  refine mx_iand d_Te_append_21 ?_
  refine mx_cSN3v d_Te_append_22 (c_put (k := L + 1) (by assumption) (by omega) (by omega)) ok_Vh_put ml_Te_34 (by decide) (Nat.le_of_ble_eq_true rfl) ?_
  refine mx_al0 d_Te_append_25 ?_
  refine mx_dup d_Te_append_26 rfl ?_
  refine mx_getI d_Te_append_27 fl_Te_15 (by assumption) ?_
  refine mx_ti (y := nI (L + 1)) (by simp [mx_up, hL]) ?_
  refine mx_in_1 d_Te_append_30 ?_
  refine mx_iaddN d_Te_append_31 ?_
  refine mx_putI d_Te_append_32 fl_Te_15 (by assumption) ?_
  refine mx_ii2 (v := -8) d_Te_append_35 (by decide) ?_
  rw [show (nI (16) + -8 : Int32) = nI (8) from by decide]
  refine mx_goto 3 d_Te_append_38 (by decide) ?_
  refine mx_il2 d_Te_append_3 ?_
  refine mx_if_lt 41 d_Te_append_4 (by decide) (fun c_4 => absurd c_4 (nI_pos (by omega))) (fun c_4 => ?_)
  refine mx_al0 d_Te_append_7 ?_
  refine mx_getR d_Te_append_8 fl_Te_9 (by assumption) (by assumption) ?_
  refine mx_al0 d_Te_append_11 ?_
  refine mx_getI d_Te_append_12 fl_Te_15 (by assumption) ?_
  refine mx_ti (y := nI (L + 2)) (by simp [mx_up, hL]) ?_
  refine mx_il1 d_Te_append_15 ?_
  refine mx_il2 d_Te_append_16 ?_
  refine mx_iushr d_Te_append_17 ?_
  refine mx_sip 255 d_Te_append_18 (by decide) ?_
  refine mx_iand d_Te_append_21 ?_
  refine mx_cSN3v d_Te_append_22 (c_put (k := L + 2) (by assumption) (by omega) (by omega)) ok_Vh_put ml_Te_34 (by decide) (Nat.le_of_ble_eq_true rfl) ?_
  refine mx_al0 d_Te_append_25 ?_
  refine mx_dup d_Te_append_26 rfl ?_
  refine mx_getI d_Te_append_27 fl_Te_15 (by assumption) ?_
  refine mx_ti (y := nI (L + 2)) (by simp [mx_up, hL]) ?_
  refine mx_in_1 d_Te_append_30 ?_
  refine mx_iaddN d_Te_append_31 ?_
  refine mx_putI d_Te_append_32 fl_Te_15 (by assumption) ?_
  refine mx_ii2 (v := -8) d_Te_append_35 (by decide) ?_
  rw [show (nI (8) + -8 : Int32) = nI (0) from by decide]
  refine mx_goto 3 d_Te_append_38 (by decide) ?_
  refine mx_il2 d_Te_append_3 ?_
  refine mx_if_lt 41 d_Te_append_4 (by decide) (fun c_4 => absurd c_4 (nI_pos (by omega))) (fun c_4 => ?_)
  refine mx_al0 d_Te_append_7 ?_
  refine mx_getR d_Te_append_8 fl_Te_9 (by assumption) (by assumption) ?_
  refine mx_al0 d_Te_append_11 ?_
  refine mx_getI d_Te_append_12 fl_Te_15 (by assumption) ?_
  refine mx_ti (y := nI (L + 3)) (by simp [mx_up, hL]) ?_
  refine mx_il1 d_Te_append_15 ?_
  refine mx_il2 d_Te_append_16 ?_
  refine mx_iushr d_Te_append_17 ?_
  refine mx_sip 255 d_Te_append_18 (by decide) ?_
  refine mx_iand d_Te_append_21 ?_
  refine mx_cSN3v d_Te_append_22 (c_put (k := L + 3) (by assumption) (by omega) (by omega)) ok_Vh_put ml_Te_34 (by decide) (Nat.le_of_ble_eq_true rfl) ?_
  refine mx_al0 d_Te_append_25 ?_
  refine mx_dup d_Te_append_26 rfl ?_
  refine mx_getI d_Te_append_27 fl_Te_15 (by assumption) ?_
  refine mx_ti (y := nI (L + 3)) (by simp [mx_up, hL]) ?_
  refine mx_in_1 d_Te_append_30 ?_
  refine mx_iaddN d_Te_append_31 ?_
  refine mx_putI d_Te_append_32 fl_Te_15 (by assumption) ?_
  refine mx_ii2 (v := -8) d_Te_append_35 (by decide) ?_
  rw [show (nI (0) + -8 : Int32) = (-8) from by decide]
  refine mx_goto 3 d_Te_append_38 (by decide) ?_
  refine mx_il2 d_Te_append_3 ?_
  refine mx_if_lt 41 d_Te_append_4 (by decide) (fun c_4 => ?_) (fun c_4 => absurd (by decide) c_4)
  exact mx_vret d_Te_append_41 rfl (mx_rv_of rfl)
theorem vs_app_o {b : Nat} {v : Int32} (h1 : b ≠ te) (h2 : b ≠ te + 1) : vs_app I te L v b = I b := by
  unfold vs_app
  simp only [mx_up_ne h1, mx_up_ne h2]
theorem vs_app_b {v : Int32} : vs_app I te L v (te + 1) = vs_wr (I (te + 1)) L v := by
  funext k
  simp only [vs_app, vs_wr, vs_by4, mx_up, Nat.succ_ne_self, false_and, true_and, if_false]
theorem vs_app_l {v : Int32} : vs_app I te L v te 1 = nI (L + 4) := by simp [vs_app, mx_up]
theorem vs_app_k {v : Int32} {k : Nat} (hk : k ≠ 1) : vs_app I te L v te k = I te k := by simp [vs_app, mx_up, hk]
theorem c_room (hT : te_ok S P te) (hL : I te 1 = nI L) (hL4 : L ≤ 400) : mx_C l E M_Te_hasRoomFor 0 0 0 [.ref (te), .int (nI (20))] (t, S, I, P, J) (mx_ri (bI (decide (L + 20 ≤ 400))) (t, S, I, P, J)) := by
  obtain ⟨hT0, hTp0, hTp3, hTp4, hTp5, hTp6, hTs1, hTs2, hTs3, hTs4, hTs5⟩ := id hT
  refine mx_C_of (ls0 := [some (.ref (te)), some (.int (nI (20)))]) (by decide +kernel) rfl rfl (Nat.le_of_ble_eq_true rfl) rfl ?_
  refine mx_al0 d_Te_hasRoomFor_0 ?_
  refine mx_getI d_Te_hasRoomFor_1 fl_Te_15 (by assumption) ?_
  refine mx_ti (y := nI (L)) (hL) ?_
  refine mx_il1 d_Te_hasRoomFor_4 ?_
  refine mx_iaddN d_Te_hasRoomFor_5 ?_
  refine mx_sip 400 d_Te_hasRoomFor_6 (by decide) ?_
  refine mx_icN_gt 16 d_Te_hasRoomFor_9 (by decide) (by omega) (by omega) (fun c_9 => ?_) (fun c_9 => ?_)
  · skip
    refine mx_in_0 d_Te_hasRoomFor_16 ?_
    exact mx_zret d_Te_hasRoomFor_17 rfl (by first | exact Or.inl rfl | exact Or.inr rfl) (mx_ri_of (by simp [bI]; omega))
  · skip
    refine mx_in_1 d_Te_hasRoomFor_12 ?_
    refine mx_goto 17 d_Te_hasRoomFor_13 (by decide) ?_
    exact mx_zret d_Te_hasRoomFor_17 rfl (by first | exact Or.inl rfl | exact Or.inr rfl) (mx_ri_of (by simp [bI]; omega))
theorem c_shorten (hT : te_ok S P te) (hL : I te 1 = nI L) (hL4 : L ≤ 400) {v : Int32} : mx_C l E M_Te_shorten 0 0 0 [.ref (te), .int (v)] (t, S, I, P, J) (mx_ri (bI (vs_isN v (L + 1))) (t, S, (if vs_isN v (L + 1) then mx_up I te 1 v else I), P, J)) := by
  obtain ⟨hT0, hTp0, hTp3, hTp4, hTp5, hTp6, hTs1, hTs2, hTs3, hTs4, hTs5⟩ := id hT
  refine mx_C_of (ls0 := [some (.ref (te)), some (.int (v))]) (by decide +kernel) rfl rfl (Nat.le_of_ble_eq_true rfl) rfl ?_
  refine mx_il1 d_Te_shorten_0 ?_
  refine mx_if_lt 12 d_Te_shorten_1 (by decide) (fun c_1 => ?_) (fun c_1 => ?_)
  · skip
    have hv := vs_isN_ge0 (n := L + 1) c_1
    refine mx_in_0 d_Te_shorten_12 ?_
    exact mx_zret d_Te_shorten_13 rfl (by first | exact Or.inl rfl | exact Or.inr rfl) (mx_ri_of2 (by rw [hv]; rfl) (by rw [hv]; rfl))
  · skip
    refine mx_il1 d_Te_shorten_4 ?_
    refine mx_al0 d_Te_shorten_5 ?_
    refine mx_getI d_Te_shorten_6 fl_Te_15 (by assumption) ?_
    refine mx_ti (y := nI (L)) (hL) ?_
    refine mx_icmp_le 14 d_Te_shorten_9 (by decide) (fun c_9 => ?_) (fun c_9 => ?_)
    · skip
      have hv : vs_isN v (L + 1) = true := by rw [← vs_isN_le2 (by omega)]; simp [c_9]; exact Int32.not_lt.mp c_1
      refine mx_al0 d_Te_shorten_14 ?_
      refine mx_il1 d_Te_shorten_15 ?_
      refine mx_putI d_Te_shorten_16 fl_Te_15 (by assumption) ?_
      refine mx_in_1 d_Te_shorten_19 ?_
      exact mx_zret d_Te_shorten_20 rfl (by first | exact Or.inl rfl | exact Or.inr rfl) (mx_ri_of2 (by rw [hv]; rfl) (by rw [hv]; rfl))
    · skip
      have hv : vs_isN v (L + 1) = false := by rw [← vs_isN_le2 (by omega)]; simp [c_9]
      refine mx_in_0 d_Te_shorten_12 ?_
      exact mx_zret d_Te_shorten_13 rfl (by first | exact Or.inl rfl | exact Or.inr rfl) (mx_ri_of2 (by rw [hv]; rfl) (by rw [hv]; rfl))
def vs_f5 (B : Nat → Int32) (L : Nat) (a b c d e : Int32) : Nat → Int32 := vs_wr (vs_wr (vs_wr (vs_wr (vs_wr B L a) (L + 4) b) (L + 8) c) (L + 12) d) (L + 16) e
def vs_app5 (I : mx_I) (te L : Nat) (a b c d e : Int32) : mx_I := vs_app (vs_app (vs_app (vs_app (vs_app I te L a) te (L + 4) b) te (L + 8) c) te (L + 12) d) te (L + 16) e
theorem vs_app5_o {b : Nat} {v0 v1 v2 v3 v4 : Int32} (h1 : b ≠ te) (h2 : b ≠ te + 1) : vs_app5 I te L v0 v1 v2 v3 v4 b = I b := by simp only [vs_app5, vs_app_o h1 h2]
theorem vs_app5_b {v0 v1 v2 v3 v4 : Int32} : vs_app5 I te L v0 v1 v2 v3 v4 (te + 1) = vs_f5 (I (te + 1)) L v0 v1 v2 v3 v4 := by simp only [vs_app5, vs_f5, vs_app_b]
theorem vs_app5_l {v0 v1 v2 v3 v4 : Int32} : vs_app5 I te L v0 v1 v2 v3 v4 te 1 = nI (L + 20) := by simp only [vs_app5, vs_app_l]
theorem vs_app5_k {v0 v1 v2 v3 v4 : Int32} {k : Nat} (hk : k ≠ 1) : vs_app5 I te L v0 v1 v2 v3 v4 te k = I te k := by simp only [vs_app5, vs_app_k hk]
theorem c_Vh_feed (hV : vh_ok S P x) (hte : x + 250 = te) (hT : te_ok S P te) (hL : I te 1 = nI L) (hL4 : L ≤ 400) {v0 v1 v2 v3 v4 : Int32} : mx_C l E M_Vh_feed 3 0 0 [.ref (x), .int (v0), .int (v1), .int (v2), .int (v3), .int (v4)] (t, S, I, P, J) (mx_ri (if L + 20 ≤ 400 then nI (L + 20) else (-1)) (t, S, (if L + 20 ≤ 400 then vs_app5 I te L v0 v1 v2 v3 v4 else I), P, J)) := by
  obtain ⟨hV0, hVp0, hVp1, hVp2, hVp3, hVp4, hVp5, hVp7, hVp8, hVp9, hVp10, hVp11, hVp12, hVs15, hVs16, hVs68⟩ := id hV
  rw [hte] at hVp0
  obtain ⟨hT0, hTp0, hTp3, hTp4, hTp5, hTp6, hTs1, hTs2, hTs3, hTs4, hTs5⟩ := id hT
  refine mx_C_of (ls0 := [some (.ref (x)), some (.int (v0)), some (.int (v1)), some (.int (v2)), some (.int (v3)), some (.int (v4))]) (by decide +kernel) rfl rfl (Nat.le_of_ble_eq_true rfl) rfl ?_
  refine mx_al0 d_Vh_feed_0 ?_
  refine mx_getR d_Vh_feed_1 fl_Vh_71 (by assumption) (by assumption) ?_
  refine mx_bip 20 d_Vh_feed_4 (by decide) ?_
  refine mx_cV1i d_Vh_feed_6 (c_room hT hL hL4) ok_Te_hasRoomFor ml_Vh_93 (by assumption) ⟨rfl, rfl⟩ (by decide) (Nat.le_of_ble_eq_true rfl) ?_
  refine mx_ifB_ne 14 d_Vh_feed_9 (by decide) (fun c_9 => ?_) (fun c_9 => ?_)
  · skip
    have hc : L + 20 ≤ 400 := of_decide_eq_true c_9
    refine mx_al0 d_Vh_feed_14 ?_
    refine mx_getR d_Vh_feed_15 fl_Vh_71 (by assumption) (by assumption) ?_
    refine mx_il1 d_Vh_feed_18 ?_
    refine mx_cV1v d_Vh_feed_19 (c_append hT (L := L) (hL) (by omega)) ok_Te_append ml_Vh_97 (by assumption) ⟨rfl, rfl⟩ (by decide) (Nat.le_of_ble_eq_true rfl) ?_
    refine mx_al0 d_Vh_feed_22 ?_
    refine mx_getR d_Vh_feed_23 fl_Vh_71 (by assumption) (by assumption) ?_
    refine mx_il2 d_Vh_feed_26 ?_
    refine mx_cV1v d_Vh_feed_27 (c_append hT (L := (L + 4)) (vs_app_l) (by omega)) ok_Te_append ml_Vh_97 (by assumption) ⟨rfl, rfl⟩ (by decide) (Nat.le_of_ble_eq_true rfl) ?_
    refine mx_al0 d_Vh_feed_30 ?_
    refine mx_getR d_Vh_feed_31 fl_Vh_71 (by assumption) (by assumption) ?_
    refine mx_il3 d_Vh_feed_34 ?_
    refine mx_cV1v d_Vh_feed_35 (c_append hT (L := (L + 8)) (vs_app_l) (by omega)) ok_Te_append ml_Vh_97 (by assumption) ⟨rfl, rfl⟩ (by decide) (Nat.le_of_ble_eq_true rfl) ?_
    refine mx_al0 d_Vh_feed_38 ?_
    refine mx_getR d_Vh_feed_39 fl_Vh_71 (by assumption) (by assumption) ?_
    refine mx_il4 d_Vh_feed_42 ?_
    refine mx_cV1v d_Vh_feed_44 (c_append hT (L := (L + 12)) (vs_app_l) (by omega)) ok_Te_append ml_Vh_97 (by assumption) ⟨rfl, rfl⟩ (by decide) (Nat.le_of_ble_eq_true rfl) ?_
    refine mx_al0 d_Vh_feed_47 ?_
    refine mx_getR d_Vh_feed_48 fl_Vh_71 (by assumption) (by assumption) ?_
    refine mx_il5 d_Vh_feed_51 ?_
    refine mx_cV1v d_Vh_feed_53 (c_append hT (L := (L + 16)) (vs_app_l) (by omega)) ok_Te_append ml_Vh_97 (by assumption) ⟨rfl, rfl⟩ (by decide) (Nat.le_of_ble_eq_true rfl) ?_
    refine mx_al0 d_Vh_feed_56 ?_
    refine mx_getR d_Vh_feed_57 fl_Vh_71 (by assumption) (by assumption) ?_
    refine mx_getI d_Vh_feed_60 fl_Vh_101 (by assumption) ?_
    refine mx_ti (y := nI (L + 16 + 4)) (vs_app_l) ?_
    exact mx_iret d_Vh_feed_63 rfl (mx_ri_of2 (by first | rw [if_pos hc] | rw [if_neg hc]) (by first | (rw [if_pos hc]; rfl) | rw [if_neg hc]))
  · skip
    have hc : ¬ L + 20 ≤ 400 := of_decide_eq_false c_9
    refine mx_ic_m1 d_Vh_feed_12 ?_
    exact mx_iret d_Vh_feed_13 rfl (mx_ri_of2 (by first | rw [if_pos hc] | rw [if_neg hc]) (by first | (rw [if_pos hc]; rfl) | rw [if_neg hc]))
theorem c_Vh_end (hV : vh_ok S P x) (hte : x + 250 = te) (hT : te_ok S P te) (hL : I te 1 = nI L) (hL4 : L ≤ 400) {v : Int32} : mx_C l E M_Vh_end 2 0 0 [.ref (x), .int (v)] (t, S, I, P, J) (mx_ri (bI (vs_isN v (L + 1))) (t, S, (if vs_isN v (L + 1) then mx_up I te 1 v else I), P, J)) := by
  obtain ⟨hV0, hVp0, hVp1, hVp2, hVp3, hVp4, hVp5, hVp7, hVp8, hVp9, hVp10, hVp11, hVp12, hVs15, hVs16, hVs68⟩ := id hV
  rw [hte] at hVp0
  obtain ⟨hT0, hTp0, hTp3, hTp4, hTp5, hTp6, hTs1, hTs2, hTs3, hTs4, hTs5⟩ := id hT
  refine mx_C_of (ls0 := [some (.ref (x)), some (.int (v))]) (by decide +kernel) rfl rfl (Nat.le_of_ble_eq_true rfl) rfl ?_
  refine mx_al0 d_Vh_end_0 ?_
  refine mx_getR d_Vh_end_1 fl_Vh_71 (by assumption) (by assumption) ?_
  refine mx_il1 d_Vh_end_4 ?_
  refine mx_cV1i d_Vh_end_5 (c_shorten hT hL hL4) ok_Te_shorten ml_Vh_105 (by assumption) ⟨rfl, rfl⟩ (by decide) (Nat.le_of_ble_eq_true rfl) ?_
  exact mx_zret d_Vh_end_8 rfl (bI_01 _) (mx_ri_of rfl)
theorem c_Vh_fault (hV : vh_ok S P x) (hte : x + 250 = te) (hT : te_ok S P te) : mx_C l E M_Vh_fault 0 0 0 [.ref (x)] (t, S, I, P, J) (mx_ri (I te 2) (t, S, I, P, J)) := by
  obtain ⟨hV0, hVp0, hVp1, hVp2, hVp3, hVp4, hVp5, hVp7, hVp8, hVp9, hVp10, hVp11, hVp12, hVs15, hVs16, hVs68⟩ := id hV
  rw [hte] at hVp0
  obtain ⟨hT0, hTp0, hTp3, hTp4, hTp5, hTp6, hTs1, hTs2, hTs3, hTs4, hTs5⟩ := id hT
  refine mx_C_of (ls0 := [some (.ref (x))]) (by decide +kernel) rfl rfl (Nat.le_of_ble_eq_true rfl) rfl ?_
  refine mx_al0 d_Vh_fault_0 ?_
  refine mx_getR d_Vh_fault_1 fl_Vh_71 (by assumption) (by assumption) ?_
  refine mx_getI d_Vh_fault_4 fl_Vh_156 (by assumption) ?_
  exact mx_iret d_Vh_fault_7 rfl (mx_ri_of rfl)
theorem c_Mo_fault (hM : mo_ok S P mo) : mx_C l E M_Mo_fault 0 0 0 [.ref (mo)] (t, S, I, P, J) (mx_ri (I mo 12) (t, S, mx_up I (mo) 0 (nI 0), P, J)) := by
  obtain ⟨hM0, hMp1, hMp2, hMp4, hMp5, hMp7, hMp14, hMp21, hMp22, hMp23, hMp24, hMp25, hMp26, hMp27, hMs1, hMs2, hMs3, hMs4, hMs5, hMs6, hMs7, hMs8, hMs9, hMs10, hMs11, hMs12, hMs13⟩ := id hM
  refine mx_C_of (ls0 := [some (.ref (mo))]) (by decide +kernel) rfl rfl (Nat.le_of_ble_eq_true rfl) rfl ?_
  refine mx_al0 d_Mo_fault_0 ?_
  refine mx_in_0 d_Mo_fault_1 ?_
  refine mx_putI d_Mo_fault_2 fl_Mo_54 (by assumption) ?_
  refine mx_al0 d_Mo_fault_5 ?_
  refine mx_getI d_Mo_fault_6 fl_Mo_25 (by assumption) ?_
  exact mx_iret d_Mo_fault_9 rfl (mx_ri_of (by simp [mx_up]))
theorem c_Mo_thrown (hM : mo_ok S P mo) : mx_C l E M_Mo_thrown 0 0 0 [.ref (mo)] (t, S, I, P, J) (mx_ri (I mo 0) (t, S, I, P, J)) := by
  obtain ⟨hM0, hMp1, hMp2, hMp4, hMp5, hMp7, hMp14, hMp21, hMp22, hMp23, hMp24, hMp25, hMp26, hMp27, hMs1, hMs2, hMs3, hMs4, hMs5, hMs6, hMs7, hMs8, hMs9, hMs10, hMs11, hMs12, hMs13⟩ := id hM
  refine mx_C_of (ls0 := [some (.ref (mo))]) (by decide +kernel) rfl rfl (Nat.le_of_ble_eq_true rfl) rfl ?_
  refine mx_al0 d_Mo_thrown_0 ?_
  refine mx_getI d_Mo_thrown_1 fl_Mo_54 (by assumption) ?_
  exact mx_iret d_Mo_thrown_4 rfl (mx_ri_of rfl)
theorem c_Mo_end (hM : mo_ok S P mo) (hL : I mo 8 = nI L) (hL4 : L ≤ 400) {v : Int32} : mx_C l E M_Mo_end 1 0 0 [.ref (mo), .int (v)] (t, S, I, P, J) (mx_ri (bI (vs_isN v (L + 1))) (t, S, (if vs_isN v (L + 1) then mx_up (mx_up I mo 0 (nI 0)) mo 8 v else mx_up I mo 0 (nI 0)), P, J)) := by
  obtain ⟨hM0, hMp1, hMp2, hMp4, hMp5, hMp7, hMp14, hMp21, hMp22, hMp23, hMp24, hMp25, hMp26, hMp27, hMs1, hMs2, hMs3, hMs4, hMs5, hMs6, hMs7, hMs8, hMs9, hMs10, hMs11, hMs12, hMs13⟩ := id hM
  refine mx_C_of (ls0 := [some (.ref (mo)), some (.int (v))]) (by decide +kernel) rfl rfl (Nat.le_of_ble_eq_true rfl) rfl ?_
  refine mx_al0 d_Mo_end_0 ?_
  refine mx_in_0 d_Mo_end_1 ?_
  refine mx_putI d_Mo_end_2 fl_Mo_54 (by assumption) ?_
  refine mx_il1 d_Mo_end_5 ?_
  refine mx_in_0 d_Mo_end_6 ?_
  refine mx_al0 d_Mo_end_7 ?_
  refine mx_getI d_Mo_end_8 fl_Mo_81 (by assumption) ?_
  refine mx_ti (y := nI (L)) (by simp [mx_up, hL]) ?_
  refine mx_cS3i d_Mo_end_11 (cm_isIn0 (n := L) (by omega)) ok_Mo_isIn ml_Mo_57 (by decide) (Nat.le_of_ble_eq_true rfl) ?_
  refine mx_ifB_ne 19 d_Mo_end_14 (by decide) (fun c_14 => ?_) (fun c_14 => ?_)
  · skip
    refine mx_al0 d_Mo_end_19 ?_
    refine mx_il1 d_Mo_end_20 ?_
    refine mx_putI d_Mo_end_21 fl_Mo_81 (by assumption) ?_
    refine mx_in_1 d_Mo_end_24 ?_
    exact mx_zret d_Mo_end_25 rfl (by first | exact Or.inl rfl | exact Or.inr rfl) (mx_ri_of2 (by simp [*, bI]) (by simp [*]))
  · skip
    refine mx_in_0 d_Mo_end_17 ?_
    exact mx_zret d_Mo_end_18 rfl (by first | exact Or.inl rfl | exact Or.inr rfl) (mx_ri_of2 (by simp [*, bI]) (by simp [*]))
def vs_mo5 (I : mx_I) (mo L : Nat) (v0 v1 v2 v3 v4 : Int32) : mx_I := (mx_up (mx_up (mx_up (mx_up (mx_up (mx_up (mx_up (mx_up (mx_up (mx_up (mx_up (mx_up (mx_up (mx_up (mx_up (mx_up (mx_up (mx_up (mx_up (mx_up (mx_up (mx_up (mx_up (mx_up (mx_up (mx_up (mx_up (mx_up (mx_up (mx_up (mx_up (mx_up (mx_up (mx_up (mx_up (mx_up (mx_up (mx_up (mx_up (mx_up (mx_up I (mo) 0 (nI (0))) (mo + 5) (L) (((mx_ushr (v0) (nI (24))) &&& nI (255)))) (mo) 8 (nI (L + 1))) (mo + 5) (L + 1) (((mx_ushr (v0) (nI (16))) &&& nI (255)))) (mo) 8 (nI (L + 1 + 1))) (mo + 5) (L + 2) (((mx_ushr (v0) (nI (8))) &&& nI (255)))) (mo) 8 (nI (L + 2 + 1))) (mo + 5) (L + 3) (((mx_ushr (v0) (nI (0))) &&& nI (255)))) (mo) 8 (nI (L + 3 + 1))) (mo + 5) (L + 4) (((mx_ushr (v1) (nI (24))) &&& nI (255)))) (mo) 8 (nI (L + 4 + 1))) (mo + 5) (L + 5) (((mx_ushr (v1) (nI (16))) &&& nI (255)))) (mo) 8 (nI (L + 5 + 1))) (mo + 5) (L + 6) (((mx_ushr (v1) (nI (8))) &&& nI (255)))) (mo) 8 (nI (L + 6 + 1))) (mo + 5) (L + 7) (((mx_ushr (v1) (nI (0))) &&& nI (255)))) (mo) 8 (nI (L + 7 + 1))) (mo + 5) (L + 8) (((mx_ushr (v2) (nI (24))) &&& nI (255)))) (mo) 8 (nI (L + 8 + 1))) (mo + 5) (L + 9) (((mx_ushr (v2) (nI (16))) &&& nI (255)))) (mo) 8 (nI (L + 9 + 1))) (mo + 5) (L + 10) (((mx_ushr (v2) (nI (8))) &&& nI (255)))) (mo) 8 (nI (L + 10 + 1))) (mo + 5) (L + 11) (((mx_ushr (v2) (nI (0))) &&& nI (255)))) (mo) 8 (nI (L + 11 + 1))) (mo + 5) (L + 12) (((mx_ushr (v3) (nI (24))) &&& nI (255)))) (mo) 8 (nI (L + 12 + 1))) (mo + 5) (L + 13) (((mx_ushr (v3) (nI (16))) &&& nI (255)))) (mo) 8 (nI (L + 13 + 1))) (mo + 5) (L + 14) (((mx_ushr (v3) (nI (8))) &&& nI (255)))) (mo) 8 (nI (L + 14 + 1))) (mo + 5) (L + 15) (((mx_ushr (v3) (nI (0))) &&& nI (255)))) (mo) 8 (nI (L + 15 + 1))) (mo + 5) (L + 16) (((mx_ushr (v4) (nI (24))) &&& nI (255)))) (mo) 8 (nI (L + 16 + 1))) (mo + 5) (L + 17) (((mx_ushr (v4) (nI (16))) &&& nI (255)))) (mo) 8 (nI (L + 17 + 1))) (mo + 5) (L + 18) (((mx_ushr (v4) (nI (8))) &&& nI (255)))) (mo) 8 (nI (L + 18 + 1))) (mo + 5) (L + 19) (((mx_ushr (v4) (nI (0))) &&& nI (255)))) (mo) 8 (nI (L + 19 + 1)))
theorem c_Mo_feed (hM : mo_ok S P mo) (hL : I mo 8 = nI L) (hL4 : L ≤ 400) {v0 v1 v2 v3 v4 : Int32} : mx_C l E M_Mo_feed 0 0 0 [.ref (mo), .int (v0), .int (v1), .int (v2), .int (v3), .int (v4)] (t, S, I, P, J) (mx_ri (if L + 20 ≤ 400 then nI (L + 20) else (-1)) (t, S, (if L + 20 ≤ 400 then vs_mo5 I mo L v0 v1 v2 v3 v4 else mx_up I mo 0 (nI 0)), P, J)) := by
  obtain ⟨hM0, hMp1, hMp2, hMp4, hMp5, hMp7, hMp14, hMp21, hMp22, hMp23, hMp24, hMp25, hMp26, hMp27, hMs1, hMs2, hMs3, hMs4, hMs5, hMs6, hMs7, hMs8, hMs9, hMs10, hMs11, hMs12, hMs13⟩ := id hM
  refine mx_C_of (ls0 := [some (.ref (mo)), some (.int (v0)), some (.int (v1)), some (.int (v2)), some (.int (v3)), some (.int (v4)), none, none]) (by decide +kernel) rfl rfl (Nat.le_of_ble_eq_true rfl) rfl ?_
  refine mx_al0 d_Mo_feed_0 ?_
  refine mx_in_0 d_Mo_feed_1 ?_
  refine mx_putI d_Mo_feed_2 fl_Mo_54 (by assumption) ?_
  refine mx_al0 d_Mo_feed_5 ?_
  refine mx_getI d_Mo_feed_6 fl_Mo_81 (by assumption) ?_
  refine mx_ti (y := nI (L)) (by simp [mx_up, hL]) ?_
  refine mx_bip 20 d_Mo_feed_9 (by decide) ?_
  refine mx_iaddN d_Mo_feed_11 ?_
  refine mx_sip 400 d_Mo_feed_12 (by decide) ?_
  refine mx_icN_le 20 d_Mo_feed_15 (by decide) (by omega) (by omega) (fun c_15 => ?_) (fun c_15 => ?_)
  · skip
    have hc : L + 20 ≤ 400 := by omega
    refine mx_in_0 d_Mo_feed_20 ?_
    refine mx_is6 d_Mo_feed_21 ?_
    refine mx_il6 d_Mo_feed_23 ?_
    refine mx_bip 20 d_Mo_feed_25 (by decide) ?_
    refine mx_icN_ge 120 d_Mo_feed_27 (by decide) (by omega) (by omega) (fun c_27 => absurd c_27 (by omega)) (fun c_27 => ?_)
    refine mx_il6 d_Mo_feed_30 ?_
    refine mx_in_4 d_Mo_feed_32 ?_
    refine mx_icN_ge 40 d_Mo_feed_33 (by decide) (by omega) (by omega) (fun c_33 => absurd c_33 (by omega)) (fun c_33 => ?_)
    refine mx_il1 d_Mo_feed_36 ?_
    refine mx_goto 76 d_Mo_feed_37 (by decide) ?_
    refine mx_is7 d_Mo_feed_76 ?_
    refine mx_al0 d_Mo_feed_78 ?_
    refine mx_getR d_Mo_feed_79 fl_Mo_22 (by assumption) (by assumption) ?_
    refine mx_al0 d_Mo_feed_82 ?_
    refine mx_getI d_Mo_feed_83 fl_Mo_81 (by assumption) ?_
    refine mx_ti (y := nI (L)) (by simp [mx_up, hL]) ?_
    refine mx_il7 d_Mo_feed_86 ?_
    refine mx_bip 24 d_Mo_feed_88 (by decide) ?_
    refine mx_bip 8 d_Mo_feed_90 (by decide) ?_
    refine mx_il6 d_Mo_feed_92 ?_
    refine mx_in_4 d_Mo_feed_94 ?_
    refine mx_irem d_Mo_feed_95 (by decide) ?_
    refine mx_ti (y := nI (0)) (by decide) ?_
    refine mx_imulN d_Mo_feed_96 ?_
    refine mx_isubN d_Mo_feed_97 (by omega) ?_
    refine mx_iushr d_Mo_feed_98 ?_
    refine mx_sip 255 d_Mo_feed_99 (by decide) ?_
    refine mx_iand d_Mo_feed_102 ?_
    refine mx_iast d_Mo_feed_103 (by assumption) (nI_inb (by omega) (by omega)) ?_
    rw [nI_clamp (by omega)]
    refine mx_al0 d_Mo_feed_104 ?_
    refine mx_dup d_Mo_feed_105 rfl ?_
    refine mx_getI d_Mo_feed_106 fl_Mo_81 (by assumption) ?_
    refine mx_ti (y := nI (L)) (by simp [mx_up, hL]) ?_
    refine mx_in_1 d_Mo_feed_109 ?_
    refine mx_iaddN d_Mo_feed_110 ?_
    refine mx_putI d_Mo_feed_111 fl_Mo_81 (by assumption) ?_
    refine mx_ii6 (v := 1) d_Mo_feed_114 rfl ?_
    rw [show (nI (0) + 1 : Int32) = nI (1) from by decide]
    refine mx_goto 23 d_Mo_feed_117 (by decide) ?_
    refine mx_il6 d_Mo_feed_23 ?_
    refine mx_bip 20 d_Mo_feed_25 (by decide) ?_
    refine mx_icN_ge 120 d_Mo_feed_27 (by decide) (by omega) (by omega) (fun c_27 => absurd c_27 (by omega)) (fun c_27 => ?_)
    refine mx_il6 d_Mo_feed_30 ?_
    refine mx_in_4 d_Mo_feed_32 ?_
    refine mx_icN_ge 40 d_Mo_feed_33 (by decide) (by omega) (by omega) (fun c_33 => absurd c_33 (by omega)) (fun c_33 => ?_)
    refine mx_il1 d_Mo_feed_36 ?_
    refine mx_goto 76 d_Mo_feed_37 (by decide) ?_
    refine mx_is7 d_Mo_feed_76 ?_
    refine mx_al0 d_Mo_feed_78 ?_
    refine mx_getR d_Mo_feed_79 fl_Mo_22 (by assumption) (by assumption) ?_
    refine mx_al0 d_Mo_feed_82 ?_
    refine mx_getI d_Mo_feed_83 fl_Mo_81 (by assumption) ?_
    refine mx_ti (y := nI (L + 1)) (vs_upx) ?_
    refine mx_il7 d_Mo_feed_86 ?_
    refine mx_bip 24 d_Mo_feed_88 (by decide) ?_
    refine mx_bip 8 d_Mo_feed_90 (by decide) ?_
    refine mx_il6 d_Mo_feed_92 ?_
    refine mx_in_4 d_Mo_feed_94 ?_
    refine mx_irem d_Mo_feed_95 (by decide) ?_
    refine mx_ti (y := nI (1)) (by decide) ?_
    refine mx_imulN d_Mo_feed_96 ?_
    refine mx_isubN d_Mo_feed_97 (by omega) ?_
    refine mx_iushr d_Mo_feed_98 ?_
    refine mx_sip 255 d_Mo_feed_99 (by decide) ?_
    refine mx_iand d_Mo_feed_102 ?_
    refine mx_iast d_Mo_feed_103 (by assumption) (nI_inb (by omega) (by omega)) ?_
    rw [nI_clamp (by omega)]
    refine mx_al0 d_Mo_feed_104 ?_
    refine mx_dup d_Mo_feed_105 rfl ?_
    refine mx_getI d_Mo_feed_106 fl_Mo_81 (by assumption) ?_
    refine mx_ti (y := nI (L + 1)) (by rw [mx_up_ne (by omega)]; exact vs_upx) ?_
    refine mx_in_1 d_Mo_feed_109 ?_
    refine mx_iaddN d_Mo_feed_110 ?_
    refine mx_putI d_Mo_feed_111 fl_Mo_81 (by assumption) ?_
    refine mx_ii6 (v := 1) d_Mo_feed_114 rfl ?_
    rw [show (nI (1) + 1 : Int32) = nI (2) from by decide]
    refine mx_goto 23 d_Mo_feed_117 (by decide) ?_
    refine mx_il6 d_Mo_feed_23 ?_
    refine mx_bip 20 d_Mo_feed_25 (by decide) ?_
    refine mx_icN_ge 120 d_Mo_feed_27 (by decide) (by omega) (by omega) (fun c_27 => absurd c_27 (by omega)) (fun c_27 => ?_)
    refine mx_il6 d_Mo_feed_30 ?_
    refine mx_in_4 d_Mo_feed_32 ?_
    refine mx_icN_ge 40 d_Mo_feed_33 (by decide) (by omega) (by omega) (fun c_33 => absurd c_33 (by omega)) (fun c_33 => ?_)
    refine mx_il1 d_Mo_feed_36 ?_
    refine mx_goto 76 d_Mo_feed_37 (by decide) ?_
    refine mx_is7 d_Mo_feed_76 ?_
    refine mx_al0 d_Mo_feed_78 ?_
    refine mx_getR d_Mo_feed_79 fl_Mo_22 (by assumption) (by assumption) ?_
    refine mx_al0 d_Mo_feed_82 ?_
    refine mx_getI d_Mo_feed_83 fl_Mo_81 (by assumption) ?_
    refine mx_ti (y := nI (L + 2)) (vs_upx) ?_
    refine mx_il7 d_Mo_feed_86 ?_
    refine mx_bip 24 d_Mo_feed_88 (by decide) ?_
    refine mx_bip 8 d_Mo_feed_90 (by decide) ?_
    refine mx_il6 d_Mo_feed_92 ?_
    refine mx_in_4 d_Mo_feed_94 ?_
    refine mx_irem d_Mo_feed_95 (by decide) ?_
    refine mx_ti (y := nI (2)) (by decide) ?_
    refine mx_imulN d_Mo_feed_96 ?_
    refine mx_isubN d_Mo_feed_97 (by omega) ?_
    refine mx_iushr d_Mo_feed_98 ?_
    refine mx_sip 255 d_Mo_feed_99 (by decide) ?_
    refine mx_iand d_Mo_feed_102 ?_
    refine mx_iast d_Mo_feed_103 (by assumption) (nI_inb (by omega) (by omega)) ?_
    rw [nI_clamp (by omega)]
    refine mx_al0 d_Mo_feed_104 ?_
    refine mx_dup d_Mo_feed_105 rfl ?_
    refine mx_getI d_Mo_feed_106 fl_Mo_81 (by assumption) ?_
    refine mx_ti (y := nI (L + 2)) (by rw [mx_up_ne (by omega)]; exact vs_upx) ?_
    refine mx_in_1 d_Mo_feed_109 ?_
    refine mx_iaddN d_Mo_feed_110 ?_
    refine mx_putI d_Mo_feed_111 fl_Mo_81 (by assumption) ?_
    refine mx_ii6 (v := 1) d_Mo_feed_114 rfl ?_
    rw [show (nI (2) + 1 : Int32) = nI (3) from by decide]
    refine mx_goto 23 d_Mo_feed_117 (by decide) ?_
    refine mx_il6 d_Mo_feed_23 ?_
    refine mx_bip 20 d_Mo_feed_25 (by decide) ?_
    refine mx_icN_ge 120 d_Mo_feed_27 (by decide) (by omega) (by omega) (fun c_27 => absurd c_27 (by omega)) (fun c_27 => ?_)
    refine mx_il6 d_Mo_feed_30 ?_
    refine mx_in_4 d_Mo_feed_32 ?_
    refine mx_icN_ge 40 d_Mo_feed_33 (by decide) (by omega) (by omega) (fun c_33 => absurd c_33 (by omega)) (fun c_33 => ?_)
    refine mx_il1 d_Mo_feed_36 ?_
    refine mx_goto 76 d_Mo_feed_37 (by decide) ?_
    refine mx_is7 d_Mo_feed_76 ?_
    refine mx_al0 d_Mo_feed_78 ?_
    refine mx_getR d_Mo_feed_79 fl_Mo_22 (by assumption) (by assumption) ?_
    refine mx_al0 d_Mo_feed_82 ?_
    refine mx_getI d_Mo_feed_83 fl_Mo_81 (by assumption) ?_
    refine mx_ti (y := nI (L + 3)) (vs_upx) ?_
    refine mx_il7 d_Mo_feed_86 ?_
    refine mx_bip 24 d_Mo_feed_88 (by decide) ?_
    refine mx_bip 8 d_Mo_feed_90 (by decide) ?_
    refine mx_il6 d_Mo_feed_92 ?_
    refine mx_in_4 d_Mo_feed_94 ?_
    refine mx_irem d_Mo_feed_95 (by decide) ?_
    refine mx_ti (y := nI (3)) (by decide) ?_
    refine mx_imulN d_Mo_feed_96 ?_
    refine mx_isubN d_Mo_feed_97 (by omega) ?_
    refine mx_iushr d_Mo_feed_98 ?_
    refine mx_sip 255 d_Mo_feed_99 (by decide) ?_
    refine mx_iand d_Mo_feed_102 ?_
    refine mx_iast d_Mo_feed_103 (by assumption) (nI_inb (by omega) (by omega)) ?_
    rw [nI_clamp (by omega)]
    refine mx_al0 d_Mo_feed_104 ?_
    refine mx_dup d_Mo_feed_105 rfl ?_
    refine mx_getI d_Mo_feed_106 fl_Mo_81 (by assumption) ?_
    refine mx_ti (y := nI (L + 3)) (by rw [mx_up_ne (by omega)]; exact vs_upx) ?_
    refine mx_in_1 d_Mo_feed_109 ?_
    refine mx_iaddN d_Mo_feed_110 ?_
    refine mx_putI d_Mo_feed_111 fl_Mo_81 (by assumption) ?_
    refine mx_ii6 (v := 1) d_Mo_feed_114 rfl ?_
    rw [show (nI (3) + 1 : Int32) = nI (4) from by decide]
    refine mx_goto 23 d_Mo_feed_117 (by decide) ?_
    refine mx_il6 d_Mo_feed_23 ?_
    refine mx_bip 20 d_Mo_feed_25 (by decide) ?_
    refine mx_icN_ge 120 d_Mo_feed_27 (by decide) (by omega) (by omega) (fun c_27 => absurd c_27 (by omega)) (fun c_27 => ?_)
    refine mx_il6 d_Mo_feed_30 ?_
    refine mx_in_4 d_Mo_feed_32 ?_
    refine mx_icN_ge 40 d_Mo_feed_33 (by decide) (by omega) (by omega) (fun c_33 => ?_) (fun c_33 => absurd c_33 (by omega))
    refine mx_il6 d_Mo_feed_40 ?_
    refine mx_bip 8 d_Mo_feed_42 (by decide) ?_
    refine mx_icN_ge 51 d_Mo_feed_44 (by decide) (by omega) (by omega) (fun c_44 => absurd c_44 (by omega)) (fun c_44 => ?_)
    refine mx_il2 d_Mo_feed_47 ?_
    refine mx_goto 76 d_Mo_feed_48 (by decide) ?_
    refine mx_is7 d_Mo_feed_76 ?_
    refine mx_al0 d_Mo_feed_78 ?_
    refine mx_getR d_Mo_feed_79 fl_Mo_22 (by assumption) (by assumption) ?_
    refine mx_al0 d_Mo_feed_82 ?_
    refine mx_getI d_Mo_feed_83 fl_Mo_81 (by assumption) ?_
    refine mx_ti (y := nI (L + 4)) (vs_upx) ?_
    refine mx_il7 d_Mo_feed_86 ?_
    refine mx_bip 24 d_Mo_feed_88 (by decide) ?_
    refine mx_bip 8 d_Mo_feed_90 (by decide) ?_
    refine mx_il6 d_Mo_feed_92 ?_
    refine mx_in_4 d_Mo_feed_94 ?_
    refine mx_irem d_Mo_feed_95 (by decide) ?_
    refine mx_ti (y := nI (0)) (by decide) ?_
    refine mx_imulN d_Mo_feed_96 ?_
    refine mx_isubN d_Mo_feed_97 (by omega) ?_
    refine mx_iushr d_Mo_feed_98 ?_
    refine mx_sip 255 d_Mo_feed_99 (by decide) ?_
    refine mx_iand d_Mo_feed_102 ?_
    refine mx_iast d_Mo_feed_103 (by assumption) (nI_inb (by omega) (by omega)) ?_
    rw [nI_clamp (by omega)]
    refine mx_al0 d_Mo_feed_104 ?_
    refine mx_dup d_Mo_feed_105 rfl ?_
    refine mx_getI d_Mo_feed_106 fl_Mo_81 (by assumption) ?_
    refine mx_ti (y := nI (L + 4)) (by rw [mx_up_ne (by omega)]; exact vs_upx) ?_
    refine mx_in_1 d_Mo_feed_109 ?_
    refine mx_iaddN d_Mo_feed_110 ?_
    refine mx_putI d_Mo_feed_111 fl_Mo_81 (by assumption) ?_
    refine mx_ii6 (v := 1) d_Mo_feed_114 rfl ?_
    rw [show (nI (4) + 1 : Int32) = nI (5) from by decide]
    refine mx_goto 23 d_Mo_feed_117 (by decide) ?_
    refine mx_il6 d_Mo_feed_23 ?_
    refine mx_bip 20 d_Mo_feed_25 (by decide) ?_
    refine mx_icN_ge 120 d_Mo_feed_27 (by decide) (by omega) (by omega) (fun c_27 => absurd c_27 (by omega)) (fun c_27 => ?_)
    refine mx_il6 d_Mo_feed_30 ?_
    refine mx_in_4 d_Mo_feed_32 ?_
    refine mx_icN_ge 40 d_Mo_feed_33 (by decide) (by omega) (by omega) (fun c_33 => ?_) (fun c_33 => absurd c_33 (by omega))
    refine mx_il6 d_Mo_feed_40 ?_
    refine mx_bip 8 d_Mo_feed_42 (by decide) ?_
    refine mx_icN_ge 51 d_Mo_feed_44 (by decide) (by omega) (by omega) (fun c_44 => absurd c_44 (by omega)) (fun c_44 => ?_)
    refine mx_il2 d_Mo_feed_47 ?_
    refine mx_goto 76 d_Mo_feed_48 (by decide) ?_
    refine mx_is7 d_Mo_feed_76 ?_
    refine mx_al0 d_Mo_feed_78 ?_
    refine mx_getR d_Mo_feed_79 fl_Mo_22 (by assumption) (by assumption) ?_
    refine mx_al0 d_Mo_feed_82 ?_
    refine mx_getI d_Mo_feed_83 fl_Mo_81 (by assumption) ?_
    refine mx_ti (y := nI (L + 5)) (vs_upx) ?_
    refine mx_il7 d_Mo_feed_86 ?_
    refine mx_bip 24 d_Mo_feed_88 (by decide) ?_
    refine mx_bip 8 d_Mo_feed_90 (by decide) ?_
    refine mx_il6 d_Mo_feed_92 ?_
    refine mx_in_4 d_Mo_feed_94 ?_
    refine mx_irem d_Mo_feed_95 (by decide) ?_
    refine mx_ti (y := nI (1)) (by decide) ?_
    refine mx_imulN d_Mo_feed_96 ?_
    refine mx_isubN d_Mo_feed_97 (by omega) ?_
    refine mx_iushr d_Mo_feed_98 ?_
    refine mx_sip 255 d_Mo_feed_99 (by decide) ?_
    refine mx_iand d_Mo_feed_102 ?_
    refine mx_iast d_Mo_feed_103 (by assumption) (nI_inb (by omega) (by omega)) ?_
    rw [nI_clamp (by omega)]
    refine mx_al0 d_Mo_feed_104 ?_
    refine mx_dup d_Mo_feed_105 rfl ?_
    refine mx_getI d_Mo_feed_106 fl_Mo_81 (by assumption) ?_
    refine mx_ti (y := nI (L + 5)) (by rw [mx_up_ne (by omega)]; exact vs_upx) ?_
    refine mx_in_1 d_Mo_feed_109 ?_
    refine mx_iaddN d_Mo_feed_110 ?_
    refine mx_putI d_Mo_feed_111 fl_Mo_81 (by assumption) ?_
    refine mx_ii6 (v := 1) d_Mo_feed_114 rfl ?_
    rw [show (nI (5) + 1 : Int32) = nI (6) from by decide]
    refine mx_goto 23 d_Mo_feed_117 (by decide) ?_
    refine mx_il6 d_Mo_feed_23 ?_
    refine mx_bip 20 d_Mo_feed_25 (by decide) ?_
    refine mx_icN_ge 120 d_Mo_feed_27 (by decide) (by omega) (by omega) (fun c_27 => absurd c_27 (by omega)) (fun c_27 => ?_)
    refine mx_il6 d_Mo_feed_30 ?_
    refine mx_in_4 d_Mo_feed_32 ?_
    refine mx_icN_ge 40 d_Mo_feed_33 (by decide) (by omega) (by omega) (fun c_33 => ?_) (fun c_33 => absurd c_33 (by omega))
    refine mx_il6 d_Mo_feed_40 ?_
    refine mx_bip 8 d_Mo_feed_42 (by decide) ?_
    refine mx_icN_ge 51 d_Mo_feed_44 (by decide) (by omega) (by omega) (fun c_44 => absurd c_44 (by omega)) (fun c_44 => ?_)
    refine mx_il2 d_Mo_feed_47 ?_
    refine mx_goto 76 d_Mo_feed_48 (by decide) ?_
    refine mx_is7 d_Mo_feed_76 ?_
    refine mx_al0 d_Mo_feed_78 ?_
    refine mx_getR d_Mo_feed_79 fl_Mo_22 (by assumption) (by assumption) ?_
    refine mx_al0 d_Mo_feed_82 ?_
    refine mx_getI d_Mo_feed_83 fl_Mo_81 (by assumption) ?_
    refine mx_ti (y := nI (L + 6)) (vs_upx) ?_
    refine mx_il7 d_Mo_feed_86 ?_
    refine mx_bip 24 d_Mo_feed_88 (by decide) ?_
    refine mx_bip 8 d_Mo_feed_90 (by decide) ?_
    refine mx_il6 d_Mo_feed_92 ?_
    refine mx_in_4 d_Mo_feed_94 ?_
    refine mx_irem d_Mo_feed_95 (by decide) ?_
    refine mx_ti (y := nI (2)) (by decide) ?_
    refine mx_imulN d_Mo_feed_96 ?_
    refine mx_isubN d_Mo_feed_97 (by omega) ?_
    refine mx_iushr d_Mo_feed_98 ?_
    refine mx_sip 255 d_Mo_feed_99 (by decide) ?_
    refine mx_iand d_Mo_feed_102 ?_
    refine mx_iast d_Mo_feed_103 (by assumption) (nI_inb (by omega) (by omega)) ?_
    rw [nI_clamp (by omega)]
    refine mx_al0 d_Mo_feed_104 ?_
    refine mx_dup d_Mo_feed_105 rfl ?_
    refine mx_getI d_Mo_feed_106 fl_Mo_81 (by assumption) ?_
    refine mx_ti (y := nI (L + 6)) (by rw [mx_up_ne (by omega)]; exact vs_upx) ?_
    refine mx_in_1 d_Mo_feed_109 ?_
    refine mx_iaddN d_Mo_feed_110 ?_
    refine mx_putI d_Mo_feed_111 fl_Mo_81 (by assumption) ?_
    refine mx_ii6 (v := 1) d_Mo_feed_114 rfl ?_
    rw [show (nI (6) + 1 : Int32) = nI (7) from by decide]
    refine mx_goto 23 d_Mo_feed_117 (by decide) ?_
    refine mx_il6 d_Mo_feed_23 ?_
    refine mx_bip 20 d_Mo_feed_25 (by decide) ?_
    refine mx_icN_ge 120 d_Mo_feed_27 (by decide) (by omega) (by omega) (fun c_27 => absurd c_27 (by omega)) (fun c_27 => ?_)
    refine mx_il6 d_Mo_feed_30 ?_
    refine mx_in_4 d_Mo_feed_32 ?_
    refine mx_icN_ge 40 d_Mo_feed_33 (by decide) (by omega) (by omega) (fun c_33 => ?_) (fun c_33 => absurd c_33 (by omega))
    refine mx_il6 d_Mo_feed_40 ?_
    refine mx_bip 8 d_Mo_feed_42 (by decide) ?_
    refine mx_icN_ge 51 d_Mo_feed_44 (by decide) (by omega) (by omega) (fun c_44 => absurd c_44 (by omega)) (fun c_44 => ?_)
    refine mx_il2 d_Mo_feed_47 ?_
    refine mx_goto 76 d_Mo_feed_48 (by decide) ?_
    refine mx_is7 d_Mo_feed_76 ?_
    refine mx_al0 d_Mo_feed_78 ?_
    refine mx_getR d_Mo_feed_79 fl_Mo_22 (by assumption) (by assumption) ?_
    refine mx_al0 d_Mo_feed_82 ?_
    refine mx_getI d_Mo_feed_83 fl_Mo_81 (by assumption) ?_
    refine mx_ti (y := nI (L + 7)) (vs_upx) ?_
    refine mx_il7 d_Mo_feed_86 ?_
    refine mx_bip 24 d_Mo_feed_88 (by decide) ?_
    refine mx_bip 8 d_Mo_feed_90 (by decide) ?_
    refine mx_il6 d_Mo_feed_92 ?_
    refine mx_in_4 d_Mo_feed_94 ?_
    refine mx_irem d_Mo_feed_95 (by decide) ?_
    refine mx_ti (y := nI (3)) (by decide) ?_
    refine mx_imulN d_Mo_feed_96 ?_
    refine mx_isubN d_Mo_feed_97 (by omega) ?_
    refine mx_iushr d_Mo_feed_98 ?_
    refine mx_sip 255 d_Mo_feed_99 (by decide) ?_
    refine mx_iand d_Mo_feed_102 ?_
    refine mx_iast d_Mo_feed_103 (by assumption) (nI_inb (by omega) (by omega)) ?_
    rw [nI_clamp (by omega)]
    refine mx_al0 d_Mo_feed_104 ?_
    refine mx_dup d_Mo_feed_105 rfl ?_
    refine mx_getI d_Mo_feed_106 fl_Mo_81 (by assumption) ?_
    refine mx_ti (y := nI (L + 7)) (by rw [mx_up_ne (by omega)]; exact vs_upx) ?_
    refine mx_in_1 d_Mo_feed_109 ?_
    refine mx_iaddN d_Mo_feed_110 ?_
    refine mx_putI d_Mo_feed_111 fl_Mo_81 (by assumption) ?_
    refine mx_ii6 (v := 1) d_Mo_feed_114 rfl ?_
    rw [show (nI (7) + 1 : Int32) = nI (8) from by decide]
    refine mx_goto 23 d_Mo_feed_117 (by decide) ?_
    refine mx_il6 d_Mo_feed_23 ?_
    refine mx_bip 20 d_Mo_feed_25 (by decide) ?_
    refine mx_icN_ge 120 d_Mo_feed_27 (by decide) (by omega) (by omega) (fun c_27 => absurd c_27 (by omega)) (fun c_27 => ?_)
    refine mx_il6 d_Mo_feed_30 ?_
    refine mx_in_4 d_Mo_feed_32 ?_
    refine mx_icN_ge 40 d_Mo_feed_33 (by decide) (by omega) (by omega) (fun c_33 => ?_) (fun c_33 => absurd c_33 (by omega))
    refine mx_il6 d_Mo_feed_40 ?_
    refine mx_bip 8 d_Mo_feed_42 (by decide) ?_
    refine mx_icN_ge 51 d_Mo_feed_44 (by decide) (by omega) (by omega) (fun c_44 => ?_) (fun c_44 => absurd c_44 (by omega))
    refine mx_il6 d_Mo_feed_51 ?_
    refine mx_bip 12 d_Mo_feed_53 (by decide) ?_
    refine mx_icN_ge 62 d_Mo_feed_55 (by decide) (by omega) (by omega) (fun c_55 => absurd c_55 (by omega)) (fun c_55 => ?_)
    refine mx_il3 d_Mo_feed_58 ?_
    refine mx_goto 76 d_Mo_feed_59 (by decide) ?_
    refine mx_is7 d_Mo_feed_76 ?_
    refine mx_al0 d_Mo_feed_78 ?_
    refine mx_getR d_Mo_feed_79 fl_Mo_22 (by assumption) (by assumption) ?_
    refine mx_al0 d_Mo_feed_82 ?_
    refine mx_getI d_Mo_feed_83 fl_Mo_81 (by assumption) ?_
    refine mx_ti (y := nI (L + 8)) (vs_upx) ?_
    refine mx_il7 d_Mo_feed_86 ?_
    refine mx_bip 24 d_Mo_feed_88 (by decide) ?_
    refine mx_bip 8 d_Mo_feed_90 (by decide) ?_
    refine mx_il6 d_Mo_feed_92 ?_
    refine mx_in_4 d_Mo_feed_94 ?_
    refine mx_irem d_Mo_feed_95 (by decide) ?_
    refine mx_ti (y := nI (0)) (by decide) ?_
    refine mx_imulN d_Mo_feed_96 ?_
    refine mx_isubN d_Mo_feed_97 (by omega) ?_
    refine mx_iushr d_Mo_feed_98 ?_
    refine mx_sip 255 d_Mo_feed_99 (by decide) ?_
    refine mx_iand d_Mo_feed_102 ?_
    refine mx_iast d_Mo_feed_103 (by assumption) (nI_inb (by omega) (by omega)) ?_
    rw [nI_clamp (by omega)]
    refine mx_al0 d_Mo_feed_104 ?_
    refine mx_dup d_Mo_feed_105 rfl ?_
    refine mx_getI d_Mo_feed_106 fl_Mo_81 (by assumption) ?_
    refine mx_ti (y := nI (L + 8)) (by rw [mx_up_ne (by omega)]; exact vs_upx) ?_
    refine mx_in_1 d_Mo_feed_109 ?_
    refine mx_iaddN d_Mo_feed_110 ?_
    refine mx_putI d_Mo_feed_111 fl_Mo_81 (by assumption) ?_
    refine mx_ii6 (v := 1) d_Mo_feed_114 rfl ?_
    rw [show (nI (8) + 1 : Int32) = nI (9) from by decide]
    refine mx_goto 23 d_Mo_feed_117 (by decide) ?_
    refine mx_il6 d_Mo_feed_23 ?_
    refine mx_bip 20 d_Mo_feed_25 (by decide) ?_
    refine mx_icN_ge 120 d_Mo_feed_27 (by decide) (by omega) (by omega) (fun c_27 => absurd c_27 (by omega)) (fun c_27 => ?_)
    refine mx_il6 d_Mo_feed_30 ?_
    refine mx_in_4 d_Mo_feed_32 ?_
    refine mx_icN_ge 40 d_Mo_feed_33 (by decide) (by omega) (by omega) (fun c_33 => ?_) (fun c_33 => absurd c_33 (by omega))
    refine mx_il6 d_Mo_feed_40 ?_
    refine mx_bip 8 d_Mo_feed_42 (by decide) ?_
    refine mx_icN_ge 51 d_Mo_feed_44 (by decide) (by omega) (by omega) (fun c_44 => ?_) (fun c_44 => absurd c_44 (by omega))
    refine mx_il6 d_Mo_feed_51 ?_
    refine mx_bip 12 d_Mo_feed_53 (by decide) ?_
    refine mx_icN_ge 62 d_Mo_feed_55 (by decide) (by omega) (by omega) (fun c_55 => absurd c_55 (by omega)) (fun c_55 => ?_)
    refine mx_il3 d_Mo_feed_58 ?_
    refine mx_goto 76 d_Mo_feed_59 (by decide) ?_
    refine mx_is7 d_Mo_feed_76 ?_
    refine mx_al0 d_Mo_feed_78 ?_
    refine mx_getR d_Mo_feed_79 fl_Mo_22 (by assumption) (by assumption) ?_
    refine mx_al0 d_Mo_feed_82 ?_
    refine mx_getI d_Mo_feed_83 fl_Mo_81 (by assumption) ?_
    refine mx_ti (y := nI (L + 9)) (vs_upx) ?_
    refine mx_il7 d_Mo_feed_86 ?_
    refine mx_bip 24 d_Mo_feed_88 (by decide) ?_
    refine mx_bip 8 d_Mo_feed_90 (by decide) ?_
    refine mx_il6 d_Mo_feed_92 ?_
    refine mx_in_4 d_Mo_feed_94 ?_
    refine mx_irem d_Mo_feed_95 (by decide) ?_
    refine mx_ti (y := nI (1)) (by decide) ?_
    refine mx_imulN d_Mo_feed_96 ?_
    refine mx_isubN d_Mo_feed_97 (by omega) ?_
    refine mx_iushr d_Mo_feed_98 ?_
    refine mx_sip 255 d_Mo_feed_99 (by decide) ?_
    refine mx_iand d_Mo_feed_102 ?_
    refine mx_iast d_Mo_feed_103 (by assumption) (nI_inb (by omega) (by omega)) ?_
    rw [nI_clamp (by omega)]
    refine mx_al0 d_Mo_feed_104 ?_
    refine mx_dup d_Mo_feed_105 rfl ?_
    refine mx_getI d_Mo_feed_106 fl_Mo_81 (by assumption) ?_
    refine mx_ti (y := nI (L + 9)) (by rw [mx_up_ne (by omega)]; exact vs_upx) ?_
    refine mx_in_1 d_Mo_feed_109 ?_
    refine mx_iaddN d_Mo_feed_110 ?_
    refine mx_putI d_Mo_feed_111 fl_Mo_81 (by assumption) ?_
    refine mx_ii6 (v := 1) d_Mo_feed_114 rfl ?_
    rw [show (nI (9) + 1 : Int32) = nI (10) from by decide]
    refine mx_goto 23 d_Mo_feed_117 (by decide) ?_
    refine mx_il6 d_Mo_feed_23 ?_
    refine mx_bip 20 d_Mo_feed_25 (by decide) ?_
    refine mx_icN_ge 120 d_Mo_feed_27 (by decide) (by omega) (by omega) (fun c_27 => absurd c_27 (by omega)) (fun c_27 => ?_)
    refine mx_il6 d_Mo_feed_30 ?_
    refine mx_in_4 d_Mo_feed_32 ?_
    refine mx_icN_ge 40 d_Mo_feed_33 (by decide) (by omega) (by omega) (fun c_33 => ?_) (fun c_33 => absurd c_33 (by omega))
    refine mx_il6 d_Mo_feed_40 ?_
    refine mx_bip 8 d_Mo_feed_42 (by decide) ?_
    refine mx_icN_ge 51 d_Mo_feed_44 (by decide) (by omega) (by omega) (fun c_44 => ?_) (fun c_44 => absurd c_44 (by omega))
    refine mx_il6 d_Mo_feed_51 ?_
    refine mx_bip 12 d_Mo_feed_53 (by decide) ?_
    refine mx_icN_ge 62 d_Mo_feed_55 (by decide) (by omega) (by omega) (fun c_55 => absurd c_55 (by omega)) (fun c_55 => ?_)
    refine mx_il3 d_Mo_feed_58 ?_
    refine mx_goto 76 d_Mo_feed_59 (by decide) ?_
    refine mx_is7 d_Mo_feed_76 ?_
    refine mx_al0 d_Mo_feed_78 ?_
    refine mx_getR d_Mo_feed_79 fl_Mo_22 (by assumption) (by assumption) ?_
    refine mx_al0 d_Mo_feed_82 ?_
    refine mx_getI d_Mo_feed_83 fl_Mo_81 (by assumption) ?_
    refine mx_ti (y := nI (L + 10)) (vs_upx) ?_
    refine mx_il7 d_Mo_feed_86 ?_
    refine mx_bip 24 d_Mo_feed_88 (by decide) ?_
    refine mx_bip 8 d_Mo_feed_90 (by decide) ?_
    refine mx_il6 d_Mo_feed_92 ?_
    refine mx_in_4 d_Mo_feed_94 ?_
    refine mx_irem d_Mo_feed_95 (by decide) ?_
    refine mx_ti (y := nI (2)) (by decide) ?_
    refine mx_imulN d_Mo_feed_96 ?_
    refine mx_isubN d_Mo_feed_97 (by omega) ?_
    refine mx_iushr d_Mo_feed_98 ?_
    refine mx_sip 255 d_Mo_feed_99 (by decide) ?_
    refine mx_iand d_Mo_feed_102 ?_
    refine mx_iast d_Mo_feed_103 (by assumption) (nI_inb (by omega) (by omega)) ?_
    rw [nI_clamp (by omega)]
    refine mx_al0 d_Mo_feed_104 ?_
    refine mx_dup d_Mo_feed_105 rfl ?_
    refine mx_getI d_Mo_feed_106 fl_Mo_81 (by assumption) ?_
    refine mx_ti (y := nI (L + 10)) (by rw [mx_up_ne (by omega)]; exact vs_upx) ?_
    refine mx_in_1 d_Mo_feed_109 ?_
    refine mx_iaddN d_Mo_feed_110 ?_
    refine mx_putI d_Mo_feed_111 fl_Mo_81 (by assumption) ?_
    refine mx_ii6 (v := 1) d_Mo_feed_114 rfl ?_
    rw [show (nI (10) + 1 : Int32) = nI (11) from by decide]
    refine mx_goto 23 d_Mo_feed_117 (by decide) ?_
    refine mx_il6 d_Mo_feed_23 ?_
    refine mx_bip 20 d_Mo_feed_25 (by decide) ?_
    refine mx_icN_ge 120 d_Mo_feed_27 (by decide) (by omega) (by omega) (fun c_27 => absurd c_27 (by omega)) (fun c_27 => ?_)
    refine mx_il6 d_Mo_feed_30 ?_
    refine mx_in_4 d_Mo_feed_32 ?_
    refine mx_icN_ge 40 d_Mo_feed_33 (by decide) (by omega) (by omega) (fun c_33 => ?_) (fun c_33 => absurd c_33 (by omega))
    refine mx_il6 d_Mo_feed_40 ?_
    refine mx_bip 8 d_Mo_feed_42 (by decide) ?_
    refine mx_icN_ge 51 d_Mo_feed_44 (by decide) (by omega) (by omega) (fun c_44 => ?_) (fun c_44 => absurd c_44 (by omega))
    refine mx_il6 d_Mo_feed_51 ?_
    refine mx_bip 12 d_Mo_feed_53 (by decide) ?_
    refine mx_icN_ge 62 d_Mo_feed_55 (by decide) (by omega) (by omega) (fun c_55 => absurd c_55 (by omega)) (fun c_55 => ?_)
    refine mx_il3 d_Mo_feed_58 ?_
    refine mx_goto 76 d_Mo_feed_59 (by decide) ?_
    refine mx_is7 d_Mo_feed_76 ?_
    refine mx_al0 d_Mo_feed_78 ?_
    refine mx_getR d_Mo_feed_79 fl_Mo_22 (by assumption) (by assumption) ?_
    refine mx_al0 d_Mo_feed_82 ?_
    refine mx_getI d_Mo_feed_83 fl_Mo_81 (by assumption) ?_
    refine mx_ti (y := nI (L + 11)) (vs_upx) ?_
    refine mx_il7 d_Mo_feed_86 ?_
    refine mx_bip 24 d_Mo_feed_88 (by decide) ?_
    refine mx_bip 8 d_Mo_feed_90 (by decide) ?_
    refine mx_il6 d_Mo_feed_92 ?_
    refine mx_in_4 d_Mo_feed_94 ?_
    refine mx_irem d_Mo_feed_95 (by decide) ?_
    refine mx_ti (y := nI (3)) (by decide) ?_
    refine mx_imulN d_Mo_feed_96 ?_
    refine mx_isubN d_Mo_feed_97 (by omega) ?_
    refine mx_iushr d_Mo_feed_98 ?_
    refine mx_sip 255 d_Mo_feed_99 (by decide) ?_
    refine mx_iand d_Mo_feed_102 ?_
    refine mx_iast d_Mo_feed_103 (by assumption) (nI_inb (by omega) (by omega)) ?_
    rw [nI_clamp (by omega)]
    refine mx_al0 d_Mo_feed_104 ?_
    refine mx_dup d_Mo_feed_105 rfl ?_
    refine mx_getI d_Mo_feed_106 fl_Mo_81 (by assumption) ?_
    refine mx_ti (y := nI (L + 11)) (by rw [mx_up_ne (by omega)]; exact vs_upx) ?_
    refine mx_in_1 d_Mo_feed_109 ?_
    refine mx_iaddN d_Mo_feed_110 ?_
    refine mx_putI d_Mo_feed_111 fl_Mo_81 (by assumption) ?_
    refine mx_ii6 (v := 1) d_Mo_feed_114 rfl ?_
    rw [show (nI (11) + 1 : Int32) = nI (12) from by decide]
    refine mx_goto 23 d_Mo_feed_117 (by decide) ?_
    refine mx_il6 d_Mo_feed_23 ?_
    refine mx_bip 20 d_Mo_feed_25 (by decide) ?_
    refine mx_icN_ge 120 d_Mo_feed_27 (by decide) (by omega) (by omega) (fun c_27 => absurd c_27 (by omega)) (fun c_27 => ?_)
    refine mx_il6 d_Mo_feed_30 ?_
    refine mx_in_4 d_Mo_feed_32 ?_
    refine mx_icN_ge 40 d_Mo_feed_33 (by decide) (by omega) (by omega) (fun c_33 => ?_) (fun c_33 => absurd c_33 (by omega))
    refine mx_il6 d_Mo_feed_40 ?_
    refine mx_bip 8 d_Mo_feed_42 (by decide) ?_
    refine mx_icN_ge 51 d_Mo_feed_44 (by decide) (by omega) (by omega) (fun c_44 => ?_) (fun c_44 => absurd c_44 (by omega))
    refine mx_il6 d_Mo_feed_51 ?_
    refine mx_bip 12 d_Mo_feed_53 (by decide) ?_
    refine mx_icN_ge 62 d_Mo_feed_55 (by decide) (by omega) (by omega) (fun c_55 => ?_) (fun c_55 => absurd c_55 (by omega))
    refine mx_il6 d_Mo_feed_62 ?_
    refine mx_bip 16 d_Mo_feed_64 (by decide) ?_
    refine mx_icN_ge 74 d_Mo_feed_66 (by decide) (by omega) (by omega) (fun c_66 => absurd c_66 (by omega)) (fun c_66 => ?_)
    refine mx_il4 d_Mo_feed_69 ?_
    refine mx_goto 76 d_Mo_feed_71 (by decide) ?_
    refine mx_is7 d_Mo_feed_76 ?_
    refine mx_al0 d_Mo_feed_78 ?_
    refine mx_getR d_Mo_feed_79 fl_Mo_22 (by assumption) (by assumption) ?_
    refine mx_al0 d_Mo_feed_82 ?_
    refine mx_getI d_Mo_feed_83 fl_Mo_81 (by assumption) ?_
    refine mx_ti (y := nI (L + 12)) (vs_upx) ?_
    refine mx_il7 d_Mo_feed_86 ?_
    refine mx_bip 24 d_Mo_feed_88 (by decide) ?_
    refine mx_bip 8 d_Mo_feed_90 (by decide) ?_
    refine mx_il6 d_Mo_feed_92 ?_
    refine mx_in_4 d_Mo_feed_94 ?_
    refine mx_irem d_Mo_feed_95 (by decide) ?_
    refine mx_ti (y := nI (0)) (by decide) ?_
    refine mx_imulN d_Mo_feed_96 ?_
    refine mx_isubN d_Mo_feed_97 (by omega) ?_
    refine mx_iushr d_Mo_feed_98 ?_
    refine mx_sip 255 d_Mo_feed_99 (by decide) ?_
    refine mx_iand d_Mo_feed_102 ?_
    refine mx_iast d_Mo_feed_103 (by assumption) (nI_inb (by omega) (by omega)) ?_
    rw [nI_clamp (by omega)]
    refine mx_al0 d_Mo_feed_104 ?_
    refine mx_dup d_Mo_feed_105 rfl ?_
    refine mx_getI d_Mo_feed_106 fl_Mo_81 (by assumption) ?_
    refine mx_ti (y := nI (L + 12)) (by rw [mx_up_ne (by omega)]; exact vs_upx) ?_
    refine mx_in_1 d_Mo_feed_109 ?_
    refine mx_iaddN d_Mo_feed_110 ?_
    refine mx_putI d_Mo_feed_111 fl_Mo_81 (by assumption) ?_
    refine mx_ii6 (v := 1) d_Mo_feed_114 rfl ?_
    rw [show (nI (12) + 1 : Int32) = nI (13) from by decide]
    refine mx_goto 23 d_Mo_feed_117 (by decide) ?_
    refine mx_il6 d_Mo_feed_23 ?_
    refine mx_bip 20 d_Mo_feed_25 (by decide) ?_
    refine mx_icN_ge 120 d_Mo_feed_27 (by decide) (by omega) (by omega) (fun c_27 => absurd c_27 (by omega)) (fun c_27 => ?_)
    refine mx_il6 d_Mo_feed_30 ?_
    refine mx_in_4 d_Mo_feed_32 ?_
    refine mx_icN_ge 40 d_Mo_feed_33 (by decide) (by omega) (by omega) (fun c_33 => ?_) (fun c_33 => absurd c_33 (by omega))
    refine mx_il6 d_Mo_feed_40 ?_
    refine mx_bip 8 d_Mo_feed_42 (by decide) ?_
    refine mx_icN_ge 51 d_Mo_feed_44 (by decide) (by omega) (by omega) (fun c_44 => ?_) (fun c_44 => absurd c_44 (by omega))
    refine mx_il6 d_Mo_feed_51 ?_
    refine mx_bip 12 d_Mo_feed_53 (by decide) ?_
    refine mx_icN_ge 62 d_Mo_feed_55 (by decide) (by omega) (by omega) (fun c_55 => ?_) (fun c_55 => absurd c_55 (by omega))
    refine mx_il6 d_Mo_feed_62 ?_
    refine mx_bip 16 d_Mo_feed_64 (by decide) ?_
    refine mx_icN_ge 74 d_Mo_feed_66 (by decide) (by omega) (by omega) (fun c_66 => absurd c_66 (by omega)) (fun c_66 => ?_)
    refine mx_il4 d_Mo_feed_69 ?_
    refine mx_goto 76 d_Mo_feed_71 (by decide) ?_
    refine mx_is7 d_Mo_feed_76 ?_
    refine mx_al0 d_Mo_feed_78 ?_
    refine mx_getR d_Mo_feed_79 fl_Mo_22 (by assumption) (by assumption) ?_
    refine mx_al0 d_Mo_feed_82 ?_
    refine mx_getI d_Mo_feed_83 fl_Mo_81 (by assumption) ?_
    refine mx_ti (y := nI (L + 13)) (vs_upx) ?_
    refine mx_il7 d_Mo_feed_86 ?_
    refine mx_bip 24 d_Mo_feed_88 (by decide) ?_
    refine mx_bip 8 d_Mo_feed_90 (by decide) ?_
    refine mx_il6 d_Mo_feed_92 ?_
    refine mx_in_4 d_Mo_feed_94 ?_
    refine mx_irem d_Mo_feed_95 (by decide) ?_
    refine mx_ti (y := nI (1)) (by decide) ?_
    refine mx_imulN d_Mo_feed_96 ?_
    refine mx_isubN d_Mo_feed_97 (by omega) ?_
    refine mx_iushr d_Mo_feed_98 ?_
    refine mx_sip 255 d_Mo_feed_99 (by decide) ?_
    refine mx_iand d_Mo_feed_102 ?_
    refine mx_iast d_Mo_feed_103 (by assumption) (nI_inb (by omega) (by omega)) ?_
    rw [nI_clamp (by omega)]
    refine mx_al0 d_Mo_feed_104 ?_
    refine mx_dup d_Mo_feed_105 rfl ?_
    refine mx_getI d_Mo_feed_106 fl_Mo_81 (by assumption) ?_
    refine mx_ti (y := nI (L + 13)) (by rw [mx_up_ne (by omega)]; exact vs_upx) ?_
    refine mx_in_1 d_Mo_feed_109 ?_
    refine mx_iaddN d_Mo_feed_110 ?_
    refine mx_putI d_Mo_feed_111 fl_Mo_81 (by assumption) ?_
    refine mx_ii6 (v := 1) d_Mo_feed_114 rfl ?_
    rw [show (nI (13) + 1 : Int32) = nI (14) from by decide]
    refine mx_goto 23 d_Mo_feed_117 (by decide) ?_
    refine mx_il6 d_Mo_feed_23 ?_
    refine mx_bip 20 d_Mo_feed_25 (by decide) ?_
    refine mx_icN_ge 120 d_Mo_feed_27 (by decide) (by omega) (by omega) (fun c_27 => absurd c_27 (by omega)) (fun c_27 => ?_)
    refine mx_il6 d_Mo_feed_30 ?_
    refine mx_in_4 d_Mo_feed_32 ?_
    refine mx_icN_ge 40 d_Mo_feed_33 (by decide) (by omega) (by omega) (fun c_33 => ?_) (fun c_33 => absurd c_33 (by omega))
    refine mx_il6 d_Mo_feed_40 ?_
    refine mx_bip 8 d_Mo_feed_42 (by decide) ?_
    refine mx_icN_ge 51 d_Mo_feed_44 (by decide) (by omega) (by omega) (fun c_44 => ?_) (fun c_44 => absurd c_44 (by omega))
    refine mx_il6 d_Mo_feed_51 ?_
    refine mx_bip 12 d_Mo_feed_53 (by decide) ?_
    refine mx_icN_ge 62 d_Mo_feed_55 (by decide) (by omega) (by omega) (fun c_55 => ?_) (fun c_55 => absurd c_55 (by omega))
    refine mx_il6 d_Mo_feed_62 ?_
    refine mx_bip 16 d_Mo_feed_64 (by decide) ?_
    refine mx_icN_ge 74 d_Mo_feed_66 (by decide) (by omega) (by omega) (fun c_66 => absurd c_66 (by omega)) (fun c_66 => ?_)
    refine mx_il4 d_Mo_feed_69 ?_
    refine mx_goto 76 d_Mo_feed_71 (by decide) ?_
    refine mx_is7 d_Mo_feed_76 ?_
    refine mx_al0 d_Mo_feed_78 ?_
    refine mx_getR d_Mo_feed_79 fl_Mo_22 (by assumption) (by assumption) ?_
    refine mx_al0 d_Mo_feed_82 ?_
    refine mx_getI d_Mo_feed_83 fl_Mo_81 (by assumption) ?_
    refine mx_ti (y := nI (L + 14)) (vs_upx) ?_
    refine mx_il7 d_Mo_feed_86 ?_
    refine mx_bip 24 d_Mo_feed_88 (by decide) ?_
    refine mx_bip 8 d_Mo_feed_90 (by decide) ?_
    refine mx_il6 d_Mo_feed_92 ?_
    refine mx_in_4 d_Mo_feed_94 ?_
    refine mx_irem d_Mo_feed_95 (by decide) ?_
    refine mx_ti (y := nI (2)) (by decide) ?_
    refine mx_imulN d_Mo_feed_96 ?_
    refine mx_isubN d_Mo_feed_97 (by omega) ?_
    refine mx_iushr d_Mo_feed_98 ?_
    refine mx_sip 255 d_Mo_feed_99 (by decide) ?_
    refine mx_iand d_Mo_feed_102 ?_
    refine mx_iast d_Mo_feed_103 (by assumption) (nI_inb (by omega) (by omega)) ?_
    rw [nI_clamp (by omega)]
    refine mx_al0 d_Mo_feed_104 ?_
    refine mx_dup d_Mo_feed_105 rfl ?_
    refine mx_getI d_Mo_feed_106 fl_Mo_81 (by assumption) ?_
    refine mx_ti (y := nI (L + 14)) (by rw [mx_up_ne (by omega)]; exact vs_upx) ?_
    refine mx_in_1 d_Mo_feed_109 ?_
    refine mx_iaddN d_Mo_feed_110 ?_
    refine mx_putI d_Mo_feed_111 fl_Mo_81 (by assumption) ?_
    refine mx_ii6 (v := 1) d_Mo_feed_114 rfl ?_
    rw [show (nI (14) + 1 : Int32) = nI (15) from by decide]
    refine mx_goto 23 d_Mo_feed_117 (by decide) ?_
    refine mx_il6 d_Mo_feed_23 ?_
    refine mx_bip 20 d_Mo_feed_25 (by decide) ?_
    refine mx_icN_ge 120 d_Mo_feed_27 (by decide) (by omega) (by omega) (fun c_27 => absurd c_27 (by omega)) (fun c_27 => ?_)
    refine mx_il6 d_Mo_feed_30 ?_
    refine mx_in_4 d_Mo_feed_32 ?_
    refine mx_icN_ge 40 d_Mo_feed_33 (by decide) (by omega) (by omega) (fun c_33 => ?_) (fun c_33 => absurd c_33 (by omega))
    refine mx_il6 d_Mo_feed_40 ?_
    refine mx_bip 8 d_Mo_feed_42 (by decide) ?_
    refine mx_icN_ge 51 d_Mo_feed_44 (by decide) (by omega) (by omega) (fun c_44 => ?_) (fun c_44 => absurd c_44 (by omega))
    refine mx_il6 d_Mo_feed_51 ?_
    refine mx_bip 12 d_Mo_feed_53 (by decide) ?_
    refine mx_icN_ge 62 d_Mo_feed_55 (by decide) (by omega) (by omega) (fun c_55 => ?_) (fun c_55 => absurd c_55 (by omega))
    refine mx_il6 d_Mo_feed_62 ?_
    refine mx_bip 16 d_Mo_feed_64 (by decide) ?_
    refine mx_icN_ge 74 d_Mo_feed_66 (by decide) (by omega) (by omega) (fun c_66 => absurd c_66 (by omega)) (fun c_66 => ?_)
    refine mx_il4 d_Mo_feed_69 ?_
    refine mx_goto 76 d_Mo_feed_71 (by decide) ?_
    refine mx_is7 d_Mo_feed_76 ?_
    refine mx_al0 d_Mo_feed_78 ?_
    refine mx_getR d_Mo_feed_79 fl_Mo_22 (by assumption) (by assumption) ?_
    refine mx_al0 d_Mo_feed_82 ?_
    refine mx_getI d_Mo_feed_83 fl_Mo_81 (by assumption) ?_
    refine mx_ti (y := nI (L + 15)) (vs_upx) ?_
    refine mx_il7 d_Mo_feed_86 ?_
    refine mx_bip 24 d_Mo_feed_88 (by decide) ?_
    refine mx_bip 8 d_Mo_feed_90 (by decide) ?_
    refine mx_il6 d_Mo_feed_92 ?_
    refine mx_in_4 d_Mo_feed_94 ?_
    refine mx_irem d_Mo_feed_95 (by decide) ?_
    refine mx_ti (y := nI (3)) (by decide) ?_
    refine mx_imulN d_Mo_feed_96 ?_
    refine mx_isubN d_Mo_feed_97 (by omega) ?_
    refine mx_iushr d_Mo_feed_98 ?_
    refine mx_sip 255 d_Mo_feed_99 (by decide) ?_
    refine mx_iand d_Mo_feed_102 ?_
    refine mx_iast d_Mo_feed_103 (by assumption) (nI_inb (by omega) (by omega)) ?_
    rw [nI_clamp (by omega)]
    refine mx_al0 d_Mo_feed_104 ?_
    refine mx_dup d_Mo_feed_105 rfl ?_
    refine mx_getI d_Mo_feed_106 fl_Mo_81 (by assumption) ?_
    refine mx_ti (y := nI (L + 15)) (by rw [mx_up_ne (by omega)]; exact vs_upx) ?_
    refine mx_in_1 d_Mo_feed_109 ?_
    refine mx_iaddN d_Mo_feed_110 ?_
    refine mx_putI d_Mo_feed_111 fl_Mo_81 (by assumption) ?_
    refine mx_ii6 (v := 1) d_Mo_feed_114 rfl ?_
    rw [show (nI (15) + 1 : Int32) = nI (16) from by decide]
    refine mx_goto 23 d_Mo_feed_117 (by decide) ?_
    refine mx_il6 d_Mo_feed_23 ?_
    refine mx_bip 20 d_Mo_feed_25 (by decide) ?_
    refine mx_icN_ge 120 d_Mo_feed_27 (by decide) (by omega) (by omega) (fun c_27 => absurd c_27 (by omega)) (fun c_27 => ?_)
    refine mx_il6 d_Mo_feed_30 ?_
    refine mx_in_4 d_Mo_feed_32 ?_
    refine mx_icN_ge 40 d_Mo_feed_33 (by decide) (by omega) (by omega) (fun c_33 => ?_) (fun c_33 => absurd c_33 (by omega))
    refine mx_il6 d_Mo_feed_40 ?_
    refine mx_bip 8 d_Mo_feed_42 (by decide) ?_
    refine mx_icN_ge 51 d_Mo_feed_44 (by decide) (by omega) (by omega) (fun c_44 => ?_) (fun c_44 => absurd c_44 (by omega))
    refine mx_il6 d_Mo_feed_51 ?_
    refine mx_bip 12 d_Mo_feed_53 (by decide) ?_
    refine mx_icN_ge 62 d_Mo_feed_55 (by decide) (by omega) (by omega) (fun c_55 => ?_) (fun c_55 => absurd c_55 (by omega))
    refine mx_il6 d_Mo_feed_62 ?_
    refine mx_bip 16 d_Mo_feed_64 (by decide) ?_
    refine mx_icN_ge 74 d_Mo_feed_66 (by decide) (by omega) (by omega) (fun c_66 => ?_) (fun c_66 => absurd c_66 (by omega))
    refine mx_il5 d_Mo_feed_74 ?_
    refine mx_is7 d_Mo_feed_76 ?_
    refine mx_al0 d_Mo_feed_78 ?_
    refine mx_getR d_Mo_feed_79 fl_Mo_22 (by assumption) (by assumption) ?_
    refine mx_al0 d_Mo_feed_82 ?_
    refine mx_getI d_Mo_feed_83 fl_Mo_81 (by assumption) ?_
    refine mx_ti (y := nI (L + 16)) (vs_upx) ?_
    refine mx_il7 d_Mo_feed_86 ?_
    refine mx_bip 24 d_Mo_feed_88 (by decide) ?_
    refine mx_bip 8 d_Mo_feed_90 (by decide) ?_
    refine mx_il6 d_Mo_feed_92 ?_
    refine mx_in_4 d_Mo_feed_94 ?_
    refine mx_irem d_Mo_feed_95 (by decide) ?_
    refine mx_ti (y := nI (0)) (by decide) ?_
    refine mx_imulN d_Mo_feed_96 ?_
    refine mx_isubN d_Mo_feed_97 (by omega) ?_
    refine mx_iushr d_Mo_feed_98 ?_
    refine mx_sip 255 d_Mo_feed_99 (by decide) ?_
    refine mx_iand d_Mo_feed_102 ?_
    refine mx_iast d_Mo_feed_103 (by assumption) (nI_inb (by omega) (by omega)) ?_
    rw [nI_clamp (by omega)]
    refine mx_al0 d_Mo_feed_104 ?_
    refine mx_dup d_Mo_feed_105 rfl ?_
    refine mx_getI d_Mo_feed_106 fl_Mo_81 (by assumption) ?_
    refine mx_ti (y := nI (L + 16)) (by rw [mx_up_ne (by omega)]; exact vs_upx) ?_
    refine mx_in_1 d_Mo_feed_109 ?_
    refine mx_iaddN d_Mo_feed_110 ?_
    refine mx_putI d_Mo_feed_111 fl_Mo_81 (by assumption) ?_
    refine mx_ii6 (v := 1) d_Mo_feed_114 rfl ?_
    rw [show (nI (16) + 1 : Int32) = nI (17) from by decide]
    refine mx_goto 23 d_Mo_feed_117 (by decide) ?_
    refine mx_il6 d_Mo_feed_23 ?_
    refine mx_bip 20 d_Mo_feed_25 (by decide) ?_
    refine mx_icN_ge 120 d_Mo_feed_27 (by decide) (by omega) (by omega) (fun c_27 => absurd c_27 (by omega)) (fun c_27 => ?_)
    refine mx_il6 d_Mo_feed_30 ?_
    refine mx_in_4 d_Mo_feed_32 ?_
    refine mx_icN_ge 40 d_Mo_feed_33 (by decide) (by omega) (by omega) (fun c_33 => ?_) (fun c_33 => absurd c_33 (by omega))
    refine mx_il6 d_Mo_feed_40 ?_
    refine mx_bip 8 d_Mo_feed_42 (by decide) ?_
    refine mx_icN_ge 51 d_Mo_feed_44 (by decide) (by omega) (by omega) (fun c_44 => ?_) (fun c_44 => absurd c_44 (by omega))
    refine mx_il6 d_Mo_feed_51 ?_
    refine mx_bip 12 d_Mo_feed_53 (by decide) ?_
    refine mx_icN_ge 62 d_Mo_feed_55 (by decide) (by omega) (by omega) (fun c_55 => ?_) (fun c_55 => absurd c_55 (by omega))
    refine mx_il6 d_Mo_feed_62 ?_
    refine mx_bip 16 d_Mo_feed_64 (by decide) ?_
    refine mx_icN_ge 74 d_Mo_feed_66 (by decide) (by omega) (by omega) (fun c_66 => ?_) (fun c_66 => absurd c_66 (by omega))
    refine mx_il5 d_Mo_feed_74 ?_
    refine mx_is7 d_Mo_feed_76 ?_
    refine mx_al0 d_Mo_feed_78 ?_
    refine mx_getR d_Mo_feed_79 fl_Mo_22 (by assumption) (by assumption) ?_
    refine mx_al0 d_Mo_feed_82 ?_
    refine mx_getI d_Mo_feed_83 fl_Mo_81 (by assumption) ?_
    refine mx_ti (y := nI (L + 17)) (vs_upx) ?_
    refine mx_il7 d_Mo_feed_86 ?_
    refine mx_bip 24 d_Mo_feed_88 (by decide) ?_
    refine mx_bip 8 d_Mo_feed_90 (by decide) ?_
    refine mx_il6 d_Mo_feed_92 ?_
    refine mx_in_4 d_Mo_feed_94 ?_
    refine mx_irem d_Mo_feed_95 (by decide) ?_
    refine mx_ti (y := nI (1)) (by decide) ?_
    refine mx_imulN d_Mo_feed_96 ?_
    refine mx_isubN d_Mo_feed_97 (by omega) ?_
    refine mx_iushr d_Mo_feed_98 ?_
    refine mx_sip 255 d_Mo_feed_99 (by decide) ?_
    refine mx_iand d_Mo_feed_102 ?_
    refine mx_iast d_Mo_feed_103 (by assumption) (nI_inb (by omega) (by omega)) ?_
    rw [nI_clamp (by omega)]
    refine mx_al0 d_Mo_feed_104 ?_
    refine mx_dup d_Mo_feed_105 rfl ?_
    refine mx_getI d_Mo_feed_106 fl_Mo_81 (by assumption) ?_
    refine mx_ti (y := nI (L + 17)) (by rw [mx_up_ne (by omega)]; exact vs_upx) ?_
    refine mx_in_1 d_Mo_feed_109 ?_
    refine mx_iaddN d_Mo_feed_110 ?_
    refine mx_putI d_Mo_feed_111 fl_Mo_81 (by assumption) ?_
    refine mx_ii6 (v := 1) d_Mo_feed_114 rfl ?_
    rw [show (nI (17) + 1 : Int32) = nI (18) from by decide]
    refine mx_goto 23 d_Mo_feed_117 (by decide) ?_
    refine mx_il6 d_Mo_feed_23 ?_
    refine mx_bip 20 d_Mo_feed_25 (by decide) ?_
    refine mx_icN_ge 120 d_Mo_feed_27 (by decide) (by omega) (by omega) (fun c_27 => absurd c_27 (by omega)) (fun c_27 => ?_)
    refine mx_il6 d_Mo_feed_30 ?_
    refine mx_in_4 d_Mo_feed_32 ?_
    refine mx_icN_ge 40 d_Mo_feed_33 (by decide) (by omega) (by omega) (fun c_33 => ?_) (fun c_33 => absurd c_33 (by omega))
    refine mx_il6 d_Mo_feed_40 ?_
    refine mx_bip 8 d_Mo_feed_42 (by decide) ?_
    refine mx_icN_ge 51 d_Mo_feed_44 (by decide) (by omega) (by omega) (fun c_44 => ?_) (fun c_44 => absurd c_44 (by omega))
    refine mx_il6 d_Mo_feed_51 ?_
    refine mx_bip 12 d_Mo_feed_53 (by decide) ?_
    refine mx_icN_ge 62 d_Mo_feed_55 (by decide) (by omega) (by omega) (fun c_55 => ?_) (fun c_55 => absurd c_55 (by omega))
    refine mx_il6 d_Mo_feed_62 ?_
    refine mx_bip 16 d_Mo_feed_64 (by decide) ?_
    refine mx_icN_ge 74 d_Mo_feed_66 (by decide) (by omega) (by omega) (fun c_66 => ?_) (fun c_66 => absurd c_66 (by omega))
    refine mx_il5 d_Mo_feed_74 ?_
    refine mx_is7 d_Mo_feed_76 ?_
    refine mx_al0 d_Mo_feed_78 ?_
    refine mx_getR d_Mo_feed_79 fl_Mo_22 (by assumption) (by assumption) ?_
    refine mx_al0 d_Mo_feed_82 ?_
    refine mx_getI d_Mo_feed_83 fl_Mo_81 (by assumption) ?_
    refine mx_ti (y := nI (L + 18)) (vs_upx) ?_
    refine mx_il7 d_Mo_feed_86 ?_
    refine mx_bip 24 d_Mo_feed_88 (by decide) ?_
    refine mx_bip 8 d_Mo_feed_90 (by decide) ?_
    refine mx_il6 d_Mo_feed_92 ?_
    refine mx_in_4 d_Mo_feed_94 ?_
    refine mx_irem d_Mo_feed_95 (by decide) ?_
    refine mx_ti (y := nI (2)) (by decide) ?_
    refine mx_imulN d_Mo_feed_96 ?_
    refine mx_isubN d_Mo_feed_97 (by omega) ?_
    refine mx_iushr d_Mo_feed_98 ?_
    refine mx_sip 255 d_Mo_feed_99 (by decide) ?_
    refine mx_iand d_Mo_feed_102 ?_
    refine mx_iast d_Mo_feed_103 (by assumption) (nI_inb (by omega) (by omega)) ?_
    rw [nI_clamp (by omega)]
    refine mx_al0 d_Mo_feed_104 ?_
    refine mx_dup d_Mo_feed_105 rfl ?_
    refine mx_getI d_Mo_feed_106 fl_Mo_81 (by assumption) ?_
    refine mx_ti (y := nI (L + 18)) (by rw [mx_up_ne (by omega)]; exact vs_upx) ?_
    refine mx_in_1 d_Mo_feed_109 ?_
    refine mx_iaddN d_Mo_feed_110 ?_
    refine mx_putI d_Mo_feed_111 fl_Mo_81 (by assumption) ?_
    refine mx_ii6 (v := 1) d_Mo_feed_114 rfl ?_
    rw [show (nI (18) + 1 : Int32) = nI (19) from by decide]
    refine mx_goto 23 d_Mo_feed_117 (by decide) ?_
    refine mx_il6 d_Mo_feed_23 ?_
    refine mx_bip 20 d_Mo_feed_25 (by decide) ?_
    refine mx_icN_ge 120 d_Mo_feed_27 (by decide) (by omega) (by omega) (fun c_27 => absurd c_27 (by omega)) (fun c_27 => ?_)
    refine mx_il6 d_Mo_feed_30 ?_
    refine mx_in_4 d_Mo_feed_32 ?_
    refine mx_icN_ge 40 d_Mo_feed_33 (by decide) (by omega) (by omega) (fun c_33 => ?_) (fun c_33 => absurd c_33 (by omega))
    refine mx_il6 d_Mo_feed_40 ?_
    refine mx_bip 8 d_Mo_feed_42 (by decide) ?_
    refine mx_icN_ge 51 d_Mo_feed_44 (by decide) (by omega) (by omega) (fun c_44 => ?_) (fun c_44 => absurd c_44 (by omega))
    refine mx_il6 d_Mo_feed_51 ?_
    refine mx_bip 12 d_Mo_feed_53 (by decide) ?_
    refine mx_icN_ge 62 d_Mo_feed_55 (by decide) (by omega) (by omega) (fun c_55 => ?_) (fun c_55 => absurd c_55 (by omega))
    refine mx_il6 d_Mo_feed_62 ?_
    refine mx_bip 16 d_Mo_feed_64 (by decide) ?_
    refine mx_icN_ge 74 d_Mo_feed_66 (by decide) (by omega) (by omega) (fun c_66 => ?_) (fun c_66 => absurd c_66 (by omega))
    refine mx_il5 d_Mo_feed_74 ?_
    refine mx_is7 d_Mo_feed_76 ?_
    refine mx_al0 d_Mo_feed_78 ?_
    refine mx_getR d_Mo_feed_79 fl_Mo_22 (by assumption) (by assumption) ?_
    refine mx_al0 d_Mo_feed_82 ?_
    refine mx_getI d_Mo_feed_83 fl_Mo_81 (by assumption) ?_
    refine mx_ti (y := nI (L + 19)) (vs_upx) ?_
    refine mx_il7 d_Mo_feed_86 ?_
    refine mx_bip 24 d_Mo_feed_88 (by decide) ?_
    refine mx_bip 8 d_Mo_feed_90 (by decide) ?_
    refine mx_il6 d_Mo_feed_92 ?_
    refine mx_in_4 d_Mo_feed_94 ?_
    refine mx_irem d_Mo_feed_95 (by decide) ?_
    refine mx_ti (y := nI (3)) (by decide) ?_
    refine mx_imulN d_Mo_feed_96 ?_
    refine mx_isubN d_Mo_feed_97 (by omega) ?_
    refine mx_iushr d_Mo_feed_98 ?_
    refine mx_sip 255 d_Mo_feed_99 (by decide) ?_
    refine mx_iand d_Mo_feed_102 ?_
    refine mx_iast d_Mo_feed_103 (by assumption) (nI_inb (by omega) (by omega)) ?_
    rw [nI_clamp (by omega)]
    refine mx_al0 d_Mo_feed_104 ?_
    refine mx_dup d_Mo_feed_105 rfl ?_
    refine mx_getI d_Mo_feed_106 fl_Mo_81 (by assumption) ?_
    refine mx_ti (y := nI (L + 19)) (by rw [mx_up_ne (by omega)]; exact vs_upx) ?_
    refine mx_in_1 d_Mo_feed_109 ?_
    refine mx_iaddN d_Mo_feed_110 ?_
    refine mx_putI d_Mo_feed_111 fl_Mo_81 (by assumption) ?_
    refine mx_ii6 (v := 1) d_Mo_feed_114 rfl ?_
    rw [show (nI (19) + 1 : Int32) = nI (20) from by decide]
    refine mx_goto 23 d_Mo_feed_117 (by decide) ?_
    refine mx_il6 d_Mo_feed_23 ?_
    refine mx_bip 20 d_Mo_feed_25 (by decide) ?_
    refine mx_icN_ge 120 d_Mo_feed_27 (by decide) (by omega) (by omega) (fun c_27 => ?_) (fun c_27 => absurd c_27 (by omega))
    refine mx_al0 d_Mo_feed_120 ?_
    refine mx_getI d_Mo_feed_121 fl_Mo_81 (by assumption) ?_
    refine mx_ti (y := nI (L + 20)) (vs_upx) ?_
    exact mx_iret d_Mo_feed_124 rfl (mx_ri_of2 (by rw [if_pos hc]) (by rw [if_pos hc]; rfl))
  · skip
    have hc : ¬ L + 20 ≤ 400 := by omega
    refine mx_ic_m1 d_Mo_feed_18 ?_
    exact mx_iret d_Mo_feed_19 rfl (mx_ri_of2 (by rw [if_neg hc]) (by rw [if_neg hc]))
theorem vs_mo5_b {v0 v1 v2 v3 v4 : Int32} : vs_mo5 I mo L v0 v1 v2 v3 v4 (mo + 5) = vs_f5 (I (mo + 5)) L v0 v1 v2 v3 v4 := by
  have h : mo + 5 ≠ mo := by omega
  funext k
  simp only [vs_mo5, mx_up, h, false_and, true_and, if_false]
  rfl
theorem vs_mo5_o {b : Nat} {v0 v1 v2 v3 v4 : Int32} (h1 : b ≠ mo) (h2 : b ≠ mo + 5) : vs_mo5 I mo L v0 v1 v2 v3 v4 b = I b := by
  unfold vs_mo5
  simp only [mx_up_ne h1, mx_up_ne h2]
theorem vs_mo5_l {v0 v1 v2 v3 v4 : Int32} : vs_mo5 I mo L v0 v1 v2 v3 v4 mo 8 = nI (L + 20) := by simp [vs_mo5, mx_up]
theorem vs_mo5_t {v0 v1 v2 v3 v4 : Int32} : vs_mo5 I mo L v0 v1 v2 v3 v4 mo 0 = nI 0 := by simp [vs_mo5, mx_up]
theorem vs_mo5_k {v0 v1 v2 v3 v4 : Int32} {k : Nat} (h8 : k ≠ 8) (h0 : k ≠ 0) : vs_mo5 I mo L v0 v1 v2 v3 v4 mo k = I mo k := by simp [vs_mo5, mx_up, h8, h0]
end G15
