/-! THE REFERENCE'S METHODS OVER THE ROW m -/
section E14
variable {l : Launch} {E : mx_Env} {t : Nat} {S : mx_S} {I : mx_I} {P : mx_P} {J : mx_G} {m : Nat → Int32} {x mo H G : Nat}
theorem vs_hm {a k : Nat} {v : Int32} (hm : I (mo + 1) = m) (ha : a ≠ mo + 1 := by omega) : mx_up I a k v (mo + 1) = m := (mx_up_ne (Ne.symm ha)).trans hm
theorem vs_upx {a k : Nat} {v : Int32} : mx_up I a k v a k = v := by simp [mx_up]
theorem cm_of (hM : mo_ok S P mo) (hm : I (mo + 1) = m) {h k : Nat} (hh : h < 8) (hk : k < 4) : mx_C l E M_Mo_of 1 0 0 [.ref (mo), .int (nI (h)), .int (nI (k))] (t, S, I, P, J) (mx_ri (m (11 + 4 * h + k)) (t, S, I, P, J)) := by subst hm; exact c_Mo_of hM hh hk
theorem cm_ofGuest (hM : mo_ok S P mo) (hm : I (mo + 1) = m) {g k : Nat} (hg : g < 8) (hk : k < 3) : mx_C l E M_Mo_ofGuest 1 0 0 [.ref (mo), .int (nI (g)), .int (nI (k))] (t, S, I, P, J) (mx_ri (m (43 + 3 * g + k)) (t, S, I, P, J)) := by subst hm; exact c_Mo_ofGuest hM hg hk
theorem cm_rankOf (hM : mo_ok S P mo) (hm : I (mo + 1) = m) {h g : Nat} (hh : h < 8) (hg : g < 8) : mx_C l E M_Mo_rankOf 1 0 0 [.ref (mo), .int (nI (h)), .int (nI (g))] (t, S, I, P, J) (mx_ri (m (67 + 8 * h + g)) (t, S, I, P, J)) := by subst hm; exact c_Mo_rankOf hM hh hg
theorem cm_lovedOf (hM : mo_ok S P mo) (hm : I (mo + 1) = m) {h g : Nat} (hh : h < 8) (hg : g < 8) : mx_C l E M_Mo_lovedOf 1 0 0 [.ref (mo), .int (nI (h)), .int (nI (g))] (t, S, I, P, J) (mx_ri (m (131 + 8 * g + h)) (t, S, I, P, J)) := by subst hm; exact c_Mo_lovedOf hM hh hg
theorem cm_bookedIn (hM : mo_ok S P mo) (hm : I (mo + 1) = m) {h q : Nat} (hh : h < 8) (hq : q < 8) : mx_C l E M_Mo_bookedIn 1 0 0 [.ref (mo), .int (nI (h)), .int (nI (q))] (t, S, I, P, J) (mx_ri (m (195 + 8 * h + q)) (t, S, I, P, J)) := by subst hm; exact c_Mo_bookedIn hM hh hq
theorem cm_isHost (hM : mo_ok S P mo) (hm : I (mo + 1) = m) (hH : m 3 = nI H) (hH8 : H ≤ 8) {v : Int32} : mx_C l E M_Mo_isHost 1 0 0 [.ref (mo), .int (v)] (t, S, I, P, J) (mx_ri (bI (vs_isN v H)) (t, S, I, P, J)) := by subst hm; exact c_Mo_isHost hM hH hH8
theorem cm_isGuest (hM : mo_ok S P mo) (hm : I (mo + 1) = m) (hG : m 4 = nI G) (hG8 : G ≤ 8) {v : Int32} : mx_C l E M_Mo_isGuest 1 0 0 [.ref (mo), .int (v)] (t, S, I, P, J) (mx_ri (bI (vs_isN v G)) (t, S, I, P, J)) := by subst hm; exact c_Mo_isGuest hM hG hG8
theorem cm_passes (hM : mo_ok S P mo) (hm : I (mo + 1) = m) {v : Int32} : mx_C l E M_Mo_passes 1 0 0 [.ref (mo), .int (v)] (t, S, I, P, J) (mx_ri (bI (vs_pass m v)) (t, S, I, P, J)) := by subst hm; exact c_Mo_passes hM 
theorem cm_mayMeet (hM : mo_ok S P mo) (hm : I (mo + 1) = m) {h g : Nat} (hh : h < 8) (hg : g < 8) : mx_C l E M_Mo_mayMeet 2 0 0 [.ref (mo), .int (nI (h)), .int (nI (g))] (t, S, I, P, J) (mx_ri (bI (vs_may m h g)) (t, S, I, P, J)) := by subst hm; exact c_Mo_mayMeet hM hh hg
theorem cm_canMeet (hM : mo_ok S P mo) (hm : I (mo + 1) = m) {h g q : Nat} (hh : h < 8) (hg : g < 8) (hq : q < 8) : mx_C l E M_Mo_canMeet 3 0 0 [.ref (mo), .int (nI (h)), .int (nI (g)), .int (nI (q))] (t, S, I, P, J) (mx_ri (bI (vs_can m h g q)) (t, S, I, P, J)) := by subst hm; exact c_Mo_canMeet hM hh hg hq
theorem cm_freeOf (hM : mo_ok S P mo) (hm : I (mo + 1) = m) {h : Nat} (hh : h < 8) : mx_C l E M_Mo_freeOf 2 0 0 [.ref (mo), .int (nI (h))] (t, S, I, P, J) (mx_ri (vs_freeK m h 8) (t, S, I, P, J)) := by subst hm; exact c_Mo_freeOf hM hh
theorem cm_seesOf (hM : mo_ok S P mo) (hm : I (mo + 1) = m) {h : Nat} (hh : h < 8) : mx_C l E M_Mo_seesOf 2 0 0 [.ref (mo), .int (nI (h))] (t, S, I, P, J) (mx_ri (vs_seesK m h 8) (t, S, I, P, J)) := by subst hm; exact c_Mo_seesOf hM hh
theorem cm_busyOf (hM : mo_ok S P mo) (hm : I (mo + 1) = m) (hH : m 3 = nI H) (hH8 : H ≤ 8) {v : Int32} : mx_C l E M_Mo_busyOf 2 0 0 [.ref (mo), .int (v)] (t, S, I, P, J) (mx_ri (vs_busyK m v H) (t, S, I, P, J)) := by subst hm; exact c_Mo_busyOf hM hH hH8
theorem cm_likedOf (hM : mo_ok S P mo) (hm : I (mo + 1) = m) (hH : m 3 = nI H) (hH8 : H ≤ 8) {g : Nat} (hg : g < 8) : mx_C l E M_Mo_likedOf 2 0 0 [.ref (mo), .int (nI (g))] (t, S, I, P, J) (mx_ri (vs_likedK m g H) (t, S, I, P, J)) := by subst hm; exact c_Mo_likedOf hM hH hH8 hg
theorem cm_gladness (hM : mo_ok S P mo) (hm : I (mo + 1) = m) (hH : m 3 = nI H) (hH8 : H ≤ 8) : mx_C l E M_Mo_gladness 2 0 0 [.ref (mo)] (t, S, I, P, J) (mx_ri (vs_gladK m H) (t, S, I, P, J)) := by subst hm; exact c_Mo_gladness hM hH hH8
def vs_isM3 (v w u : Int32) (H G : Nat) : Bool := vs_isN v H && (vs_isN w G && vs_isN u 8)
theorem vs_isM {v w u : Int32} (h : vs_isM3 v w u H G = true) (hH8 : H ≤ 8 := by omega) (hG8 : G ≤ 8 := by omega) : (∃ h, h < H ∧ v = nI h) ∧ (∃ g, g < G ∧ w = nI g) ∧ (∃ q, q < 8 ∧ u = nI q) := by
  simp only [vs_isM3, Bool.and_eq_true] at h
  exact ⟨vs_isN_of (by omega) h.1, vs_isN_of (by omega) h.2.1, vs_isN_of (by omega) h.2.2⟩
theorem c_needMeeting (htr : l.stackTraces = false) (hV : vh_ok S P x) (hSt : st_ok S P (x + 23)) (hSr : st_rel I (x + 23) m) (hH : m 3 = nI H) (hH8 : H ≤ 8) (hG : m 4 = nI G) (hG8 : G ≤ 8) {v w u : Int32} : mx_C l E M_Vh_needMeeting 7 3 18 [.ref (x), .int (v), .int (w), .int (u)] (t, S, I, P, J) (mx_pv "java/lang/IndexOutOfBoundsException" (vs_isM3 v w u H G) (t, S, I, P, J)) := by
  obtain ⟨hV0, hVp0, hVp1, hVp2, hVp3, hVp4, hVp5, hVp7, hVp8, hVp9, hVp10, hVp11, hVp12, hVs15, hVs16, hVs68⟩ := id hV
  obtain ⟨hC0, hC1, hC2, hC3, hC4, hC5, hC6, hD1, hD2, hD3, hD4, hPe, hLo⟩ := id hSt
  obtain ⟨hPr, u0, u1, u2, u3, u4, u5, u6, u7, u8⟩ := id hSr
  obtain ⟨hA0, hA1, hA2, hA3, hA4, hA5, hA6, hA7, hB1, hB2, hB3, hB4, hB5, hB6, hB7⟩ := id hPe
  obtain ⟨r0, r1, r2, r3, r4, r5, r6, r7, r8⟩ := id hPr
  refine mx_C_of (ls0 := [some (.ref (x)), some (.int (v)), some (.int (w)), some (.int (u))]) (by decide +kernel) rfl rfl (Nat.le_of_ble_eq_true rfl) rfl ?_
  refine mx_al0 d_Vh_needMeeting_0 ?_
  refine mx_il1 d_Vh_needMeeting_1 ?_
  refine mx_nV1 d_Vh_needMeeting_2 (c_needHost htr hV hSt hSr hH hH8) ok_Vh_needHost ml_Vh_159 (by assumption) ⟨rfl, rfl⟩ rfl (by decide) (by decide) (by decide) (Nat.le_of_ble_eq_true rfl) (fun hb2 t9 ht => mx_pv_x (by simp_all [vs_isM3]) ht) (fun hb2 => ?_)
  refine mx_al0 d_Vh_needMeeting_5 ?_
  refine mx_il2 d_Vh_needMeeting_6 ?_
  refine mx_nV1 d_Vh_needMeeting_7 (c_needGuest htr hV hSt hSr hG hG8) ok_Vh_needGuest ml_Vh_199 (by assumption) ⟨rfl, rfl⟩ rfl (by decide) (by decide) (by decide) (Nat.le_of_ble_eq_true rfl) (fun hb7 t9 ht => mx_pv_x (by simp_all [vs_isM3]) ht) (fun hb7 => ?_)
  refine mx_il3 d_Vh_needMeeting_10 ?_
  refine mx_nS1 d_Vh_needMeeting_11 (c_needQuarter htr ) ok_Vh_needQuarter ml_Vh_226 rfl (by decide) (by decide) (by decide) (Nat.le_of_ble_eq_true rfl) (fun hb11 t9 ht => mx_pv_x (by simp_all [vs_isM3]) ht) (fun hb11 => ?_)
  exact mx_vret d_Vh_needMeeting_14 rfl (mx_pv_r (by simp_all [vs_isM3]))
section MX3
variable {M M' : mx_M} {d d' k n pc nx idx c a : Nat} {ls : List (Option Value)} {st : List Value} {X : mx_H} {Q : mx_R → mx_H → Prop} {C : String} {b : Bool}
theorem mx_nV3M {v0 v1 v2 : Value} {q : vw_C} (hd : mx_d M pc (.invokevirtual idx) 3 nx) (hc : mx_C l E M' d' 3 18 [.ref a, v0, v1, v2] X (mx_pv C b X)) (hM : mx_okM M' 3) (hw : Cond.methodLink (mx_own M) idx (mx_y M') ∈ mx_W ∧ Cond.instanceMethod (mx_y M') ∈ mx_W ∧ Cond.selects (mx_y M').cls (mx_y M') (mx_y M') ∈ mx_W) (hs : X.2.1 a = some (0, c)) (hq : mx_cl[c]? = some q ∧ q.1 = (mx_y M').cls) (hh : mx_hh M = []) (hdd : d' + 1 ≤ d) (hk : 3 ≤ k) (hn : 18 ≤ n) (hcat : (st.map fun v => v.category).sum ≤ 8) (kx : b = false → ∀ t', X.1 ≤ t' → Q (.inr C) (t', X.2)) (kk : b = true → mx_E l E M d (k - 3) (n - 18) nx ls st X Q) : mx_E l E M d k n pc ls (v2 :: v1 :: v0 :: .ref a :: st) X Q :=
  mx_callV (k2 := k - 3) (n2 := n - 18) hd hc hM hw hs hq rfl rfl hcat hdd (by omega) (by omega) (fun w X9 h => by rcases h with ⟨h0, h1, rfl⟩ | ⟨-, h1, -⟩ <;> cases h1; exact kk h0) (fun C9 X9 h => by rcases h with ⟨-, h1, -⟩ | ⟨h0, h1, t, ht, rfl⟩ <;> cases h1; exact mx_out hh (kx h0 t ht))
end MX3
def sp_rank (m : Nat → Int32) (H G : Nat) (v w : Int32) (b : Bool) : Nat × Int32 := if vs_isN v H && vs_isN w G then (0, if b then m (67 + 8 * v.toNatClampNeg + w.toNatClampNeg) else m (131 + 8 * w.toNatClampNeg + v.toNatClampNeg)) else (1, nI 0)
variable {pe : Nat}
theorem c_Pe_rankB (hPe : pe_ok S P pe) (hPr : pe_rel I pe m) {h g : Nat} {b : Bool} (hh : h < 8) (hg : g < 8) : mx_C l E M_Pe_rankOf 1 0 0 [.ref (pe), .int (nI (h)), .int (nI (g)), .int (bI (b))] (t, S, I, P, J) (mx_ri (if b then m (67 + 8 * h + g) else m (131 + 8 * g + h)) (t, S, I, P, J)) := by
  obtain ⟨hA0, hA1, hA2, hA3, hA4, hA5, hA6, hA7, hB1, hB2, hB3, hB4, hB5, hB6, hB7⟩ := id hPe
  obtain ⟨r0, r1, r2, r3, r4, r5, r6, r7, r8⟩ := id hPr
  refine mx_C_of (ls0 := [some (.ref (pe)), some (.int (nI (h))), some (.int (nI (g))), some (.int (bI (b)))]) (by decide +kernel) rfl rfl (Nat.le_of_ble_eq_true rfl) rfl ?_
  refine mx_il3 d_Pe_rankOf_0 ?_
  refine mx_ifB_eq 11 d_Pe_rankOf_1 (by decide) (fun c_1 => ?_) (fun c_1 => ?_)
  · skip
    refine mx_al0 d_Pe_rankOf_11 ?_
    refine mx_getR d_Pe_rankOf_12 fl_Pe_37 (by assumption) (by assumption) ?_
    refine mx_bip 8 d_Pe_rankOf_15 (by decide) ?_
    refine mx_il1 d_Pe_rankOf_17 ?_
    refine mx_imulN d_Pe_rankOf_18 ?_
    refine mx_il2 d_Pe_rankOf_19 ?_
    refine mx_iaddN d_Pe_rankOf_20 ?_
    refine mx_cSN2i d_Pe_rankOf_21 (c_get (k := 8 * h + g) (by assumption) (by omega) (by omega)) ok_Vh_get ml_Pe_48 (by decide) (Nat.le_of_ble_eq_true rfl) ?_
    exact mx_iret d_Pe_rankOf_24 rfl (mx_ri_of (by simp [*, r7 h g hh hg, r8 h g hh hg]))
  · skip
    refine mx_al0 d_Pe_rankOf_4 ?_
    refine mx_getR d_Pe_rankOf_5 fl_Pe_34 (by assumption) (by assumption) ?_
    refine mx_goto 15 d_Pe_rankOf_8 (by decide) ?_
    refine mx_bip 8 d_Pe_rankOf_15 (by decide) ?_
    refine mx_il1 d_Pe_rankOf_17 ?_
    refine mx_imulN d_Pe_rankOf_18 ?_
    refine mx_il2 d_Pe_rankOf_19 ?_
    refine mx_iaddN d_Pe_rankOf_20 ?_
    refine mx_cSN2i d_Pe_rankOf_21 (c_get (k := 8 * h + g) (by assumption) (by omega) (by omega)) ok_Vh_get ml_Pe_48 (by decide) (Nat.le_of_ble_eq_true rfl) ?_
    exact mx_iret d_Pe_rankOf_24 rfl (mx_ri_of (by simp [*, r7 h g hh hg, r8 h g hh hg]))
theorem c_Vh_rank (htr : l.stackTraces = false) (hV : vh_ok S P x) (hSt : st_ok S P (x + 23)) (hSr : st_rel I (x + 23) m) (hH : m 3 = nI H) (hH8 : H ≤ 8) (hG : m 4 = nI G) (hG8 : G ≤ 8) {v w : Int32} {b : Bool} : mx_C l E M_Vh_rank 7 2 12 [.ref (x), .int (v), .int (w), .int (bI (b))] (t, S, I, P, J) (mx_po (fun _ => "java/lang/IndexOutOfBoundsException") (sp_rank m H G v w b) (t, S, I, P, J)) := by
  obtain ⟨hV0, hVp0, hVp1, hVp2, hVp3, hVp4, hVp5, hVp7, hVp8, hVp9, hVp10, hVp11, hVp12, hVs15, hVs16, hVs68⟩ := id hV
  obtain ⟨hC0, hC1, hC2, hC3, hC4, hC5, hC6, hD1, hD2, hD3, hD4, hPe, hLo⟩ := id hSt
  obtain ⟨hPr, u0, u1, u2, u3, u4, u5, u6, u7, u8⟩ := id hSr
  obtain ⟨hA0, hA1, hA2, hA3, hA4, hA5, hA6, hA7, hB1, hB2, hB3, hB4, hB5, hB6, hB7⟩ := id hPe
  obtain ⟨r0, r1, r2, r3, r4, r5, r6, r7, r8⟩ := id hPr
  refine mx_C_of (ls0 := [some (.ref (x)), some (.int (v)), some (.int (w)), some (.int (bI (b)))]) (by decide +kernel) rfl rfl (Nat.le_of_ble_eq_true rfl) rfl ?_
  refine mx_al0 d_Vh_rank_0 ?_
  refine mx_il1 d_Vh_rank_1 ?_
  refine mx_nV1 d_Vh_rank_2 (c_needHost htr hV hSt hSr hH hH8) ok_Vh_needHost ml_Vh_159 (by assumption) ⟨rfl, rfl⟩ rfl (by decide) (by decide) (by decide) (Nat.le_of_ble_eq_true rfl) (fun hb2 t9 ht => mx_po_x ht 0 (by simp_all [sp_rank]) rfl) (fun hb2 => ?_)
  obtain ⟨h, hhL, rfl⟩ := vs_isN_of (by omega) hb2
  have hhc : (nI h).toNatClampNeg = h := nI_clamp (by omega)
  have hhL8 : h < 8 := by omega
  refine mx_al0 d_Vh_rank_5 ?_
  refine mx_il2 d_Vh_rank_6 ?_
  refine mx_nV1 d_Vh_rank_7 (c_needGuest htr hV hSt hSr hG hG8) ok_Vh_needGuest ml_Vh_199 (by assumption) ⟨rfl, rfl⟩ rfl (by decide) (by decide) (by decide) (Nat.le_of_ble_eq_true rfl) (fun hb7 t9 ht => mx_po_x ht 0 (by simp_all [sp_rank]) rfl) (fun hb7 => ?_)
  obtain ⟨g, hgL, rfl⟩ := vs_isN_of (by omega) hb7
  have hgc : (nI g).toNatClampNeg = g := nI_clamp (by omega)
  have hgL8 : g < 8 := by omega
  refine mx_al0 d_Vh_rank_10 ?_
  refine mx_getR d_Vh_rank_11 fl_Vh_51 (by assumption) (by assumption) ?_
  refine mx_getR d_Vh_rank_14 fl_Vh_162 (by assumption) (by assumption) ?_
  refine mx_il1 d_Vh_rank_17 ?_
  refine mx_il2 d_Vh_rank_18 ?_
  refine mx_il3 d_Vh_rank_19 ?_
  refine mx_cV3i d_Vh_rank_20 (c_Pe_rankB hPe hPr (h := h) (g := g) (b := b) (by omega) (by omega)) ok_Pe_rankOf ml_Vh_222 (by assumption) ⟨rfl, rfl⟩ (by decide) (Nat.le_of_ble_eq_true rfl) ?_
  exact mx_iret d_Vh_rank_23 rfl (mx_po_i (by simp [sp_rank, *]))
theorem c_Mo_rank (hM : mo_ok S P mo) (hm : I (mo + 1) = m) (hH : m 3 = nI H) (hH8 : H ≤ 8) (hG : m 4 = nI G) (hG8 : G ≤ 8) {v w : Int32} {b : Bool} : mx_C l E M_Mo_rank 2 0 0 [.ref (mo), .int (v), .int (w), .int (bI (b))] (t, S, I, P, J) (mx_ri (sp_rank m H G v w b).2 (t, S, mx_up I (mo) 0 (nI (sp_rank m H G v w b).1), P, J)) := by
  obtain ⟨hM0, hMp1, hMp2, hMp4, hMp5, hMp7, hMp14, hMp21, hMp22, hMp23, hMp24, hMp25, hMp26, hMp27, hMs1, hMs2, hMs3, hMs4, hMs5, hMs6, hMs7, hMs8, hMs9, hMs10, hMs11, hMs12, hMs13⟩ := id hM
  refine mx_C_of (ls0 := [some (.ref (mo)), some (.int (v)), some (.int (w)), some (.int (bI (b)))]) (by decide +kernel) rfl rfl (Nat.le_of_ble_eq_true rfl) rfl ?_
  refine mx_al0 d_Mo_rank_0 ?_
  refine mx_al0 d_Mo_rank_1 ?_
  refine mx_il1 d_Mo_rank_2 ?_
  refine mx_cV1i d_Mo_rank_3 (cm_isHost hM hm hH hH8) ok_Mo_isHost ml_Mo_310 (by assumption) ⟨rfl, rfl⟩ (by decide) (Nat.le_of_ble_eq_true rfl) ?_
  refine mx_ifB_eq 17 d_Mo_rank_6 (by decide) (fun c_6 => ?_) (fun c_6 => ?_)
  · skip
    refine mx_in_1 d_Mo_rank_17 ?_
    refine mx_goto 22 d_Mo_rank_18 (by decide) ?_
    refine mx_putI d_Mo_rank_22 fl_Mo_54 (by assumption) ?_
    refine mx_al0 d_Mo_rank_25 ?_
    refine mx_getI d_Mo_rank_26 fl_Mo_54 (by assumption) ?_
    refine mx_ti (y := nI (1)) (vs_upx) ?_
    refine mx_if_le 36 d_Mo_rank_29 (by decide) (fun c_29 => absurd c_29 (by decide)) (fun c_29 => ?_)
    refine mx_in_0 d_Mo_rank_32 ?_
    refine mx_goto 55 d_Mo_rank_33 (by decide) ?_
    exact mx_iret d_Mo_rank_55 rfl (mx_ri_of2 (by simp [sp_rank, *]) (by simp [sp_rank, *]))
  · skip
    obtain ⟨h, hhL, rfl⟩ := vs_isN_of (by omega) c_6
    have hhc : (nI h).toNatClampNeg = h := nI_clamp (by omega)
    have hhL8 : h < 8 := by omega
    refine mx_al0 d_Mo_rank_9 ?_
    refine mx_il2 d_Mo_rank_10 ?_
    refine mx_cV1i d_Mo_rank_11 (cm_isGuest hM hm hG hG8) ok_Mo_isGuest ml_Mo_322 (by assumption) ⟨rfl, rfl⟩ (by decide) (Nat.le_of_ble_eq_true rfl) ?_
    refine mx_ifB_ne 21 d_Mo_rank_14 (by decide) (fun c_14 => ?_) (fun c_14 => ?_)
    · skip
      obtain ⟨g, hgL, rfl⟩ := vs_isN_of (by omega) c_14
      have hgc : (nI g).toNatClampNeg = g := nI_clamp (by omega)
      have hgL8 : g < 8 := by omega
      refine mx_in_0 d_Mo_rank_21 ?_
      refine mx_putI d_Mo_rank_22 fl_Mo_54 (by assumption) ?_
      refine mx_al0 d_Mo_rank_25 ?_
      refine mx_getI d_Mo_rank_26 fl_Mo_54 (by assumption) ?_
      refine mx_ti (y := nI (0)) (vs_upx) ?_
      refine mx_if_le 36 d_Mo_rank_29 (by decide) (fun c_29 => ?_) (fun c_29 => absurd (by decide) c_29)
      refine mx_il3 d_Mo_rank_36 ?_
      refine mx_ifB_eq 49 d_Mo_rank_37 (by decide) (fun c_37 => ?_) (fun c_37 => ?_)
      · skip
        refine mx_al0 d_Mo_rank_49 ?_
        refine mx_il1 d_Mo_rank_50 ?_
        refine mx_il2 d_Mo_rank_51 ?_
        refine mx_cV2i d_Mo_rank_52 (cm_lovedOf hM (vs_hm hm) (h := h) (g := g) (by omega) (by omega)) ok_Mo_lovedOf ml_Mo_65 (by assumption) ⟨rfl, rfl⟩ (by decide) (Nat.le_of_ble_eq_true rfl) ?_
        exact mx_iret d_Mo_rank_55 rfl (mx_ri_of2 (by simp [sp_rank, *]) (by simp [sp_rank, *]))
      · skip
        refine mx_al0 d_Mo_rank_40 ?_
        refine mx_il1 d_Mo_rank_41 ?_
        refine mx_il2 d_Mo_rank_42 ?_
        refine mx_cV2i d_Mo_rank_43 (cm_rankOf hM (vs_hm hm) (h := h) (g := g) (by omega) (by omega)) ok_Mo_rankOf ml_Mo_61 (by assumption) ⟨rfl, rfl⟩ (by decide) (Nat.le_of_ble_eq_true rfl) ?_
        refine mx_goto 55 d_Mo_rank_46 (by decide) ?_
        exact mx_iret d_Mo_rank_55 rfl (mx_ri_of2 (by simp [sp_rank, *]) (by simp [sp_rank, *]))
    · skip
      refine mx_in_1 d_Mo_rank_17 ?_
      refine mx_goto 22 d_Mo_rank_18 (by decide) ?_
      refine mx_putI d_Mo_rank_22 fl_Mo_54 (by assumption) ?_
      refine mx_al0 d_Mo_rank_25 ?_
      refine mx_getI d_Mo_rank_26 fl_Mo_54 (by assumption) ?_
      refine mx_ti (y := nI (1)) (vs_upx) ?_
      refine mx_if_le 36 d_Mo_rank_29 (by decide) (fun c_29 => absurd c_29 (by decide)) (fun c_29 => ?_)
      refine mx_in_0 d_Mo_rank_32 ?_
      refine mx_goto 55 d_Mo_rank_33 (by decide) ?_
      exact mx_iret d_Mo_rank_55 rfl (mx_ri_of2 (by simp [sp_rank, *]) (by simp [sp_rank, *]))
theorem vs_isN_le2 {x : Int32} {n : Nat} (hn : n < 1000) : (decide (nI 0 ≤ x) && decide (x ≤ nI n)) = vs_isN x (n + 1) := by
  unfold vs_isN
  have h0 : (nI 0 : Int32) = 0 := rfl
  rw [h0]
  by_cases h : 0 ≤ x
  · obtain ⟨j, hj, rfl⟩ := nI_of (x := x) (Int32.not_lt.mpr h)
    have h1 : (nI j ≤ nI n) ↔ nI j < nI (n + 1) := by
      rw [nI_leI hj (by omega), nI_ltI hj (by omega)]; omega
    simp only [h1]
  · simp [h]
theorem cm_isIn0 {x : Int32} {n : Nat} (hn : n < 1000) : mx_C l E M_Mo_isIn 0 0 0 [.int (x), .int (nI (0)), .int (nI (n))] (t, S, I, P, J) (mx_ri (bI (vs_isN x (n + 1))) (t, S, I, P, J)) := by rw [← vs_isN_le2 hn]; exact c_Mo_isIn
def sp_booked (m : Nat → Int32) (H : Nat) (v u : Int32) : Nat × Int32 := if vs_isN v H && vs_isN u 8 then (0, m (195 + 8 * v.toNatClampNeg + u.toNatClampNeg)) else (1, nI 0)
def sp_can (m : Nat → Int32) (H G : Nat) (v w u : Int32) : Nat × Int32 := if vs_isM3 v w u H G then (0, bI (vs_can m v.toNatClampNeg w.toNatClampNeg u.toNatClampNeg)) else (1, nI 0)
theorem c_Vh_booked (htr : l.stackTraces = false) (hV : vh_ok S P x) (hSt : st_ok S P (x + 23)) (hSr : st_rel I (x + 23) m) (hH : m 3 = nI H) (hH8 : H ≤ 8) {v u : Int32} : mx_C l E M_Vh_booked 7 2 12 [.ref (x), .int (v), .int (u)] (t, S, I, P, J) (mx_po (fun _ => "java/lang/IndexOutOfBoundsException") (sp_booked m H v u) (t, S, I, P, J)) := by
  obtain ⟨hV0, hVp0, hVp1, hVp2, hVp3, hVp4, hVp5, hVp7, hVp8, hVp9, hVp10, hVp11, hVp12, hVs15, hVs16, hVs68⟩ := id hV
  obtain ⟨hC0, hC1, hC2, hC3, hC4, hC5, hC6, hD1, hD2, hD3, hD4, hPe, hLo⟩ := id hSt
  obtain ⟨hPr, u0, u1, u2, u3, u4, u5, u6, u7, u8⟩ := id hSr
  obtain ⟨hA0, hA1, hA2, hA3, hA4, hA5, hA6, hA7, hB1, hB2, hB3, hB4, hB5, hB6, hB7⟩ := id hPe
  obtain ⟨r0, r1, r2, r3, r4, r5, r6, r7, r8⟩ := id hPr
  refine mx_C_of (ls0 := [some (.ref (x)), some (.int (v)), some (.int (u))]) (by decide +kernel) rfl rfl (Nat.le_of_ble_eq_true rfl) rfl ?_
  refine mx_al0 d_Vh_booked_0 ?_
  refine mx_il1 d_Vh_booked_1 ?_
  refine mx_nV1 d_Vh_booked_2 (c_needHost htr hV hSt hSr hH hH8) ok_Vh_needHost ml_Vh_159 (by assumption) ⟨rfl, rfl⟩ rfl (by decide) (by decide) (by decide) (Nat.le_of_ble_eq_true rfl) (fun hb2 t9 ht => mx_po_x ht 0 (by simp_all [sp_booked]) rfl) (fun hb2 => ?_)
  obtain ⟨h, hhL, rfl⟩ := vs_isN_of (by omega) hb2
  have hhc : (nI h).toNatClampNeg = h := nI_clamp (by omega)
  have hhL8 : h < 8 := by omega
  refine mx_il2 d_Vh_booked_5 ?_
  refine mx_nS1 d_Vh_booked_6 (c_needQuarter htr ) ok_Vh_needQuarter ml_Vh_226 rfl (by decide) (by decide) (by decide) (Nat.le_of_ble_eq_true rfl) (fun hb6 t9 ht => mx_po_x ht 0 (by simp_all [sp_booked]) rfl) (fun hb6 => ?_)
  obtain ⟨q, hqL, rfl⟩ := vs_isN_of (by omega) hb6
  have hqc : (nI q).toNatClampNeg = q := nI_clamp (by omega)
  have hqL8 : q < 8 := by omega
  refine mx_al0 d_Vh_booked_9 ?_
  refine mx_getR d_Vh_booked_10 fl_Vh_51 (by assumption) (by assumption) ?_
  refine mx_il1 d_Vh_booked_13 ?_
  refine mx_il2 d_Vh_booked_14 ?_
  refine mx_cV2i d_Vh_booked_15 (c_St_guestAt hSt hSr (h := h) (q := q) (by omega) (by omega)) ok_St_guestAt ml_Vh_229 (by assumption) ⟨rfl, rfl⟩ (by decide) (Nat.le_of_ble_eq_true rfl) ?_
  exact mx_iret d_Vh_booked_18 rfl (mx_po_i (by simp [sp_booked, *]))
theorem c_Mo_booked (hM : mo_ok S P mo) (hm : I (mo + 1) = m) (hH : m 3 = nI H) (hH8 : H ≤ 8) {v u : Int32} : mx_C l E M_Mo_booked 2 0 0 [.ref (mo), .int (v), .int (u)] (t, S, I, P, J) (mx_ri (sp_booked m H v u).2 (t, S, mx_up I (mo) 0 (nI (sp_booked m H v u).1), P, J)) := by
  obtain ⟨hM0, hMp1, hMp2, hMp4, hMp5, hMp7, hMp14, hMp21, hMp22, hMp23, hMp24, hMp25, hMp26, hMp27, hMs1, hMs2, hMs3, hMs4, hMs5, hMs6, hMs7, hMs8, hMs9, hMs10, hMs11, hMs12, hMs13⟩ := id hM
  refine mx_C_of (ls0 := [some (.ref (mo)), some (.int (v)), some (.int (u))]) (by decide +kernel) rfl rfl (Nat.le_of_ble_eq_true rfl) rfl ?_
  refine mx_al0 d_Mo_booked_0 ?_
  refine mx_al0 d_Mo_booked_1 ?_
  refine mx_il1 d_Mo_booked_2 ?_
  refine mx_cV1i d_Mo_booked_3 (cm_isHost hM hm hH hH8) ok_Mo_isHost ml_Mo_310 (by assumption) ⟨rfl, rfl⟩ (by decide) (Nat.le_of_ble_eq_true rfl) ?_
  refine mx_ifB_eq 16 d_Mo_booked_6 (by decide) (fun c_6 => ?_) (fun c_6 => ?_)
  · skip
    refine mx_in_1 d_Mo_booked_16 ?_
    refine mx_goto 21 d_Mo_booked_17 (by decide) ?_
    refine mx_putI d_Mo_booked_21 fl_Mo_54 (by assumption) ?_
    refine mx_al0 d_Mo_booked_24 ?_
    refine mx_getI d_Mo_booked_25 fl_Mo_54 (by assumption) ?_
    refine mx_ti (y := nI (1)) (vs_upx) ?_
    refine mx_if_le 35 d_Mo_booked_28 (by decide) (fun c_28 => absurd c_28 (by decide)) (fun c_28 => ?_)
    refine mx_in_0 d_Mo_booked_31 ?_
    refine mx_goto 41 d_Mo_booked_32 (by decide) ?_
    exact mx_iret d_Mo_booked_41 rfl (mx_ri_of2 (by simp [sp_booked, *]) (by simp [sp_booked, *]))
  · skip
    obtain ⟨h, hhL, rfl⟩ := vs_isN_of (by omega) c_6
    have hhc : (nI h).toNatClampNeg = h := nI_clamp (by omega)
    have hhL8 : h < 8 := by omega
    refine mx_il2 d_Mo_booked_9 ?_
    refine mx_cS1i d_Mo_booked_10 (c_Mo_isQuarter) ok_Mo_isQuarter ml_Mo_331 (by decide) (Nat.le_of_ble_eq_true rfl) ?_
    refine mx_ifB_ne 20 d_Mo_booked_13 (by decide) (fun c_13 => ?_) (fun c_13 => ?_)
    · skip
      obtain ⟨q, hqL, rfl⟩ := vs_isN_of (by omega) c_13
      have hqc : (nI q).toNatClampNeg = q := nI_clamp (by omega)
      have hqL8 : q < 8 := by omega
      refine mx_in_0 d_Mo_booked_20 ?_
      refine mx_putI d_Mo_booked_21 fl_Mo_54 (by assumption) ?_
      refine mx_al0 d_Mo_booked_24 ?_
      refine mx_getI d_Mo_booked_25 fl_Mo_54 (by assumption) ?_
      refine mx_ti (y := nI (0)) (vs_upx) ?_
      refine mx_if_le 35 d_Mo_booked_28 (by decide) (fun c_28 => ?_) (fun c_28 => absurd (by decide) c_28)
      refine mx_al0 d_Mo_booked_35 ?_
      refine mx_il1 d_Mo_booked_36 ?_
      refine mx_il2 d_Mo_booked_37 ?_
      refine mx_cV2i d_Mo_booked_38 (cm_bookedIn hM (vs_hm hm) (h := h) (q := q) (by omega) (by omega)) ok_Mo_bookedIn ml_Mo_271 (by assumption) ⟨rfl, rfl⟩ (by decide) (Nat.le_of_ble_eq_true rfl) ?_
      exact mx_iret d_Mo_booked_41 rfl (mx_ri_of2 (by simp [sp_booked, *]) (by simp [sp_booked, *]))
    · skip
      refine mx_in_1 d_Mo_booked_16 ?_
      refine mx_goto 21 d_Mo_booked_17 (by decide) ?_
      refine mx_putI d_Mo_booked_21 fl_Mo_54 (by assumption) ?_
      refine mx_al0 d_Mo_booked_24 ?_
      refine mx_getI d_Mo_booked_25 fl_Mo_54 (by assumption) ?_
      refine mx_ti (y := nI (1)) (vs_upx) ?_
      refine mx_if_le 35 d_Mo_booked_28 (by decide) (fun c_28 => absurd c_28 (by decide)) (fun c_28 => ?_)
      refine mx_in_0 d_Mo_booked_31 ?_
      refine mx_goto 41 d_Mo_booked_32 (by decide) ?_
      exact mx_iret d_Mo_booked_41 rfl (mx_ri_of2 (by simp [sp_booked, *]) (by simp [sp_booked, *]))
theorem c_Vh_can (htr : l.stackTraces = false) (hV : vh_ok S P x) (hSt : st_ok S P (x + 23)) (hSr : st_rel I (x + 23) m) (hH : m 3 = nI H) (hH8 : H ≤ 8) (hG : m 4 = nI G) (hG8 : G ≤ 8) (hk : rk_ok m) {v w u : Int32} : mx_C l E M_Vh_can 8 3 18 [.ref (x), .int (v), .int (w), .int (u)] (t, S, I, P, J) (mx_po (fun _ => "java/lang/IndexOutOfBoundsException") (sp_can m H G v w u) (t, S, I, P, J)) := by
  obtain ⟨hV0, hVp0, hVp1, hVp2, hVp3, hVp4, hVp5, hVp7, hVp8, hVp9, hVp10, hVp11, hVp12, hVs15, hVs16, hVs68⟩ := id hV
  obtain ⟨hC0, hC1, hC2, hC3, hC4, hC5, hC6, hD1, hD2, hD3, hD4, hPe, hLo⟩ := id hSt
  obtain ⟨hPr, u0, u1, u2, u3, u4, u5, u6, u7, u8⟩ := id hSr
  obtain ⟨hA0, hA1, hA2, hA3, hA4, hA5, hA6, hA7, hB1, hB2, hB3, hB4, hB5, hB6, hB7⟩ := id hPe
  obtain ⟨r0, r1, r2, r3, r4, r5, r6, r7, r8⟩ := id hPr
  refine mx_C_of (ls0 := [some (.ref (x)), some (.int (v)), some (.int (w)), some (.int (u))]) (by decide +kernel) rfl rfl (Nat.le_of_ble_eq_true rfl) rfl ?_
  refine mx_al0 d_Vh_can_0 ?_
  refine mx_il1 d_Vh_can_1 ?_
  refine mx_il2 d_Vh_can_2 ?_
  refine mx_il3 d_Vh_can_3 ?_
  refine mx_nV3M d_Vh_can_4 (c_needMeeting htr hV hSt hSr hH hH8 hG hG8) ok_Vh_needMeeting ml_Vh_233 (by assumption) ⟨rfl, rfl⟩ rfl (by decide) (by decide) (by decide) (Nat.le_of_ble_eq_true rfl) (fun hb4 t9 ht => mx_po_x ht 0 (by simp_all [sp_can]) rfl) (fun hb4 => ?_)
  obtain ⟨⟨h, hhL, rfl⟩, ⟨g, hgL, rfl⟩, ⟨q, hqL, rfl⟩⟩ := vs_isM hb4 hH8 hG8
  have hhc : (nI h).toNatClampNeg = h := nI_clamp (by omega)
  have hgc : (nI g).toNatClampNeg = g := nI_clamp (by omega)
  have hqc : (nI q).toNatClampNeg = q := nI_clamp (by omega)
  refine mx_al0 d_Vh_can_7 ?_
  refine mx_getR d_Vh_can_8 fl_Vh_51 (by assumption) (by assumption) ?_
  refine mx_getR d_Vh_can_11 fl_Vh_162 (by assumption) (by assumption) ?_
  refine mx_il1 d_Vh_can_14 ?_
  refine mx_il2 d_Vh_can_15 ?_
  refine mx_il3 d_Vh_can_16 ?_
  refine mx_cV3i d_Vh_can_17 (c_Pe_canMeet hPe hPr hk (h := h) (g := g) (q := q) (by omega) (by omega) (by omega)) ok_Pe_canMeet ml_Vh_237 (by assumption) ⟨rfl, rfl⟩ (by decide) (Nat.le_of_ble_eq_true rfl) ?_
  exact mx_zret d_Vh_can_20 rfl (bI_01 _) (mx_po_i (by simp [sp_can, *]))
theorem c_Mo_areThere (hM : mo_ok S P mo) (hm : I (mo + 1) = m) (hH : m 3 = nI H) (hH8 : H ≤ 8) (hG : m 4 = nI G) (hG8 : G ≤ 8) {v w u : Int32} : mx_C l E M_Mo_areThere 2 0 0 [.ref (mo), .int (v), .int (w), .int (u)] (t, S, I, P, J) (mx_ri (bI (vs_isM3 v w u H G)) (t, S, mx_up I (mo) 0 (nI (if vs_isM3 v w u H G then 0 else 1)), P, J)) := by
  obtain ⟨hM0, hMp1, hMp2, hMp4, hMp5, hMp7, hMp14, hMp21, hMp22, hMp23, hMp24, hMp25, hMp26, hMp27, hMs1, hMs2, hMs3, hMs4, hMs5, hMs6, hMs7, hMs8, hMs9, hMs10, hMs11, hMs12, hMs13⟩ := id hM
  refine mx_C_of (ls0 := [some (.ref (mo)), some (.int (v)), some (.int (w)), some (.int (u))]) (by decide +kernel) rfl rfl (Nat.le_of_ble_eq_true rfl) rfl ?_
  refine mx_al0 d_Mo_areThere_0 ?_
  refine mx_al0 d_Mo_areThere_1 ?_
  refine mx_il1 d_Mo_areThere_2 ?_
  refine mx_cV1i d_Mo_areThere_3 (cm_isHost hM hm hH hH8) ok_Mo_isHost ml_Mo_310 (by assumption) ⟨rfl, rfl⟩ (by decide) (Nat.le_of_ble_eq_true rfl) ?_
  refine mx_ifB_eq 24 d_Mo_areThere_6 (by decide) (fun c_6 => ?_) (fun c_6 => ?_)
  · skip
    refine mx_in_1 d_Mo_areThere_24 ?_
    refine mx_goto 29 d_Mo_areThere_25 (by decide) ?_
    refine mx_putI d_Mo_areThere_29 fl_Mo_54 (by assumption) ?_
    refine mx_al0 d_Mo_areThere_32 ?_
    refine mx_getI d_Mo_areThere_33 fl_Mo_54 (by assumption) ?_
    refine mx_ti (y := nI (1)) (vs_upx) ?_
    refine mx_if_ne 43 d_Mo_areThere_36 (by decide) (fun c_36 => ?_) (fun c_36 => absurd c_36 (by decide))
    refine mx_in_0 d_Mo_areThere_43 ?_
    exact mx_zret d_Mo_areThere_44 rfl (by first | exact Or.inl rfl | exact Or.inr rfl) (mx_ri_of2 (by simp [vs_isM3, bI, *]) (by simp [vs_isM3, bI, *]))
  · skip
    refine mx_al0 d_Mo_areThere_9 ?_
    refine mx_il2 d_Mo_areThere_10 ?_
    refine mx_cV1i d_Mo_areThere_11 (cm_isGuest hM hm hG hG8) ok_Mo_isGuest ml_Mo_322 (by assumption) ⟨rfl, rfl⟩ (by decide) (Nat.le_of_ble_eq_true rfl) ?_
    refine mx_ifB_eq 24 d_Mo_areThere_14 (by decide) (fun c_14 => ?_) (fun c_14 => ?_)
    · skip
      refine mx_in_1 d_Mo_areThere_24 ?_
      refine mx_goto 29 d_Mo_areThere_25 (by decide) ?_
      refine mx_putI d_Mo_areThere_29 fl_Mo_54 (by assumption) ?_
      refine mx_al0 d_Mo_areThere_32 ?_
      refine mx_getI d_Mo_areThere_33 fl_Mo_54 (by assumption) ?_
      refine mx_ti (y := nI (1)) (vs_upx) ?_
      refine mx_if_ne 43 d_Mo_areThere_36 (by decide) (fun c_36 => ?_) (fun c_36 => absurd c_36 (by decide))
      refine mx_in_0 d_Mo_areThere_43 ?_
      exact mx_zret d_Mo_areThere_44 rfl (by first | exact Or.inl rfl | exact Or.inr rfl) (mx_ri_of2 (by simp [vs_isM3, bI, *]) (by simp [vs_isM3, bI, *]))
    · skip
      refine mx_il3 d_Mo_areThere_17 ?_
      refine mx_cS1i d_Mo_areThere_18 (c_Mo_isQuarter) ok_Mo_isQuarter ml_Mo_331 (by decide) (Nat.le_of_ble_eq_true rfl) ?_
      refine mx_ifB_ne 28 d_Mo_areThere_21 (by decide) (fun c_21 => ?_) (fun c_21 => ?_)
      · skip
        refine mx_in_0 d_Mo_areThere_28 ?_
        refine mx_putI d_Mo_areThere_29 fl_Mo_54 (by assumption) ?_
        refine mx_al0 d_Mo_areThere_32 ?_
        refine mx_getI d_Mo_areThere_33 fl_Mo_54 (by assumption) ?_
        refine mx_ti (y := nI (0)) (vs_upx) ?_
        refine mx_if_ne 43 d_Mo_areThere_36 (by decide) (fun c_36 => absurd (by decide) c_36) (fun c_36 => ?_)
        refine mx_in_1 d_Mo_areThere_39 ?_
        refine mx_goto 44 d_Mo_areThere_40 (by decide) ?_
        exact mx_zret d_Mo_areThere_44 rfl (by first | exact Or.inl rfl | exact Or.inr rfl) (mx_ri_of2 (by simp [vs_isM3, bI, *]) (by simp [vs_isM3, bI, *]))
      · skip
        refine mx_in_1 d_Mo_areThere_24 ?_
        refine mx_goto 29 d_Mo_areThere_25 (by decide) ?_
        refine mx_putI d_Mo_areThere_29 fl_Mo_54 (by assumption) ?_
        refine mx_al0 d_Mo_areThere_32 ?_
        refine mx_getI d_Mo_areThere_33 fl_Mo_54 (by assumption) ?_
        refine mx_ti (y := nI (1)) (vs_upx) ?_
        refine mx_if_ne 43 d_Mo_areThere_36 (by decide) (fun c_36 => ?_) (fun c_36 => absurd c_36 (by decide))
        refine mx_in_0 d_Mo_areThere_43 ?_
        exact mx_zret d_Mo_areThere_44 rfl (by first | exact Or.inl rfl | exact Or.inr rfl) (mx_ri_of2 (by simp [vs_isM3, bI, *]) (by simp [vs_isM3, bI, *]))
theorem c_Mo_can (hM : mo_ok S P mo) (hm : I (mo + 1) = m) (hH : m 3 = nI H) (hH8 : H ≤ 8) (hG : m 4 = nI G) (hG8 : G ≤ 8) {v w u : Int32} : mx_C l E M_Mo_can 4 0 0 [.ref (mo), .int (v), .int (w), .int (u)] (t, S, I, P, J) (mx_ri (sp_can m H G v w u).2 (t, S, mx_up I (mo) 0 (nI (sp_can m H G v w u).1), P, J)) := by
  obtain ⟨hM0, hMp1, hMp2, hMp4, hMp5, hMp7, hMp14, hMp21, hMp22, hMp23, hMp24, hMp25, hMp26, hMp27, hMs1, hMs2, hMs3, hMs4, hMs5, hMs6, hMs7, hMs8, hMs9, hMs10, hMs11, hMs12, hMs13⟩ := id hM
  refine mx_C_of (ls0 := [some (.ref (mo)), some (.int (v)), some (.int (w)), some (.int (u))]) (by decide +kernel) rfl rfl (Nat.le_of_ble_eq_true rfl) rfl ?_
  refine mx_al0 d_Mo_can_0 ?_
  refine mx_il1 d_Mo_can_1 ?_
  refine mx_il2 d_Mo_can_2 ?_
  refine mx_il3 d_Mo_can_3 ?_
  refine mx_cV3i d_Mo_can_4 (c_Mo_areThere hM hm hH hH8 hG hG8) ok_Mo_areThere ml_Mo_334 (by assumption) ⟨rfl, rfl⟩ (by decide) (Nat.le_of_ble_eq_true rfl) ?_
  refine mx_ifB_eq 24 d_Mo_can_7 (by decide) (fun c_7 => ?_) (fun c_7 => ?_)
  · skip
    refine mx_in_0 d_Mo_can_24 ?_
    exact mx_zret d_Mo_can_25 rfl (by first | exact Or.inl rfl | exact Or.inr rfl) (mx_ri_of2 (by simp [sp_can, bI, *]) (by simp [sp_can, bI, *]))
  · skip
    obtain ⟨⟨h, hhL, rfl⟩, ⟨g, hgL, rfl⟩, ⟨q, hqL, rfl⟩⟩ := vs_isM c_7 hH8 hG8
    have hhc : (nI h).toNatClampNeg = h := nI_clamp (by omega)
    have hgc : (nI g).toNatClampNeg = g := nI_clamp (by omega)
    have hqc : (nI q).toNatClampNeg = q := nI_clamp (by omega)
    refine mx_al0 d_Mo_can_10 ?_
    refine mx_il1 d_Mo_can_11 ?_
    refine mx_il2 d_Mo_can_12 ?_
    refine mx_il3 d_Mo_can_13 ?_
    refine mx_cV3i d_Mo_can_14 (cm_canMeet hM (vs_hm hm) (h := h) (g := g) (q := q) (by omega) (by omega) (by omega)) ok_Mo_canMeet ml_Mo_280 (by assumption) ⟨rfl, rfl⟩ (by decide) (Nat.le_of_ble_eq_true rfl) ?_
    refine mx_ifB_eq 24 d_Mo_can_17 (by decide) (fun c_17 => ?_) (fun c_17 => ?_)
    · skip
      refine mx_in_0 d_Mo_can_24 ?_
      exact mx_zret d_Mo_can_25 rfl (by first | exact Or.inl rfl | exact Or.inr rfl) (mx_ri_of2 (by simp [sp_can, bI, *]) (by simp [sp_can, bI, *]))
    · skip
      refine mx_in_1 d_Mo_can_20 ?_
      refine mx_goto 25 d_Mo_can_21 (by decide) ?_
      exact mx_zret d_Mo_can_25 rfl (by first | exact Or.inl rfl | exact Or.inr rfl) (mx_ri_of2 (by simp [sp_can, bI, *]) (by simp [sp_can, bI, *]))
def gl_ok (m : Nat → Int32) : Prop := ∀ h, h < 8 → ∃ a, a ≤ 999 ∧ m (11 + 4 * h + 2) = nI a
theorem vs_gladN (hg : gl_ok m) {n : Nat} (hn : n ≤ 8) : ∃ a, a ≤ 999 * n ∧ vs_gladK m n = nI a := by
  induction n with
  | zero => exact ⟨0, by omega, rfl⟩
  | succ n ih =>
    obtain ⟨a, h1, h2⟩ := ih (by omega)
    obtain ⟨b, h3, h4⟩ := hg n (by omega)
    refine ⟨a + b, by omega, ?_⟩
    show vs_gladK m n + m (11 + 4 * n + 2) = _
    rw [h2, h4, nI_add]
theorem vs_nI64 {a : Nat} (ha : a < 2 ^ 31) : (nI a).toInt64.toInt = a := by
  rw [Int32.toInt_toInt64, nI_toInt ha]
theorem vs_shareQ {a b : Nat} (ha : a ≤ 999) (hb : b < 10000) : (vs_div (100 * (nI a).toInt64) ((nI b).toInt64)).toInt32 = if nI b = 0 then 0 else nI 100 * nI a / nI b := by
  unfold vs_div
  by_cases h0 : b = 0
  · subst h0; rfl
  · have h1 : ¬ nI b = 0 := by
      intro h
      have := congrArg Int32.toInt h
      rw [nI_toInt (by omega)] at this
      simp at this
      omega
    have h2 : ¬ (nI b).toInt64 = 0 := by
      intro h
      have := congrArg Int64.toInt h
      rw [vs_nI64 (by omega)] at this
      simp at this
      omega
    rw [if_neg h1, if_neg h2]
    have e : (100 * (nI a).toInt64).toInt = 100 * a := by
      rw [Int64.toInt_mul, vs_nI64 (by omega)]
      have : (100 : Int64).toInt = 100 := by decide
      rw [this]
      exact Int.bmod_eq_of_le (by omega) (by omega)
    have e2 : (100 * (nI a).toInt64 / (nI b).toInt64).toInt = ((100 * a / b : Nat) : Int) := by
      rw [Int64.toInt_div, e, vs_nI64 (by omega), Int.tdiv_eq_ediv_of_nonneg (by omega)]
      have h4 : (100 * (a : Int) / (b : Int)) = ((100 * a / b : Nat) : Int) := by simp
      rw [h4]
      obtain ⟨q, hq, e9⟩ : ∃ q, q ≤ 100 * a ∧ 100 * a / b = q := ⟨_, Nat.div_le_self _ _, rfl⟩
      rw [e9]
      exact Int.bmod_eq_of_le (by omega) (by omega)
    have h3 : 100 * a / b ≤ 100 * a := Nat.div_le_self _ _
    apply Int32.toInt_inj.mp
    rw [nI_mul, Int32.toInt_div, nI_toInt (by omega), nI_toInt (by omega), Int64.toInt_toInt32, e2, Int.tdiv_eq_ediv_of_nonneg (by omega)]
    have h4 : (((100 * a : Nat) : Int) / (b : Int)) = ((100 * a / b : Nat) : Int) := by simp
    rw [h4]
def vs_share (m : Nat → Int32) (h H : Nat) : Int32 := if vs_gladK m H = 0 then nI 0 else nI 100 * m (11 + 4 * h + 2) / vs_gladK m H
def sp_hostV (m : Nat → Int32) (H h k : Nat) : Int32 := if k < 4 then m (11 + 4 * h + k) else if k = 4 then vs_freeK m h 8 else if k = 5 then vs_seesK m h 8 else vs_share m h H
def sp_host (m : Nat → Int32) (H : Nat) (v w : Int32) : Nat × Int32 := if vs_isN v H then (if vs_isN w 7 then (0, sp_hostV m H v.toNatClampNeg w.toNatClampNeg) else (2, nI 0)) else (1, nI 0)
theorem vs_share_of (hgl : gl_ok m) {h : Nat} (hh : h < 8) (hH8 : H ≤ 8) : (vs_div (100 * (m (11 + 4 * h + 2)).toInt64) (vs_gladK m H).toInt64).toInt32 = vs_share m h H := by
  obtain ⟨a, ha, e⟩ := hgl h hh
  obtain ⟨b, hb, e2⟩ := vs_gladN hgl hH8
  unfold vs_share
  rw [e, e2]
  exact vs_shareQ ha (by omega)
theorem c_Vh_shareOf (hV : vh_ok S P x) (hSt : st_ok S P (x + 23)) (hSr : st_rel I (x + 23) m) (hH : m 3 = nI H) (hH8 : H ≤ 8) (hgl : gl_ok m) {h : Nat} (hh : h < 8) : mx_C l E M_Vh_shareOf 3 0 0 [.ref (x), .int (nI (h))] (t, S, I, P, J) (mx_ri (vs_share m h H) (t, S, I, P, J)) := by
  obtain ⟨hV0, hVp0, hVp1, hVp2, hVp3, hVp4, hVp5, hVp7, hVp8, hVp9, hVp10, hVp11, hVp12, hVs15, hVs16, hVs68⟩ := id hV
  obtain ⟨hC0, hC1, hC2, hC3, hC4, hC5, hC6, hD1, hD2, hD3, hD4, hPe, hLo⟩ := id hSt
  obtain ⟨hPr, u0, u1, u2, u3, u4, u5, u6, u7, u8⟩ := id hSr
  obtain ⟨hA0, hA1, hA2, hA3, hA4, hA5, hA6, hA7, hB1, hB2, hB3, hB4, hB5, hB6, hB7⟩ := id hPe
  obtain ⟨r0, r1, r2, r3, r4, r5, r6, r7, r8⟩ := id hPr
  refine mx_C_of (ls0 := [some (.ref (x)), some (.int (nI (h)))]) (by decide +kernel) rfl rfl (Nat.le_of_ble_eq_true rfl) rfl ?_
  refine mx_ldc2 d_Vh_shareOf_0 cn_Vh_393 ?_
  refine mx_al0 d_Vh_shareOf_3 ?_
  refine mx_getR d_Vh_shareOf_4 fl_Vh_51 (by assumption) (by assumption) ?_
  refine mx_getR d_Vh_shareOf_7 fl_Vh_178 (by assumption) (by assumption) ?_
  refine mx_il1 d_Vh_shareOf_10 ?_
  refine mx_cS2i d_Vh_shareOf_11 (c_get (k := h) (by assumption) (by omega) (by omega)) ok_Vh_get ml_Vh_171 (by decide) (Nat.le_of_ble_eq_true rfl) ?_
  refine mx_ti (y := m (11 + 4 * h + 2)) (u6 h hh) ?_
  refine mx_i2l d_Vh_shareOf_14 ?_
  refine mx_lmul d_Vh_shareOf_15 ?_
  refine mx_al0 d_Vh_shareOf_16 ?_
  refine mx_getR d_Vh_shareOf_17 fl_Vh_51 (by assumption) (by assumption) ?_
  refine mx_cV0i d_Vh_shareOf_20 (c_St_gladnessOfAll hSt hSr hH hH8) ok_St_gladnessOfAll ml_Vh_421 (by assumption) ⟨rfl, rfl⟩ (by decide) (Nat.le_of_ble_eq_true rfl) ?_
  refine mx_i2l d_Vh_shareOf_23 ?_
  refine mx_cS2l d_Vh_shareOf_24 (c_divide) ok_Vh_divide ml_Vh_395 (by decide) (Nat.le_of_ble_eq_true rfl) ?_
  refine mx_l2i d_Vh_shareOf_27 ?_
  exact mx_iret d_Vh_shareOf_28 rfl (mx_ri_of (vs_share_of hgl hh hH8))
theorem vs_isNO {x : Int32} {n : Nat} (hn : n < 999) (h : ∀ j, j ≤ n → ¬ x = nI j) : vs_isN x (n + 1) = false := by
  cases hb : vs_isN x (n + 1)
  · rfl
  · obtain ⟨k, hk, rfl⟩ := vs_isN_of (by omega) hb
    exact absurd rfl (h k (by omega))
theorem c_Vh_host (htr : l.stackTraces = false) (hV : vh_ok S P x) (hSt : st_ok S P (x + 23)) (hSr : st_rel I (x + 23) m) (hH : m 3 = nI H) (hH8 : H ≤ 8) (hgl : gl_ok m) {v w : Int32} : mx_C l E M_Vh_host 7 2 12 [.ref (x), .int (v), .int (w)] (t, S, I, P, J) (mx_po (fun c => if c = 1 then "java/lang/IndexOutOfBoundsException" else "java/util/NoSuchElementException") (sp_host m H v w) (t, S, I, P, J)) := by
  obtain ⟨hV0, hVp0, hVp1, hVp2, hVp3, hVp4, hVp5, hVp7, hVp8, hVp9, hVp10, hVp11, hVp12, hVs15, hVs16, hVs68⟩ := id hV
  obtain ⟨hC0, hC1, hC2, hC3, hC4, hC5, hC6, hD1, hD2, hD3, hD4, hPe, hLo⟩ := id hSt
  obtain ⟨hPr, u0, u1, u2, u3, u4, u5, u6, u7, u8⟩ := id hSr
  obtain ⟨hA0, hA1, hA2, hA3, hA4, hA5, hA6, hA7, hB1, hB2, hB3, hB4, hB5, hB6, hB7⟩ := id hPe
  obtain ⟨r0, r1, r2, r3, r4, r5, r6, r7, r8⟩ := id hPr
  refine mx_C_of (ls0 := [some (.ref (x)), some (.int (v)), some (.int (w))]) (by decide +kernel) rfl rfl (Nat.le_of_ble_eq_true rfl) rfl ?_
  refine mx_al0 d_Vh_host_0 ?_
  refine mx_il1 d_Vh_host_1 ?_
  refine mx_nV1 d_Vh_host_2 (c_needHost htr hV hSt hSr hH hH8) ok_Vh_needHost ml_Vh_159 (by assumption) ⟨rfl, rfl⟩ rfl (by decide) (by decide) (by decide) (Nat.le_of_ble_eq_true rfl) (fun hb2 t9 ht => mx_po_x ht 0 (by simp_all [sp_host]) rfl) (fun hb2 => ?_)
  obtain ⟨h, hhL, rfl⟩ := vs_isN_of (by omega) hb2
  have hhc : (nI h).toNatClampNeg = h := nI_clamp (by omega)
  have hhL8 : h < 8 := by omega
  refine mx_il2 d_Vh_host_5 ?_
  by_cases k_0 : w = nI 0
  · refine mx_tabIn 48 d_Vh_host_6 (by rw [k_0]; decide) (by rw [k_0]; decide) (by rw [k_0]; rfl) (by decide) ?_
    subst k_0
    have hwc : (nI 0).toNatClampNeg = 0 := by decide
    have hwN : vs_isN (nI 0) 7 = true := by decide
    refine mx_al0 d_Vh_host_48 ?_
    refine mx_getR d_Vh_host_49 fl_Vh_51 (by assumption) (by assumption) ?_
    refine mx_getR d_Vh_host_52 fl_Vh_162 (by assumption) (by assumption) ?_
    refine mx_getR d_Vh_host_55 fl_Vh_166 (by assumption) (by assumption) ?_
    refine mx_il1 d_Vh_host_58 ?_
    refine mx_cS2i d_Vh_host_59 (c_get (k := h) (by assumption) (by omega) (by omega)) ok_Vh_get ml_Vh_171 (by decide) (Nat.le_of_ble_eq_true rfl) ?_
    exact mx_iret d_Vh_host_62 rfl (mx_po_i (by simp [sp_host, sp_hostV, hb2, hhc, hwc, hwN, r2, r3, u6, u7, hhL8]))
  by_cases k_1 : w = nI 1
  · refine mx_tabIn 63 d_Vh_host_6 (by rw [k_1]; decide) (by rw [k_1]; decide) (by rw [k_1]; rfl) (by decide) ?_
    subst k_1
    have hwc : (nI 1).toNatClampNeg = 1 := by decide
    have hwN : vs_isN (nI 1) 7 = true := by decide
    refine mx_al0 d_Vh_host_63 ?_
    refine mx_getR d_Vh_host_64 fl_Vh_51 (by assumption) (by assumption) ?_
    refine mx_getR d_Vh_host_67 fl_Vh_162 (by assumption) (by assumption) ?_
    refine mx_getR d_Vh_host_70 fl_Vh_175 (by assumption) (by assumption) ?_
    refine mx_il1 d_Vh_host_73 ?_
    refine mx_cS2i d_Vh_host_74 (c_get (k := h) (by assumption) (by omega) (by omega)) ok_Vh_get ml_Vh_171 (by decide) (Nat.le_of_ble_eq_true rfl) ?_
    exact mx_iret d_Vh_host_77 rfl (mx_po_i (by simp [sp_host, sp_hostV, hb2, hhc, hwc, hwN, r2, r3, u6, u7, hhL8]))
  by_cases k_2 : w = nI 2
  · refine mx_tabIn 78 d_Vh_host_6 (by rw [k_2]; decide) (by rw [k_2]; decide) (by rw [k_2]; rfl) (by decide) ?_
    subst k_2
    have hwc : (nI 2).toNatClampNeg = 2 := by decide
    have hwN : vs_isN (nI 2) 7 = true := by decide
    refine mx_al0 d_Vh_host_78 ?_
    refine mx_getR d_Vh_host_79 fl_Vh_51 (by assumption) (by assumption) ?_
    refine mx_getR d_Vh_host_82 fl_Vh_178 (by assumption) (by assumption) ?_
    refine mx_il1 d_Vh_host_85 ?_
    refine mx_cS2i d_Vh_host_86 (c_get (k := h) (by assumption) (by omega) (by omega)) ok_Vh_get ml_Vh_171 (by decide) (Nat.le_of_ble_eq_true rfl) ?_
    exact mx_iret d_Vh_host_89 rfl (mx_po_i (by simp [sp_host, sp_hostV, hb2, hhc, hwc, hwN, r2, r3, u6, u7, hhL8]))
  by_cases k_3 : w = nI 3
  · refine mx_tabIn 90 d_Vh_host_6 (by rw [k_3]; decide) (by rw [k_3]; decide) (by rw [k_3]; rfl) (by decide) ?_
    subst k_3
    have hwc : (nI 3).toNatClampNeg = 3 := by decide
    have hwN : vs_isN (nI 3) 7 = true := by decide
    refine mx_al0 d_Vh_host_90 ?_
    refine mx_getR d_Vh_host_91 fl_Vh_51 (by assumption) (by assumption) ?_
    refine mx_getR d_Vh_host_94 fl_Vh_181 (by assumption) (by assumption) ?_
    refine mx_il1 d_Vh_host_97 ?_
    refine mx_cS2i d_Vh_host_98 (c_get (k := h) (by assumption) (by omega) (by omega)) ok_Vh_get ml_Vh_171 (by decide) (Nat.le_of_ble_eq_true rfl) ?_
    exact mx_iret d_Vh_host_101 rfl (mx_po_i (by simp [sp_host, sp_hostV, hb2, hhc, hwc, hwN, r2, r3, u6, u7, hhL8]))
  by_cases k_4 : w = nI 4
  · refine mx_tabIn 102 d_Vh_host_6 (by rw [k_4]; decide) (by rw [k_4]; decide) (by rw [k_4]; rfl) (by decide) ?_
    subst k_4
    have hwc : (nI 4).toNatClampNeg = 4 := by decide
    have hwN : vs_isN (nI 4) 7 = true := by decide
    refine mx_al0 d_Vh_host_102 ?_
    refine mx_getR d_Vh_host_103 fl_Vh_51 (by assumption) (by assumption) ?_
    refine mx_il1 d_Vh_host_106 ?_
    refine mx_cV1i d_Vh_host_107 (c_St_freeOf hSt hSr (h := h) (by omega)) ok_St_freeOf ml_Vh_184 (by assumption) ⟨rfl, rfl⟩ (by decide) (Nat.le_of_ble_eq_true rfl) ?_
    exact mx_iret d_Vh_host_110 rfl (mx_po_i (by simp [sp_host, sp_hostV, hb2, hhc, hwc, hwN, r2, r3, u6, u7, hhL8]))
  by_cases k_5 : w = nI 5
  · refine mx_tabIn 111 d_Vh_host_6 (by rw [k_5]; decide) (by rw [k_5]; decide) (by rw [k_5]; rfl) (by decide) ?_
    subst k_5
    have hwc : (nI 5).toNatClampNeg = 5 := by decide
    have hwN : vs_isN (nI 5) 7 = true := by decide
    refine mx_al0 d_Vh_host_111 ?_
    refine mx_getR d_Vh_host_112 fl_Vh_51 (by assumption) (by assumption) ?_
    refine mx_il1 d_Vh_host_115 ?_
    refine mx_cV1i d_Vh_host_116 (c_St_seenBy hSt hSr (h := h) (by omega)) ok_St_seenBy ml_Vh_188 (by assumption) ⟨rfl, rfl⟩ (by decide) (Nat.le_of_ble_eq_true rfl) ?_
    exact mx_iret d_Vh_host_119 rfl (mx_po_i (by simp [sp_host, sp_hostV, hb2, hhc, hwc, hwN, r2, r3, u6, u7, hhL8]))
  by_cases k_6 : w = nI 6
  · refine mx_tabIn 120 d_Vh_host_6 (by rw [k_6]; decide) (by rw [k_6]; decide) (by rw [k_6]; rfl) (by decide) ?_
    subst k_6
    have hwc : (nI 6).toNatClampNeg = 6 := by decide
    have hwN : vs_isN (nI 6) 7 = true := by decide
    refine mx_al0 d_Vh_host_120 ?_
    refine mx_il1 d_Vh_host_121 ?_
    refine mx_cV1i d_Vh_host_122 (c_Vh_shareOf hV hSt hSr hH hH8 hgl (h := h) (by omega)) ok_Vh_shareOf ml_Vh_191 (by assumption) ⟨rfl, rfl⟩ (by decide) (Nat.le_of_ble_eq_true rfl) ?_
    exact mx_iret d_Vh_host_125 rfl (mx_po_i (by simp [sp_host, sp_hostV, hb2, hhc, hwc, hwN, r2, r3, u6, u7, hhL8]))
  refine mx_tabOut 126 d_Vh_host_6 (by exact vs_tabO (n := 6) (by omega) (vs_allS (vs_allS (vs_allS (vs_allS (vs_allS (vs_allS (vs_all0 k_0) k_1) k_2) k_3) k_4) k_5) k_6)) (by decide) ?_
  have hwO : vs_isN w 7 = false := vs_isNO (n := 6) (by omega) (vs_allS (vs_allS (vs_allS (vs_allS (vs_allS (vs_allS (vs_all0 k_0) k_1) k_2) k_3) k_4) k_5) k_6)
  exact mx_throwQ (i := 30) htr rfl rfl rfl d_Vh_host_126 d_Vh_host_129 d_Vh_host_130 d_Vh_host_132 d_Vh_host_135 (by decide) (by decide) (by decide) (Nat.le_of_ble_eq_true rfl) (fun t9 ht => mx_po_x ht 1 (by simp [sp_host, hb2, hwO]) rfl)
theorem c_Mo_host (hM : mo_ok S P mo) (hm : I (mo + 1) = m) (hH : m 3 = nI H) (hH8 : H ≤ 8) {v w : Int32} : mx_C l E M_Mo_host 3 0 0 [.ref (mo), .int (v), .int (w)] (t, S, I, P, J) (mx_ri (sp_host m H v w).2 (t, S, mx_up I (mo) 0 (nI (sp_host m H v w).1), P, J)) := by
  obtain ⟨hM0, hMp1, hMp2, hMp4, hMp5, hMp7, hMp14, hMp21, hMp22, hMp23, hMp24, hMp25, hMp26, hMp27, hMs1, hMs2, hMs3, hMs4, hMs5, hMs6, hMs7, hMs8, hMs9, hMs10, hMs11, hMs12, hMs13⟩ := id hM
  refine mx_C_of (ls0 := [some (.ref (mo)), some (.int (v)), some (.int (w))]) (by decide +kernel) rfl rfl (Nat.le_of_ble_eq_true rfl) rfl ?_
  refine mx_al0 d_Mo_host_0 ?_
  refine mx_al0 d_Mo_host_1 ?_
  refine mx_il1 d_Mo_host_2 ?_
  refine mx_cV1i d_Mo_host_3 (cm_isHost hM hm hH hH8) ok_Mo_isHost ml_Mo_310 (by assumption) ⟨rfl, rfl⟩ (by decide) (Nat.le_of_ble_eq_true rfl) ?_
  refine mx_ifB_ne 13 d_Mo_host_6 (by decide) (fun c_6 => ?_) (fun c_6 => ?_)
  · skip
    obtain ⟨h, hhL, rfl⟩ := vs_isN_of (by omega) c_6
    have hhc : (nI h).toNatClampNeg = h := nI_clamp (by omega)
    have hhL8 : h < 8 := by omega
    refine mx_il2 d_Mo_host_13 ?_
    refine mx_in_0 d_Mo_host_14 ?_
    refine mx_bip 6 d_Mo_host_15 (by decide) ?_
    refine mx_cS3i d_Mo_host_17 (cm_isIn0 (x := w) (n := 6) (by omega)) ok_Mo_isIn ml_Mo_57 (by decide) (Nat.le_of_ble_eq_true rfl) ?_
    refine mx_ifB_ne 27 d_Mo_host_20 (by decide) (fun c_20 => ?_) (fun c_20 => ?_)
    · skip
      obtain ⟨k, hkL, rfl⟩ := vs_isN_of (by omega) c_20
      have hkc : (nI k).toNatClampNeg = k := nI_clamp (by omega)
      have hkL8 : k < 8 := by omega
      refine mx_in_0 d_Mo_host_27 ?_
      refine mx_putI d_Mo_host_28 fl_Mo_54 (by assumption) ?_
      refine mx_al0 d_Mo_host_31 ?_
      refine mx_getI d_Mo_host_32 fl_Mo_54 (by assumption) ?_
      refine mx_ti (y := nI (0)) (vs_upx) ?_
      refine mx_if_le 40 d_Mo_host_35 (by decide) (fun c_35 => ?_) (fun c_35 => absurd (by decide) c_35)
      refine mx_il2 d_Mo_host_40 ?_
      refine mx_in_4 d_Mo_host_41 ?_
      refine mx_icN_ge 52 d_Mo_host_42 (by decide) (by omega) (by omega) (fun c_42 => ?_) (fun c_42 => ?_)
      · skip
        have k4 : ¬ k < 4 := by omega
        refine mx_il2 d_Mo_host_52 ?_
        refine mx_in_4 d_Mo_host_53 ?_
        refine mx_icN_ne 63 d_Mo_host_54 (by decide) (by omega) (by omega) (fun c_54 => ?_) (fun c_54 => ?_)
        · skip
          refine mx_il2 d_Mo_host_63 ?_
          refine mx_in_5 d_Mo_host_64 ?_
          refine mx_icN_ne 74 d_Mo_host_65 (by decide) (by omega) (by omega) (fun c_65 => ?_) (fun c_65 => ?_)
          · skip
            refine mx_al0 d_Mo_host_74 ?_
            refine mx_cV0i d_Mo_host_75 (cm_gladness hM (vs_hm hm) hH hH8) ok_Mo_gladness ml_Mo_319 (by assumption) ⟨rfl, rfl⟩ (by decide) (Nat.le_of_ble_eq_true rfl) ?_
            refine mx_if_ne 85 d_Mo_host_78 (by decide) (fun c_78 => ?_) (fun c_78 => ?_)
            · skip
              refine mx_bip 100 d_Mo_host_85 (by decide) ?_
              refine mx_al0 d_Mo_host_87 ?_
              refine mx_il1 d_Mo_host_88 ?_
              refine mx_in_2 d_Mo_host_89 ?_
              refine mx_cV2i d_Mo_host_90 (cm_of hM (vs_hm hm) (h := h) (k := 2) (by omega) (by omega)) ok_Mo_of ml_Mo_68 (by assumption) ⟨rfl, rfl⟩ (by decide) (Nat.le_of_ble_eq_true rfl) ?_
              refine mx_imul d_Mo_host_93 ?_
              refine mx_al0 d_Mo_host_94 ?_
              refine mx_cV0i d_Mo_host_95 (cm_gladness hM (vs_hm hm) hH hH8) ok_Mo_gladness ml_Mo_319 (by assumption) ⟨rfl, rfl⟩ (by decide) (Nat.le_of_ble_eq_true rfl) ?_
              refine mx_idiv d_Mo_host_98 (by assumption) ?_
              exact mx_iret d_Mo_host_99 rfl (mx_ri_of2 (by simp [sp_host, sp_hostV, vs_share, *]) (by simp [sp_host, sp_hostV, vs_share, *]))
            · skip
              refine mx_in_0 d_Mo_host_81 ?_
              refine mx_goto 99 d_Mo_host_82 (by decide) ?_
              exact mx_iret d_Mo_host_99 rfl (mx_ri_of2 (by simp [sp_host, sp_hostV, vs_share, *]) (by simp [sp_host, sp_hostV, vs_share, *]))
          · skip
            subst c_65
            refine mx_al0 d_Mo_host_68 ?_
            refine mx_il1 d_Mo_host_69 ?_
            refine mx_cV1i d_Mo_host_70 (cm_seesOf hM (vs_hm hm) (h := h) (by omega)) ok_Mo_seesOf ml_Mo_316 (by assumption) ⟨rfl, rfl⟩ (by decide) (Nat.le_of_ble_eq_true rfl) ?_
            exact mx_iret d_Mo_host_73 rfl (mx_ri_of2 (by simp [sp_host, sp_hostV, vs_share, *]) (by simp [sp_host, sp_hostV, vs_share, *]))
        · skip
          subst c_54
          refine mx_al0 d_Mo_host_57 ?_
          refine mx_il1 d_Mo_host_58 ?_
          refine mx_cV1i d_Mo_host_59 (cm_freeOf hM (vs_hm hm) (h := h) (by omega)) ok_Mo_freeOf ml_Mo_313 (by assumption) ⟨rfl, rfl⟩ (by decide) (Nat.le_of_ble_eq_true rfl) ?_
          exact mx_iret d_Mo_host_62 rfl (mx_ri_of2 (by simp [sp_host, sp_hostV, vs_share, *]) (by simp [sp_host, sp_hostV, vs_share, *]))
      · skip
        refine mx_al0 d_Mo_host_45 ?_
        refine mx_il1 d_Mo_host_46 ?_
        refine mx_il2 d_Mo_host_47 ?_
        refine mx_cV2i d_Mo_host_48 (cm_of hM (vs_hm hm) (h := h) (k := k) (by omega) (by omega)) ok_Mo_of ml_Mo_68 (by assumption) ⟨rfl, rfl⟩ (by decide) (Nat.le_of_ble_eq_true rfl) ?_
        exact mx_iret d_Mo_host_51 rfl (mx_ri_of2 (by simp [sp_host, sp_hostV, vs_share, *]) (by simp [sp_host, sp_hostV, vs_share, *]))
    · skip
      refine mx_in_2 d_Mo_host_23 ?_
      refine mx_goto 28 d_Mo_host_24 (by decide) ?_
      refine mx_putI d_Mo_host_28 fl_Mo_54 (by assumption) ?_
      refine mx_al0 d_Mo_host_31 ?_
      refine mx_getI d_Mo_host_32 fl_Mo_54 (by assumption) ?_
      refine mx_ti (y := nI (2)) (vs_upx) ?_
      refine mx_if_le 40 d_Mo_host_35 (by decide) (fun c_35 => absurd c_35 (by decide)) (fun c_35 => ?_)
      refine mx_in_0 d_Mo_host_38 ?_
      exact mx_iret d_Mo_host_39 rfl (mx_ri_of2 (by simp [sp_host, sp_hostV, vs_share, *]) (by simp [sp_host, sp_hostV, vs_share, *]))
  · skip
    refine mx_in_1 d_Mo_host_9 ?_
    refine mx_goto 28 d_Mo_host_10 (by decide) ?_
    refine mx_putI d_Mo_host_28 fl_Mo_54 (by assumption) ?_
    refine mx_al0 d_Mo_host_31 ?_
    refine mx_getI d_Mo_host_32 fl_Mo_54 (by assumption) ?_
    refine mx_ti (y := nI (1)) (vs_upx) ?_
    refine mx_if_le 40 d_Mo_host_35 (by decide) (fun c_35 => absurd c_35 (by decide)) (fun c_35 => ?_)
    refine mx_in_0 d_Mo_host_38 ?_
    exact mx_iret d_Mo_host_39 rfl (mx_ri_of2 (by simp [sp_host, sp_hostV, vs_share, *]) (by simp [sp_host, sp_hostV, vs_share, *]))
def sp_guestV (m : Nat → Int32) (H g k : Nat) : Int32 := if k < 3 then m (43 + 3 * g + k) else if k = 3 then vs_busyK m (nI g) H else if k = 4 then vs_likedK m g H else bI (vs_pass m (m (43 + 3 * g + 2)))
def sp_guest (m : Nat → Int32) (H G : Nat) (v w : Int32) : Nat × Int32 := if vs_isN v G then (if vs_isN w 6 then (0, sp_guestV m H v.toNatClampNeg w.toNatClampNeg) else (2, nI 0)) else (1, nI 0)
theorem c_Vh_guest (htr : l.stackTraces = false) (hV : vh_ok S P x) (hSt : st_ok S P (x + 23)) (hSr : st_rel I (x + 23) m) (hH : m 3 = nI H) (hH8 : H ≤ 8) (hG : m 4 = nI G) (hG8 : G ≤ 8) {v w : Int32} : mx_C l E M_Vh_guest 7 2 12 [.ref (x), .int (v), .int (w)] (t, S, I, P, J) (mx_po (fun c => if c = 1 then "java/lang/IndexOutOfBoundsException" else "java/util/NoSuchElementException") (sp_guest m H G v w) (t, S, I, P, J)) := by
  obtain ⟨hV0, hVp0, hVp1, hVp2, hVp3, hVp4, hVp5, hVp7, hVp8, hVp9, hVp10, hVp11, hVp12, hVs15, hVs16, hVs68⟩ := id hV
  obtain ⟨hC0, hC1, hC2, hC3, hC4, hC5, hC6, hD1, hD2, hD3, hD4, hPe, hLo⟩ := id hSt
  obtain ⟨hPr, u0, u1, u2, u3, u4, u5, u6, u7, u8⟩ := id hSr
  obtain ⟨hA0, hA1, hA2, hA3, hA4, hA5, hA6, hA7, hB1, hB2, hB3, hB4, hB5, hB6, hB7⟩ := id hPe
  obtain ⟨r0, r1, r2, r3, r4, r5, r6, r7, r8⟩ := id hPr
  refine mx_C_of (ls0 := [some (.ref (x)), some (.int (v)), some (.int (w))]) (by decide +kernel) rfl rfl (Nat.le_of_ble_eq_true rfl) rfl ?_
  refine mx_al0 d_Vh_guest_0 ?_
  refine mx_il1 d_Vh_guest_1 ?_
  refine mx_nV1 d_Vh_guest_2 (c_needGuest htr hV hSt hSr hG hG8) ok_Vh_needGuest ml_Vh_199 (by assumption) ⟨rfl, rfl⟩ rfl (by decide) (by decide) (by decide) (Nat.le_of_ble_eq_true rfl) (fun hb2 t9 ht => mx_po_x ht 0 (by simp_all [sp_guest]) rfl) (fun hb2 => ?_)
  obtain ⟨g, hgL, rfl⟩ := vs_isN_of (by omega) hb2
  have hgc : (nI g).toNatClampNeg = g := nI_clamp (by omega)
  have hgL8 : g < 8 := by omega
  refine mx_il2 d_Vh_guest_5 ?_
  by_cases k_0 : w = nI 0
  · refine mx_tabIn 44 d_Vh_guest_6 (by rw [k_0]; decide) (by rw [k_0]; decide) (by rw [k_0]; rfl) (by decide) ?_
    subst k_0
    have hwc : (nI 0).toNatClampNeg = 0 := by decide
    have hwN : vs_isN (nI 0) 6 = true := by decide
    refine mx_al0 d_Vh_guest_44 ?_
    refine mx_getR d_Vh_guest_45 fl_Vh_51 (by assumption) (by assumption) ?_
    refine mx_getR d_Vh_guest_48 fl_Vh_162 (by assumption) (by assumption) ?_
    refine mx_getR d_Vh_guest_51 fl_Vh_202 (by assumption) (by assumption) ?_
    refine mx_il1 d_Vh_guest_54 ?_
    refine mx_cS2i d_Vh_guest_55 (c_get (k := g) (by assumption) (by omega) (by omega)) ok_Vh_get ml_Vh_171 (by decide) (Nat.le_of_ble_eq_true rfl) ?_
    exact mx_iret d_Vh_guest_58 rfl (mx_po_i (by simp [sp_guest, sp_guestV, hb2, hgc, hwc, hwN, r4, r5, r6, hgL8, bI, *]))
  by_cases k_1 : w = nI 1
  · refine mx_tabIn 59 d_Vh_guest_6 (by rw [k_1]; decide) (by rw [k_1]; decide) (by rw [k_1]; rfl) (by decide) ?_
    subst k_1
    have hwc : (nI 1).toNatClampNeg = 1 := by decide
    have hwN : vs_isN (nI 1) 6 = true := by decide
    refine mx_al0 d_Vh_guest_59 ?_
    refine mx_getR d_Vh_guest_60 fl_Vh_51 (by assumption) (by assumption) ?_
    refine mx_getR d_Vh_guest_63 fl_Vh_162 (by assumption) (by assumption) ?_
    refine mx_getR d_Vh_guest_66 fl_Vh_205 (by assumption) (by assumption) ?_
    refine mx_il1 d_Vh_guest_69 ?_
    refine mx_cS2i d_Vh_guest_70 (c_get (k := g) (by assumption) (by omega) (by omega)) ok_Vh_get ml_Vh_171 (by decide) (Nat.le_of_ble_eq_true rfl) ?_
    exact mx_iret d_Vh_guest_73 rfl (mx_po_i (by simp [sp_guest, sp_guestV, hb2, hgc, hwc, hwN, r4, r5, r6, hgL8, bI, *]))
  by_cases k_2 : w = nI 2
  · refine mx_tabIn 74 d_Vh_guest_6 (by rw [k_2]; decide) (by rw [k_2]; decide) (by rw [k_2]; rfl) (by decide) ?_
    subst k_2
    have hwc : (nI 2).toNatClampNeg = 2 := by decide
    have hwN : vs_isN (nI 2) 6 = true := by decide
    refine mx_al0 d_Vh_guest_74 ?_
    refine mx_getR d_Vh_guest_75 fl_Vh_51 (by assumption) (by assumption) ?_
    refine mx_getR d_Vh_guest_78 fl_Vh_162 (by assumption) (by assumption) ?_
    refine mx_getR d_Vh_guest_81 fl_Vh_208 (by assumption) (by assumption) ?_
    refine mx_il1 d_Vh_guest_84 ?_
    refine mx_cS2i d_Vh_guest_85 (c_get (k := g) (by assumption) (by omega) (by omega)) ok_Vh_get ml_Vh_171 (by decide) (Nat.le_of_ble_eq_true rfl) ?_
    exact mx_iret d_Vh_guest_88 rfl (mx_po_i (by simp [sp_guest, sp_guestV, hb2, hgc, hwc, hwN, r4, r5, r6, hgL8, bI, *]))
  by_cases k_3 : w = nI 3
  · refine mx_tabIn 89 d_Vh_guest_6 (by rw [k_3]; decide) (by rw [k_3]; decide) (by rw [k_3]; rfl) (by decide) ?_
    subst k_3
    have hwc : (nI 3).toNatClampNeg = 3 := by decide
    have hwN : vs_isN (nI 3) 6 = true := by decide
    refine mx_al0 d_Vh_guest_89 ?_
    refine mx_getR d_Vh_guest_90 fl_Vh_51 (by assumption) (by assumption) ?_
    refine mx_il1 d_Vh_guest_93 ?_
    refine mx_cV1i d_Vh_guest_94 (c_St_busyOf hSt hSr hH hH8) ok_St_busyOf ml_Vh_211 (by assumption) ⟨rfl, rfl⟩ (by decide) (Nat.le_of_ble_eq_true rfl) ?_
    exact mx_iret d_Vh_guest_97 rfl (mx_po_i (by simp [sp_guest, sp_guestV, hb2, hgc, hwc, hwN, r4, r5, r6, hgL8, bI, *]))
  by_cases k_4 : w = nI 4
  · refine mx_tabIn 98 d_Vh_guest_6 (by rw [k_4]; decide) (by rw [k_4]; decide) (by rw [k_4]; rfl) (by decide) ?_
    subst k_4
    have hwc : (nI 4).toNatClampNeg = 4 := by decide
    have hwN : vs_isN (nI 4) 6 = true := by decide
    refine mx_al0 d_Vh_guest_98 ?_
    refine mx_getR d_Vh_guest_99 fl_Vh_51 (by assumption) (by assumption) ?_
    refine mx_getR d_Vh_guest_102 fl_Vh_162 (by assumption) (by assumption) ?_
    refine mx_il1 d_Vh_guest_105 ?_
    refine mx_cV1i d_Vh_guest_106 (c_Pe_likedOf hPe hPr hH hH8 (g := g) (by omega)) ok_Pe_likedOf ml_Vh_214 (by assumption) ⟨rfl, rfl⟩ (by decide) (Nat.le_of_ble_eq_true rfl) ?_
    exact mx_iret d_Vh_guest_109 rfl (mx_po_i (by simp [sp_guest, sp_guestV, hb2, hgc, hwc, hwN, r4, r5, r6, hgL8, bI, *]))
  by_cases k_5 : w = nI 5
  · refine mx_tabIn 110 d_Vh_guest_6 (by rw [k_5]; decide) (by rw [k_5]; decide) (by rw [k_5]; rfl) (by decide) ?_
    subst k_5
    have hwc : (nI 5).toNatClampNeg = 5 := by decide
    have hwN : vs_isN (nI 5) 6 = true := by decide
    refine mx_al0 d_Vh_guest_110 ?_
    refine mx_getR d_Vh_guest_111 fl_Vh_51 (by assumption) (by assumption) ?_
    refine mx_il1 d_Vh_guest_114 ?_
    refine mx_cV1i d_Vh_guest_115 (c_St_isMarked hSt hSr (g := g) (by omega)) ok_St_isMarked ml_Vh_217 (by assumption) ⟨rfl, rfl⟩ (by decide) (Nat.le_of_ble_eq_true rfl) ?_
    refine mx_ifB_eq 125 d_Vh_guest_118 (by decide) (fun c_118 => ?_) (fun c_118 => ?_)
    · skip
      refine mx_in_0 d_Vh_guest_125 ?_
      exact mx_iret d_Vh_guest_126 rfl (mx_po_i (by simp [sp_guest, sp_guestV, hb2, hgc, hwc, hwN, r4, r5, r6, hgL8, bI, *]))
    · skip
      refine mx_in_1 d_Vh_guest_121 ?_
      refine mx_goto 126 d_Vh_guest_122 (by decide) ?_
      exact mx_iret d_Vh_guest_126 rfl (mx_po_i (by simp [sp_guest, sp_guestV, hb2, hgc, hwc, hwN, r4, r5, r6, hgL8, bI, *]))
  refine mx_tabOut 127 d_Vh_guest_6 (by exact vs_tabO (n := 5) (by omega) (vs_allS (vs_allS (vs_allS (vs_allS (vs_allS (vs_all0 k_0) k_1) k_2) k_3) k_4) k_5)) (by decide) ?_
  have hwO : vs_isN w 6 = false := vs_isNO (n := 5) (by omega) (vs_allS (vs_allS (vs_allS (vs_allS (vs_allS (vs_all0 k_0) k_1) k_2) k_3) k_4) k_5)
  exact mx_throwQ (i := 32) htr rfl rfl rfl d_Vh_guest_127 d_Vh_guest_130 d_Vh_guest_131 d_Vh_guest_133 d_Vh_guest_136 (by decide) (by decide) (by decide) (Nat.le_of_ble_eq_true rfl) (fun t9 ht => mx_po_x ht 1 (by simp [sp_guest, hb2, hwO]) rfl)
theorem c_Mo_guest (hM : mo_ok S P mo) (hm : I (mo + 1) = m) (hH : m 3 = nI H) (hH8 : H ≤ 8) (hG : m 4 = nI G) (hG8 : G ≤ 8) {v w : Int32} : mx_C l E M_Mo_guest 3 0 0 [.ref (mo), .int (v), .int (w)] (t, S, I, P, J) (mx_ri (sp_guest m H G v w).2 (t, S, mx_up I (mo) 0 (nI (sp_guest m H G v w).1), P, J)) := by
  obtain ⟨hM0, hMp1, hMp2, hMp4, hMp5, hMp7, hMp14, hMp21, hMp22, hMp23, hMp24, hMp25, hMp26, hMp27, hMs1, hMs2, hMs3, hMs4, hMs5, hMs6, hMs7, hMs8, hMs9, hMs10, hMs11, hMs12, hMs13⟩ := id hM
  refine mx_C_of (ls0 := [some (.ref (mo)), some (.int (v)), some (.int (w))]) (by decide +kernel) rfl rfl (Nat.le_of_ble_eq_true rfl) rfl ?_
  refine mx_al0 d_Mo_guest_0 ?_
  refine mx_al0 d_Mo_guest_1 ?_
  refine mx_il1 d_Mo_guest_2 ?_
  refine mx_cV1i d_Mo_guest_3 (cm_isGuest hM hm hG hG8) ok_Mo_isGuest ml_Mo_322 (by assumption) ⟨rfl, rfl⟩ (by decide) (Nat.le_of_ble_eq_true rfl) ?_
  refine mx_ifB_ne 13 d_Mo_guest_6 (by decide) (fun c_6 => ?_) (fun c_6 => ?_)
  · skip
    obtain ⟨g, hgL, rfl⟩ := vs_isN_of (by omega) c_6
    have hgc : (nI g).toNatClampNeg = g := nI_clamp (by omega)
    have hgL8 : g < 8 := by omega
    refine mx_il2 d_Mo_guest_13 ?_
    refine mx_in_0 d_Mo_guest_14 ?_
    refine mx_in_5 d_Mo_guest_15 ?_
    refine mx_cS3i d_Mo_guest_16 (cm_isIn0 (x := w) (n := 5) (by omega)) ok_Mo_isIn ml_Mo_57 (by decide) (Nat.le_of_ble_eq_true rfl) ?_
    refine mx_ifB_ne 26 d_Mo_guest_19 (by decide) (fun c_19 => ?_) (fun c_19 => ?_)
    · skip
      obtain ⟨k, hkL, rfl⟩ := vs_isN_of (by omega) c_19
      have hkc : (nI k).toNatClampNeg = k := nI_clamp (by omega)
      have hkL8 : k < 8 := by omega
      refine mx_in_0 d_Mo_guest_26 ?_
      refine mx_putI d_Mo_guest_27 fl_Mo_54 (by assumption) ?_
      refine mx_al0 d_Mo_guest_30 ?_
      refine mx_getI d_Mo_guest_31 fl_Mo_54 (by assumption) ?_
      refine mx_ti (y := nI (0)) (vs_upx) ?_
      refine mx_if_le 39 d_Mo_guest_34 (by decide) (fun c_34 => ?_) (fun c_34 => absurd (by decide) c_34)
      refine mx_il2 d_Mo_guest_39 ?_
      refine mx_in_3 d_Mo_guest_40 ?_
      refine mx_icN_ge 51 d_Mo_guest_41 (by decide) (by omega) (by omega) (fun c_41 => ?_) (fun c_41 => ?_)
      · skip
        have k4 : ¬ k < 3 := by omega
        refine mx_il2 d_Mo_guest_51 ?_
        refine mx_in_3 d_Mo_guest_52 ?_
        refine mx_icN_ne 62 d_Mo_guest_53 (by decide) (by omega) (by omega) (fun c_53 => ?_) (fun c_53 => ?_)
        · skip
          refine mx_il2 d_Mo_guest_62 ?_
          refine mx_in_4 d_Mo_guest_63 ?_
          refine mx_icN_ne 75 d_Mo_guest_64 (by decide) (by omega) (by omega) (fun c_64 => ?_) (fun c_64 => ?_)
          · skip
            refine mx_al0 d_Mo_guest_75 ?_
            refine mx_al0 d_Mo_guest_76 ?_
            refine mx_il1 d_Mo_guest_77 ?_
            refine mx_in_2 d_Mo_guest_78 ?_
            refine mx_cV2i d_Mo_guest_79 (cm_ofGuest hM (vs_hm hm) (g := g) (k := 2) (by omega) (by omega)) ok_Mo_ofGuest ml_Mo_71 (by assumption) ⟨rfl, rfl⟩ (by decide) (Nat.le_of_ble_eq_true rfl) ?_
            refine mx_cV1i d_Mo_guest_82 (cm_passes hM (vs_hm hm)) ok_Mo_passes ml_Mo_268 (by assumption) ⟨rfl, rfl⟩ (by decide) (Nat.le_of_ble_eq_true rfl) ?_
            refine mx_ifB_eq 92 d_Mo_guest_85 (by decide) (fun c_85 => ?_) (fun c_85 => ?_)
            · skip
              refine mx_in_0 d_Mo_guest_92 ?_
              exact mx_iret d_Mo_guest_93 rfl (mx_ri_of2 (by simp [sp_guest, sp_guestV, bI, *]) (by simp [sp_guest, sp_guestV, bI, *]))
            · skip
              refine mx_in_1 d_Mo_guest_88 ?_
              refine mx_goto 93 d_Mo_guest_89 (by decide) ?_
              exact mx_iret d_Mo_guest_93 rfl (mx_ri_of2 (by simp [sp_guest, sp_guestV, bI, *]) (by simp [sp_guest, sp_guestV, bI, *]))
          · skip
            subst c_64
            refine mx_al0 d_Mo_guest_67 ?_
            refine mx_il1 d_Mo_guest_68 ?_
            refine mx_cV1i d_Mo_guest_69 (cm_likedOf hM (vs_hm hm) hH hH8 (g := g) (by omega)) ok_Mo_likedOf ml_Mo_328 (by assumption) ⟨rfl, rfl⟩ (by decide) (Nat.le_of_ble_eq_true rfl) ?_
            refine mx_goto 93 d_Mo_guest_72 (by decide) ?_
            exact mx_iret d_Mo_guest_93 rfl (mx_ri_of2 (by simp [sp_guest, sp_guestV, bI, *]) (by simp [sp_guest, sp_guestV, bI, *]))
        · skip
          subst c_53
          refine mx_al0 d_Mo_guest_56 ?_
          refine mx_il1 d_Mo_guest_57 ?_
          refine mx_cV1i d_Mo_guest_58 (cm_busyOf hM (vs_hm hm) hH hH8) ok_Mo_busyOf ml_Mo_325 (by assumption) ⟨rfl, rfl⟩ (by decide) (Nat.le_of_ble_eq_true rfl) ?_
          exact mx_iret d_Mo_guest_61 rfl (mx_ri_of2 (by simp [sp_guest, sp_guestV, bI, *]) (by simp [sp_guest, sp_guestV, bI, *]))
      · skip
        refine mx_al0 d_Mo_guest_44 ?_
        refine mx_il1 d_Mo_guest_45 ?_
        refine mx_il2 d_Mo_guest_46 ?_
        refine mx_cV2i d_Mo_guest_47 (cm_ofGuest hM (vs_hm hm) (g := g) (k := k) (by omega) (by omega)) ok_Mo_ofGuest ml_Mo_71 (by assumption) ⟨rfl, rfl⟩ (by decide) (Nat.le_of_ble_eq_true rfl) ?_
        exact mx_iret d_Mo_guest_50 rfl (mx_ri_of2 (by simp [sp_guest, sp_guestV, bI, *]) (by simp [sp_guest, sp_guestV, bI, *]))
    · skip
      refine mx_in_2 d_Mo_guest_22 ?_
      refine mx_goto 27 d_Mo_guest_23 (by decide) ?_
      refine mx_putI d_Mo_guest_27 fl_Mo_54 (by assumption) ?_
      refine mx_al0 d_Mo_guest_30 ?_
      refine mx_getI d_Mo_guest_31 fl_Mo_54 (by assumption) ?_
      refine mx_ti (y := nI (2)) (vs_upx) ?_
      refine mx_if_le 39 d_Mo_guest_34 (by decide) (fun c_34 => absurd c_34 (by decide)) (fun c_34 => ?_)
      refine mx_in_0 d_Mo_guest_37 ?_
      exact mx_iret d_Mo_guest_38 rfl (mx_ri_of2 (by simp [sp_guest, sp_guestV, bI, *]) (by simp [sp_guest, sp_guestV, bI, *]))
  · skip
    refine mx_in_1 d_Mo_guest_9 ?_
    refine mx_goto 27 d_Mo_guest_10 (by decide) ?_
    refine mx_putI d_Mo_guest_27 fl_Mo_54 (by assumption) ?_
    refine mx_al0 d_Mo_guest_30 ?_
    refine mx_getI d_Mo_guest_31 fl_Mo_54 (by assumption) ?_
    refine mx_ti (y := nI (1)) (vs_upx) ?_
    refine mx_if_le 39 d_Mo_guest_34 (by decide) (fun c_34 => absurd c_34 (by decide)) (fun c_34 => ?_)
    refine mx_in_0 d_Mo_guest_37 ?_
    exact mx_iret d_Mo_guest_38 rfl (mx_ri_of2 (by simp [sp_guest, sp_guestV, bI, *]) (by simp [sp_guest, sp_guestV, bI, *]))
def vs_dear (m : Nat → Int32) (H n : Nat) : Int32 := vf n (fun g s => if s = -1 ∨ vs_likedK m s.toNatClampNeg H < vs_likedK m g H then nI g else s) (-1)
theorem vs_dear_in (m : Nat → Int32) (H n : Nat) (hn : n ≤ 8) (h : ¬ vs_dear m H n = -1) : ∃ b, b < n ∧ vs_dear m H n = nI b := by
  induction n with
  | zero => exact absurd rfl h
  | succ n ih =>
    unfold vs_dear at h ⊢
    rw [vf_s] at h ⊢
    split
    · exact ⟨n, by omega, rfl⟩
    · next h1 =>
      rw [if_neg h1] at h
      obtain ⟨b, hb, e⟩ := ih (by omega) h
      exact ⟨b, by omega, e⟩
theorem vs_dear_s (m : Nat → Int32) (H n : Nat) : vs_dear m H (n + 1) = if vs_dear m H n = -1 ∨ vs_likedK m (vs_dear m H n).toNatClampNeg H < vs_likedK m n H then nI n else vs_dear m H n := rfl
theorem c_Vh_dearest (hV : vh_ok S P x) (hSt : st_ok S P (x + 23)) (hSr : st_rel I (x + 23) m) (hH : m 3 = nI H) (hH8 : H ≤ 8) (hG : m 4 = nI G) (hG8 : G ≤ 8)  : mx_C l E M_Vh_dearest 3 0 0 [.ref (x)] (t, S, I, P, J) (mx_ri (vs_dear m H G) (t, S, I, P, J)) := by
  obtain ⟨hV0, hVp0, hVp1, hVp2, hVp3, hVp4, hVp5, hVp7, hVp8, hVp9, hVp10, hVp11, hVp12, hVs15, hVs16, hVs68⟩ := id hV
  obtain ⟨hC0, hC1, hC2, hC3, hC4, hC5, hC6, hD1, hD2, hD3, hD4, hPe, hLo⟩ := id hSt
  obtain ⟨hPr, u0, u1, u2, u3, u4, u5, u6, u7, u8⟩ := id hSr
  obtain ⟨hA0, hA1, hA2, hA3, hA4, hA5, hA6, hA7, hB1, hB2, hB3, hB4, hB5, hB6, hB7⟩ := id hPe
  obtain ⟨r0, r1, r2, r3, r4, r5, r6, r7, r8⟩ := id hPr
  refine mx_C_of (ls0 := [some (.ref (x)), none, none]) (by decide +kernel) rfl rfl (Nat.le_of_ble_eq_true rfl) rfl ?_
  refine mx_ic_m1 d_Vh_dearest_0 ?_
  refine mx_is1 d_Vh_dearest_1 ?_
  refine mx_in_0 d_Vh_dearest_2 ?_
  refine mx_is2 d_Vh_dearest_3 ?_
  refine mx_loop (N := G) (ls := fun g => [some (.ref (x)), some (.int ((vs_dear m H g))), some (.int (nI (g)))]) (X := fun g => (t, S, I, P, J)) (fun g hg ih => ?_) ?_
  · try dsimp only
    refine mx_il2 d_Vh_dearest_4 ?_
    refine mx_al0 d_Vh_dearest_5 ?_
    refine mx_getR d_Vh_dearest_6 fl_Vh_51 (by assumption) (by assumption) ?_
    refine mx_getR d_Vh_dearest_9 fl_Vh_162 (by assumption) (by assumption) ?_
    refine mx_getI d_Vh_dearest_12 fl_Vh_325 (by assumption) ?_
    refine mx_ti (y := nI (G)) (r1.trans hG) ?_
    refine mx_icN_ge 56 d_Vh_dearest_15 (by decide) (by omega) (by omega) (fun c_15 => absurd c_15 (by omega)) (fun c_15 => ?_)
    refine mx_il1 d_Vh_dearest_18 ?_
    refine mx_ic_m1 d_Vh_dearest_19 ?_
    refine mx_icmp_eq 48 d_Vh_dearest_20 (by decide) (fun c_20 => ?_) (fun c_20 => ?_)
    · skip
      refine mx_il2 d_Vh_dearest_48 ?_
      refine mx_is1 d_Vh_dearest_49 ?_
      refine mx_iN2 d_Vh_dearest_50 ?_
      refine mx_goto 4 d_Vh_dearest_53 (by decide) ?_
      have e1 : nI (g) = (vs_dear m H (g + 1)) := by rw [vs_dear_s]; first | rw [if_pos (Or.inl (by assumption))] | rw [if_pos (Or.inr (by rw [ebc]; assumption))] | rw [if_pos (Or.inr (by rw [ebc]; exact Int32.not_le.mp (by assumption)))] | rw [if_neg (fun h9 => h9.elim (fun h9 => absurd h9 (by assumption)) (fun h9 => by rw [ebc] at h9; exact absurd h9 (Int32.not_lt.mpr (by assumption))))]
      rw [e1]
      exact ih
    · skip
      obtain ⟨b, hb, eb⟩ := vs_dear_in m H g (by omega) c_20
      have ebc : (vs_dear m H g).toNatClampNeg = b := by rw [eb]; exact nI_clamp (by omega)
      refine mx_al0 d_Vh_dearest_23 ?_
      refine mx_getR d_Vh_dearest_24 fl_Vh_51 (by assumption) (by assumption) ?_
      refine mx_getR d_Vh_dearest_27 fl_Vh_162 (by assumption) (by assumption) ?_
      refine mx_il2 d_Vh_dearest_30 ?_
      refine mx_cV1i d_Vh_dearest_31 (c_Pe_likedOf hPe hPr hH hH8 (g := g) (by omega)) ok_Pe_likedOf ml_Vh_214 (by assumption) ⟨rfl, rfl⟩ (by decide) (Nat.le_of_ble_eq_true rfl) ?_
      refine mx_al0 d_Vh_dearest_34 ?_
      refine mx_getR d_Vh_dearest_35 fl_Vh_51 (by assumption) (by assumption) ?_
      refine mx_getR d_Vh_dearest_38 fl_Vh_162 (by assumption) (by assumption) ?_
      refine mx_il1 d_Vh_dearest_41 ?_
      refine mx_ti (y := nI (b)) (eb) ?_
      refine mx_cV1i d_Vh_dearest_42 (c_Pe_likedOf hPe hPr hH hH8 (g := b) (by omega)) ok_Pe_likedOf ml_Vh_214 (by assumption) ⟨rfl, rfl⟩ (by decide) (Nat.le_of_ble_eq_true rfl) ?_
      refine mx_icmp_le 50 d_Vh_dearest_45 (by decide) (fun c_45 => ?_) (fun c_45 => ?_)
      · skip
        refine mx_iN2 d_Vh_dearest_50 ?_
        refine mx_goto 4 d_Vh_dearest_53 (by decide) ?_
        have e1 : (vs_dear m H g) = (vs_dear m H (g + 1)) := by rw [vs_dear_s]; first | rw [if_pos (Or.inl (by assumption))] | rw [if_pos (Or.inr (by rw [ebc]; assumption))] | rw [if_pos (Or.inr (by rw [ebc]; exact Int32.not_le.mp (by assumption)))] | rw [if_neg (fun h9 => h9.elim (fun h9 => absurd h9 (by assumption)) (fun h9 => by rw [ebc] at h9; exact absurd h9 (Int32.not_lt.mpr (by assumption))))]
        rw [e1]
        exact ih
      · skip
        refine mx_il2 d_Vh_dearest_48 ?_
        refine mx_is1 d_Vh_dearest_49 ?_
        refine mx_iN2 d_Vh_dearest_50 ?_
        refine mx_goto 4 d_Vh_dearest_53 (by decide) ?_
        have e1 : nI (g) = (vs_dear m H (g + 1)) := by rw [vs_dear_s]; first | rw [if_pos (Or.inl (by assumption))] | rw [if_pos (Or.inr (by rw [ebc]; assumption))] | rw [if_pos (Or.inr (by rw [ebc]; exact Int32.not_le.mp (by assumption)))] | rw [if_neg (fun h9 => h9.elim (fun h9 => absurd h9 (by assumption)) (fun h9 => by rw [ebc] at h9; exact absurd h9 (Int32.not_lt.mpr (by assumption))))]
        rw [e1]
        exact ih
  · try dsimp only
    refine mx_il2 d_Vh_dearest_4 ?_
    refine mx_al0 d_Vh_dearest_5 ?_
    refine mx_getR d_Vh_dearest_6 fl_Vh_51 (by assumption) (by assumption) ?_
    refine mx_getR d_Vh_dearest_9 fl_Vh_162 (by assumption) (by assumption) ?_
    refine mx_getI d_Vh_dearest_12 fl_Vh_325 (by assumption) ?_
    refine mx_ti (y := nI (G)) (r1.trans hG) ?_
    refine mx_icN_ge 56 d_Vh_dearest_15 (by decide) (by omega) (by omega) (fun c_15 => ?_) (fun c_15 => absurd c_15 (by omega))
    refine mx_il1 d_Vh_dearest_56 ?_
    exact mx_iret d_Vh_dearest_57 rfl (mx_ri_of (by rfl))
theorem c_Mo_dearest (hM : mo_ok S P mo) (hm : I (mo + 1) = m) (hH : m 3 = nI H) (hH8 : H ≤ 8) (hG : m 4 = nI G) (hG8 : G ≤ 8)  : mx_C l E M_Mo_dearest 3 0 0 [.ref (mo)] (t, S, I, P, J) (mx_ri (vs_dear m H G) (t, S, mx_up I (mo) 0 (nI 0), P, J)) := by
  obtain ⟨hM0, hMp1, hMp2, hMp4, hMp5, hMp7, hMp14, hMp21, hMp22, hMp23, hMp24, hMp25, hMp26, hMp27, hMs1, hMs2, hMs3, hMs4, hMs5, hMs6, hMs7, hMs8, hMs9, hMs10, hMs11, hMs12, hMs13⟩ := id hM
  refine mx_C_of (ls0 := [some (.ref (mo)), none, none]) (by decide +kernel) rfl rfl (Nat.le_of_ble_eq_true rfl) rfl ?_
  refine mx_al0 d_Mo_dearest_0 ?_
  refine mx_in_0 d_Mo_dearest_1 ?_
  refine mx_putI d_Mo_dearest_2 fl_Mo_54 (by assumption) ?_
  refine mx_ic_m1 d_Mo_dearest_5 ?_
  refine mx_is1 d_Mo_dearest_6 ?_
  refine mx_in_0 d_Mo_dearest_7 ?_
  refine mx_is2 d_Mo_dearest_8 ?_
  refine mx_loop (N := G) (ls := fun g => [some (.ref (mo)), some (.int ((vs_dear m H g))), some (.int (nI (g)))]) (X := fun g => (t, S, (mx_up I (mo) 0 (nI (0))), P, J)) (fun g hg ih => ?_) ?_
  · try dsimp only
    refine mx_il2 d_Mo_dearest_9 ?_
    refine mx_al0 d_Mo_dearest_10 ?_
    refine mx_getR d_Mo_dearest_11 fl_Mo_7 (by assumption) (by assumption) ?_
    refine mx_in_4 d_Mo_dearest_14 ?_
    refine mx_iald d_Mo_dearest_15 (by assumption) (nI_inb (by omega) (by omega)) ?_
    refine mx_ti (y := (mx_up I (mo) 0 (nI (0))) (mo + 1) (4)) (by rw [nI_clamp (by omega)]) ?_
    refine mx_ti (y := nI (G)) ((congrFun (vs_hm hm) 4).trans hG) ?_
    refine mx_icN_ge 45 d_Mo_dearest_16 (by decide) (by omega) (by omega) (fun c_16 => absurd c_16 (by omega)) (fun c_16 => ?_)
    refine mx_il1 d_Mo_dearest_19 ?_
    refine mx_ic_m1 d_Mo_dearest_20 ?_
    refine mx_icmp_eq 37 d_Mo_dearest_21 (by decide) (fun c_21 => ?_) (fun c_21 => ?_)
    · skip
      refine mx_il2 d_Mo_dearest_37 ?_
      refine mx_is1 d_Mo_dearest_38 ?_
      refine mx_iN2 d_Mo_dearest_39 ?_
      refine mx_goto 9 d_Mo_dearest_42 (by decide) ?_
      have e1 : nI (g) = (vs_dear m H (g + 1)) := by rw [vs_dear_s]; first | rw [if_pos (Or.inl (by assumption))] | rw [if_pos (Or.inr (by rw [ebc]; assumption))] | rw [if_pos (Or.inr (by rw [ebc]; exact Int32.not_le.mp (by assumption)))] | rw [if_neg (fun h9 => h9.elim (fun h9 => absurd h9 (by assumption)) (fun h9 => by rw [ebc] at h9; exact absurd h9 (Int32.not_lt.mpr (by assumption))))]
      rw [e1]
      exact ih
    · skip
      obtain ⟨b, hb, eb⟩ := vs_dear_in m H g (by omega) c_21
      have ebc : (vs_dear m H g).toNatClampNeg = b := by rw [eb]; exact nI_clamp (by omega)
      refine mx_al0 d_Mo_dearest_24 ?_
      refine mx_il2 d_Mo_dearest_25 ?_
      refine mx_cV1i d_Mo_dearest_26 (cm_likedOf hM (vs_hm hm) hH hH8 (g := g) (by omega)) ok_Mo_likedOf ml_Mo_328 (by assumption) ⟨rfl, rfl⟩ (by decide) (Nat.le_of_ble_eq_true rfl) ?_
      refine mx_al0 d_Mo_dearest_29 ?_
      refine mx_il1 d_Mo_dearest_30 ?_
      refine mx_ti (y := nI (b)) (eb) ?_
      refine mx_cV1i d_Mo_dearest_31 (cm_likedOf hM (vs_hm hm) hH hH8 (g := b) (by omega)) ok_Mo_likedOf ml_Mo_328 (by assumption) ⟨rfl, rfl⟩ (by decide) (Nat.le_of_ble_eq_true rfl) ?_
      refine mx_icmp_le 39 d_Mo_dearest_34 (by decide) (fun c_34 => ?_) (fun c_34 => ?_)
      · skip
        refine mx_iN2 d_Mo_dearest_39 ?_
        refine mx_goto 9 d_Mo_dearest_42 (by decide) ?_
        have e1 : (vs_dear m H g) = (vs_dear m H (g + 1)) := by rw [vs_dear_s]; first | rw [if_pos (Or.inl (by assumption))] | rw [if_pos (Or.inr (by rw [ebc]; assumption))] | rw [if_pos (Or.inr (by rw [ebc]; exact Int32.not_le.mp (by assumption)))] | rw [if_neg (fun h9 => h9.elim (fun h9 => absurd h9 (by assumption)) (fun h9 => by rw [ebc] at h9; exact absurd h9 (Int32.not_lt.mpr (by assumption))))]
        rw [e1]
        exact ih
      · skip
        refine mx_il2 d_Mo_dearest_37 ?_
        refine mx_is1 d_Mo_dearest_38 ?_
        refine mx_iN2 d_Mo_dearest_39 ?_
        refine mx_goto 9 d_Mo_dearest_42 (by decide) ?_
        have e1 : nI (g) = (vs_dear m H (g + 1)) := by rw [vs_dear_s]; first | rw [if_pos (Or.inl (by assumption))] | rw [if_pos (Or.inr (by rw [ebc]; assumption))] | rw [if_pos (Or.inr (by rw [ebc]; exact Int32.not_le.mp (by assumption)))] | rw [if_neg (fun h9 => h9.elim (fun h9 => absurd h9 (by assumption)) (fun h9 => by rw [ebc] at h9; exact absurd h9 (Int32.not_lt.mpr (by assumption))))]
        rw [e1]
        exact ih
  · try dsimp only
    refine mx_il2 d_Mo_dearest_9 ?_
    refine mx_al0 d_Mo_dearest_10 ?_
    refine mx_getR d_Mo_dearest_11 fl_Mo_7 (by assumption) (by assumption) ?_
    refine mx_in_4 d_Mo_dearest_14 ?_
    refine mx_iald d_Mo_dearest_15 (by assumption) (nI_inb (by omega) (by omega)) ?_
    refine mx_ti (y := (mx_up I (mo) 0 (nI (0))) (mo + 1) (4)) (by rw [nI_clamp (by omega)]) ?_
    refine mx_ti (y := nI (G)) ((congrFun (vs_hm hm) 4).trans hG) ?_
    refine mx_icN_ge 45 d_Mo_dearest_16 (by decide) (by omega) (by omega) (fun c_16 => ?_) (fun c_16 => absurd c_16 (by omega))
    refine mx_il1 d_Mo_dearest_45 ?_
    exact mx_iret d_Mo_dearest_46 rfl (mx_ri_of2 rfl rfl)
theorem vs_k2 {k : Nat} (hk : k < 4) : nI k / nI 2 = nI (k / 2) := by
  have : ∀ k, k < 4 → nI k / nI 2 = nI (k / 2) := by decide
  exact this k hk
theorem vs_k2m {k : Nat} (hk : k < 4) : nI k - nI k / nI 2 * nI 2 = nI (k % 2) := by
  have : ∀ k, k < 4 → nI k - nI k / nI 2 * nI 2 = nI (k % 2) := by decide
  exact this k hk
def vs_gate (a b : Nat) : Int32 := if a = 0 then (if b = 1 then nI 3 else (-1)) else (if b = 1 then (-2) else nI 0)
def vs_comer (m : Nat → Int32) (h g a b : Nat) : Int32 := if b = 0 then (if vs_pass m (m (43 + 3 * g + 2)) then m (131 + 8 * g + h) else nI 0) else if a = 0 then (-3) else m (131 + 8 * g + h) + nI 1
def vs_rest (m : Nat → Int32) (h g a b : Nat) : Bool := decide (vs_gate (1 - a) b ≤ vs_gate a b) && decide (vs_comer m h g a (1 - b) ≤ vs_comer m h g a b)
def vs_restK (m : Nat → Int32) (h g n : Nat) : Int32 := vf n (fun k s => if vs_rest m h g (k / 2) (k % 2) then s ||| (nI 1 <<< (nI k &&& 31)) else s) (nI 0)
def vs_restQ (m : Nat → Int32) (h g a n : Nat) (s : Int32) : Int32 := vf n (fun b s => if vs_rest m h g a b then s ||| (nI 1 <<< (nI (2 * a + b) &&& 31)) else s) s
def vs_restP (m : Nat → Int32) (h g n : Nat) : Int32 := vf n (fun a s => vs_restQ m h g a 2 s) (nI 0)
theorem vs_fold4 {α : Type} (F : Nat → Nat → Nat → α → α) (z : α) : vf 2 (fun a s => vf 2 (fun b s => F a b (2 * a + b) s) s) z = vf 4 (fun k s => F (k / 2) (k % 2) k s) z := rfl
theorem vs_rest_eq (m : Nat → Int32) (h g : Nat) : vs_restP m h g 2 = vs_restK m h g 4 := vs_fold4 (fun a b k s => if vs_rest m h g a b then s ||| (nI 1 <<< (nI k &&& 31)) else s) (nI 0)
def sp_rests (m : Nat → Int32) (H G : Nat) (v w : Int32) : Nat × Int32 := if vs_isN v H && vs_isN w G then (0, vs_restK m v.toNatClampNeg w.toNatClampNeg 4) else (1, nI 0)
theorem c_Vh_gateJoy {a b : Nat} (ha : a < 2) (hb : b < 2) : mx_C l E M_Vh_gateJoy 0 0 0 [.int (nI (a)), .int (nI (b))] (t, S, I, P, J) (mx_ri (vs_gate a b) (t, S, I, P, J)) := by
  refine mx_C_of (ls0 := [some (.int (nI (a))), some (.int (nI (b)))]) (by decide +kernel) rfl rfl (Nat.le_of_ble_eq_true rfl) rfl ?_
  refine mx_il0 d_Vh_gateJoy_0 ?_
  refine mx_if_ne 15 d_Vh_gateJoy_1 (by decide) (fun c_1 => ?_) (fun c_1 => ?_)
  · skip
    have ha1 : ¬ a = 0 := fun e => c_1 (by rw [e]; rfl)
    refine mx_il1 d_Vh_gateJoy_15 ?_
    refine mx_in_1 d_Vh_gateJoy_16 ?_
    refine mx_icN_ne 25 d_Vh_gateJoy_17 (by decide) (by omega) (by omega) (fun c_17 => ?_) (fun c_17 => ?_)
    · skip
      refine mx_in_0 d_Vh_gateJoy_25 ?_
      exact mx_iret d_Vh_gateJoy_26 rfl (mx_ri_of (by simp_all [vs_gate, nI_ne0]))
    · skip
      refine mx_bipush (v := -2) d_Vh_gateJoy_20 (by decide) ?_
      refine mx_goto 26 d_Vh_gateJoy_22 (by decide) ?_
      exact mx_iret d_Vh_gateJoy_26 rfl (mx_ri_of (by simp_all [vs_gate, nI_ne0]))
  · skip
    have ha0 : a = 0 := (nI_eq (b := 0) (by omega) (by omega)).mp c_1
    refine mx_il1 d_Vh_gateJoy_4 ?_
    refine mx_in_1 d_Vh_gateJoy_5 ?_
    refine mx_icN_ne 13 d_Vh_gateJoy_6 (by decide) (by omega) (by omega) (fun c_6 => ?_) (fun c_6 => ?_)
    · skip
      refine mx_ic_m1 d_Vh_gateJoy_13 ?_
      exact mx_iret d_Vh_gateJoy_14 rfl (mx_ri_of (by simp_all [vs_gate, nI_ne0]))
    · skip
      refine mx_in_3 d_Vh_gateJoy_9 ?_
      refine mx_goto 14 d_Vh_gateJoy_10 (by decide) ?_
      exact mx_iret d_Vh_gateJoy_14 rfl (mx_ri_of (by simp_all [vs_gate, nI_ne0]))
theorem c_Mo_gateHas {a b : Nat} (ha : a < 2) (hb : b < 2) : mx_C l E M_Mo_gateHas 0 0 0 [.int (nI (a)), .int (nI (b))] (t, S, I, P, J) (mx_ri (vs_gate a b) (t, S, I, P, J)) := by
  refine mx_C_of (ls0 := [some (.int (nI (a))), some (.int (nI (b)))]) (by decide +kernel) rfl rfl (Nat.le_of_ble_eq_true rfl) rfl ?_
  refine mx_il0 d_Mo_gateHas_0 ?_
  refine mx_if_ne 16 d_Mo_gateHas_1 (by decide) (fun c_1 => ?_) (fun c_1 => ?_)
  · skip
    have ha1 : ¬ a = 0 := fun e => c_1 (by rw [e]; rfl)
    refine mx_il1 d_Mo_gateHas_16 ?_
    refine mx_if_ne 24 d_Mo_gateHas_17 (by decide) (fun c_17 => ?_) (fun c_17 => ?_)
    · skip
      have hb1 : ¬ b = 0 := fun e => c_17 (by rw [e]; rfl)
      refine mx_bipush (v := -2) d_Mo_gateHas_24 (by decide) ?_
      exact mx_iret d_Mo_gateHas_26 rfl (mx_ri_of (by first | (simp [vs_gate, *]; done) | (obtain rfl : b = 1 := (by omega); obtain rfl : a = 1 := (by omega); rfl) | (obtain rfl : b = 1 := (by omega); obtain rfl : a = 0 := (by omega); rfl)))
    · skip
      have hb0 : b = 0 := (nI_eq (b := 0) (by omega) (by omega)).mp c_17
      refine mx_in_0 d_Mo_gateHas_20 ?_
      refine mx_goto 26 d_Mo_gateHas_21 (by decide) ?_
      exact mx_iret d_Mo_gateHas_26 rfl (mx_ri_of (by first | (simp [vs_gate, *]; done) | (obtain rfl : b = 1 := (by omega); obtain rfl : a = 1 := (by omega); rfl) | (obtain rfl : b = 1 := (by omega); obtain rfl : a = 0 := (by omega); rfl)))
  · skip
    have ha0 : a = 0 := (nI_eq (b := 0) (by omega) (by omega)).mp c_1
    refine mx_il1 d_Mo_gateHas_4 ?_
    refine mx_if_ne 12 d_Mo_gateHas_5 (by decide) (fun c_5 => ?_) (fun c_5 => ?_)
    · skip
      have hb1 : ¬ b = 0 := fun e => c_5 (by rw [e]; rfl)
      refine mx_in_3 d_Mo_gateHas_12 ?_
      refine mx_goto 26 d_Mo_gateHas_13 (by decide) ?_
      exact mx_iret d_Mo_gateHas_26 rfl (mx_ri_of (by first | (simp [vs_gate, *]; done) | (obtain rfl : b = 1 := (by omega); obtain rfl : a = 1 := (by omega); rfl) | (obtain rfl : b = 1 := (by omega); obtain rfl : a = 0 := (by omega); rfl)))
    · skip
      have hb0 : b = 0 := (nI_eq (b := 0) (by omega) (by omega)).mp c_5
      refine mx_ic_m1 d_Mo_gateHas_8 ?_
      refine mx_goto 26 d_Mo_gateHas_9 (by decide) ?_
      exact mx_iret d_Mo_gateHas_26 rfl (mx_ri_of (by first | (simp [vs_gate, *]; done) | (obtain rfl : b = 1 := (by omega); obtain rfl : a = 1 := (by omega); rfl) | (obtain rfl : b = 1 := (by omega); obtain rfl : a = 0 := (by omega); rfl)))
theorem c_Vh_comingJoy (hV : vh_ok S P x) (hSt : st_ok S P (x + 23)) (hSr : st_rel I (x + 23) m) {h g a b : Nat} (hh : h < 8) (hg : g < 8) (ha : a < 2) (hb : b < 2) : mx_C l E M_Vh_comingJoy 3 0 0 [.ref (x), .int (nI (h)), .int (nI (g)), .int (nI (a)), .int (nI (b))] (t, S, I, P, J) (mx_ri (vs_comer m h g a b) (t, S, I, P, J)) := by
  obtain ⟨hV0, hVp0, hVp1, hVp2, hVp3, hVp4, hVp5, hVp7, hVp8, hVp9, hVp10, hVp11, hVp12, hVs15, hVs16, hVs68⟩ := id hV
  obtain ⟨hC0, hC1, hC2, hC3, hC4, hC5, hC6, hD1, hD2, hD3, hD4, hPe, hLo⟩ := id hSt
  obtain ⟨hPr, u0, u1, u2, u3, u4, u5, u6, u7, u8⟩ := id hSr
  obtain ⟨hA0, hA1, hA2, hA3, hA4, hA5, hA6, hA7, hB1, hB2, hB3, hB4, hB5, hB6, hB7⟩ := id hPe
  obtain ⟨r0, r1, r2, r3, r4, r5, r6, r7, r8⟩ := id hPr
  refine mx_C_of (ls0 := [some (.ref (x)), some (.int (nI (h))), some (.int (nI (g))), some (.int (nI (a))), some (.int (nI (b))), none]) (by decide +kernel) rfl rfl (Nat.le_of_ble_eq_true rfl) rfl ?_
  refine mx_al0 d_Vh_comingJoy_0 ?_
  refine mx_getR d_Vh_comingJoy_1 fl_Vh_51 (by assumption) (by assumption) ?_
  refine mx_getR d_Vh_comingJoy_4 fl_Vh_162 (by assumption) (by assumption) ?_
  refine mx_il1 d_Vh_comingJoy_7 ?_
  refine mx_il2 d_Vh_comingJoy_8 ?_
  refine mx_in_0 d_Vh_comingJoy_9 ?_
  refine mx_cV3i d_Vh_comingJoy_10 (c_Pe_rank0 hPe hPr (h := h) (g := g) (by omega) (by omega)) ok_Pe_rankOf ml_Vh_222 (by assumption) ⟨rfl, rfl⟩ (by decide) (Nat.le_of_ble_eq_true rfl) ?_
  refine mx_is5 d_Vh_comingJoy_13 ?_
  refine mx_il4 d_Vh_comingJoy_15 ?_
  refine mx_if_ne 38 d_Vh_comingJoy_17 (by decide) (fun c_17 => ?_) (fun c_17 => ?_)
  · skip
    have hb1 : ¬ b = 0 := fun e => c_17 (by rw [e]; rfl)
    refine mx_il3 d_Vh_comingJoy_38 ?_
    refine mx_if_ne 47 d_Vh_comingJoy_39 (by decide) (fun c_39 => ?_) (fun c_39 => ?_)
    · skip
      have ha1 : ¬ a = 0 := fun e => c_39 (by rw [e]; rfl)
      refine mx_il5 d_Vh_comingJoy_47 ?_
      refine mx_in_1 d_Vh_comingJoy_49 ?_
      refine mx_iadd d_Vh_comingJoy_50 ?_
      exact mx_iret d_Vh_comingJoy_51 rfl (mx_ri_of (by simp [vs_comer, *]))
    · skip
      have ha0 : a = 0 := (nI_eq (b := 0) (by omega) (by omega)).mp c_39
      refine mx_bipush (v := -3) d_Vh_comingJoy_42 (by decide) ?_
      refine mx_goto 51 d_Vh_comingJoy_44 (by decide) ?_
      exact mx_iret d_Vh_comingJoy_51 rfl (mx_ri_of (by simp [vs_comer, *]))
  · skip
    have hb0 : b = 0 := (nI_eq (b := 0) (by omega) (by omega)).mp c_17
    refine mx_al0 d_Vh_comingJoy_20 ?_
    refine mx_getR d_Vh_comingJoy_21 fl_Vh_51 (by assumption) (by assumption) ?_
    refine mx_il2 d_Vh_comingJoy_24 ?_
    refine mx_cV1i d_Vh_comingJoy_25 (c_St_isMarked hSt hSr (g := g) (by omega)) ok_St_isMarked ml_Vh_217 (by assumption) ⟨rfl, rfl⟩ (by decide) (Nat.le_of_ble_eq_true rfl) ?_
    refine mx_ifB_eq 36 d_Vh_comingJoy_28 (by decide) (fun c_28 => ?_) (fun c_28 => ?_)
    · skip
      refine mx_in_0 d_Vh_comingJoy_36 ?_
      exact mx_iret d_Vh_comingJoy_37 rfl (mx_ri_of (by simp [vs_comer, *]))
    · skip
      refine mx_il5 d_Vh_comingJoy_31 ?_
      refine mx_goto 37 d_Vh_comingJoy_33 (by decide) ?_
      exact mx_iret d_Vh_comingJoy_37 rfl (mx_ri_of (by simp [vs_comer, *]))
theorem c_Mo_comerHas (hM : mo_ok S P mo) (hm : I (mo + 1) = m) {h g a b : Nat} (hh : h < 8) (hg : g < 8) (ha : a < 2) (hb : b < 2) : mx_C l E M_Mo_comerHas 2 0 0 [.ref (mo), .int (nI (h)), .int (nI (g)), .int (nI (a)), .int (nI (b))] (t, S, I, P, J) (mx_ri (vs_comer m h g a b) (t, S, I, P, J)) := by
  obtain ⟨hM0, hMp1, hMp2, hMp4, hMp5, hMp7, hMp14, hMp21, hMp22, hMp23, hMp24, hMp25, hMp26, hMp27, hMs1, hMs2, hMs3, hMs4, hMs5, hMs6, hMs7, hMs8, hMs9, hMs10, hMs11, hMs12, hMs13⟩ := id hM
  refine mx_C_of (ls0 := [some (.ref (mo)), some (.int (nI (h))), some (.int (nI (g))), some (.int (nI (a))), some (.int (nI (b)))]) (by decide +kernel) rfl rfl (Nat.le_of_ble_eq_true rfl) rfl ?_
  refine mx_il4 d_Mo_comerHas_0 ?_
  refine mx_if_ne 29 d_Mo_comerHas_2 (by decide) (fun c_2 => ?_) (fun c_2 => ?_)
  · skip
    have hb1 : ¬ b = 0 := fun e => c_2 (by rw [e]; rfl)
    refine mx_il3 d_Mo_comerHas_29 ?_
    refine mx_if_ne 38 d_Mo_comerHas_30 (by decide) (fun c_30 => ?_) (fun c_30 => ?_)
    · skip
      have ha1 : ¬ a = 0 := fun e => c_30 (by rw [e]; rfl)
      refine mx_al0 d_Mo_comerHas_38 ?_
      refine mx_il1 d_Mo_comerHas_39 ?_
      refine mx_il2 d_Mo_comerHas_40 ?_
      refine mx_cV2i d_Mo_comerHas_41 (cm_lovedOf hM hm (h := h) (g := g) (by omega) (by omega)) ok_Mo_lovedOf ml_Mo_65 (by assumption) ⟨rfl, rfl⟩ (by decide) (Nat.le_of_ble_eq_true rfl) ?_
      refine mx_in_1 d_Mo_comerHas_44 ?_
      refine mx_iadd d_Mo_comerHas_45 ?_
      exact mx_iret d_Mo_comerHas_46 rfl (mx_ri_of (by simp [vs_comer, *]))
    · skip
      have ha0 : a = 0 := (nI_eq (b := 0) (by omega) (by omega)).mp c_30
      refine mx_bipush (v := -3) d_Mo_comerHas_33 (by decide) ?_
      refine mx_goto 46 d_Mo_comerHas_35 (by decide) ?_
      exact mx_iret d_Mo_comerHas_46 rfl (mx_ri_of (by simp [vs_comer, *]))
  · skip
    have hb0 : b = 0 := (nI_eq (b := 0) (by omega) (by omega)).mp c_2
    refine mx_al0 d_Mo_comerHas_5 ?_
    refine mx_al0 d_Mo_comerHas_6 ?_
    refine mx_il2 d_Mo_comerHas_7 ?_
    refine mx_in_2 d_Mo_comerHas_8 ?_
    refine mx_cV2i d_Mo_comerHas_9 (cm_ofGuest hM hm (g := g) (k := 2) (by omega) (by omega)) ok_Mo_ofGuest ml_Mo_71 (by assumption) ⟨rfl, rfl⟩ (by decide) (Nat.le_of_ble_eq_true rfl) ?_
    refine mx_cV1i d_Mo_comerHas_12 (cm_passes hM hm) ok_Mo_passes ml_Mo_268 (by assumption) ⟨rfl, rfl⟩ (by decide) (Nat.le_of_ble_eq_true rfl) ?_
    refine mx_ifB_eq 27 d_Mo_comerHas_15 (by decide) (fun c_15 => ?_) (fun c_15 => ?_)
    · skip
      refine mx_in_0 d_Mo_comerHas_27 ?_
      exact mx_iret d_Mo_comerHas_28 rfl (mx_ri_of (by simp [vs_comer, *]))
    · skip
      refine mx_al0 d_Mo_comerHas_18 ?_
      refine mx_il1 d_Mo_comerHas_19 ?_
      refine mx_il2 d_Mo_comerHas_20 ?_
      refine mx_cV2i d_Mo_comerHas_21 (cm_lovedOf hM hm (h := h) (g := g) (by omega) (by omega)) ok_Mo_lovedOf ml_Mo_65 (by assumption) ⟨rfl, rfl⟩ (by decide) (Nat.le_of_ble_eq_true rfl) ?_
      refine mx_goto 28 d_Mo_comerHas_24 (by decide) ?_
      exact mx_iret d_Mo_comerHas_28 rfl (mx_ri_of (by simp [vs_comer, *]))
theorem c_Vh_rests (htr : l.stackTraces = false) (hV : vh_ok S P x) (hSt : st_ok S P (x + 23)) (hSr : st_rel I (x + 23) m) (hH : m 3 = nI H) (hH8 : H ≤ 8) (hG : m 4 = nI G) (hG8 : G ≤ 8) {v w : Int32} : mx_C l E M_Vh_rests 7 2 12 [.ref (x), .int (v), .int (w)] (t, S, I, P, J) (mx_po (fun _ => "java/lang/IndexOutOfBoundsException") (sp_rests m H G v w) (t, S, I, P, J)) := by
  obtain ⟨hV0, hVp0, hVp1, hVp2, hVp3, hVp4, hVp5, hVp7, hVp8, hVp9, hVp10, hVp11, hVp12, hVs15, hVs16, hVs68⟩ := id hV
  obtain ⟨hC0, hC1, hC2, hC3, hC4, hC5, hC6, hD1, hD2, hD3, hD4, hPe, hLo⟩ := id hSt
  obtain ⟨hPr, u0, u1, u2, u3, u4, u5, u6, u7, u8⟩ := id hSr
  obtain ⟨hA0, hA1, hA2, hA3, hA4, hA5, hA6, hA7, hB1, hB2, hB3, hB4, hB5, hB6, hB7⟩ := id hPe
  obtain ⟨r0, r1, r2, r3, r4, r5, r6, r7, r8⟩ := id hPr
  refine mx_C_of (ls0 := [some (.ref (x)), some (.int (v)), some (.int (w)), none, none, none, none, none]) (by decide +kernel) rfl rfl (Nat.le_of_ble_eq_true rfl) rfl ?_
  refine mx_al0 d_Vh_rests_0 ?_
  refine mx_il1 d_Vh_rests_1 ?_
  refine mx_nV1 d_Vh_rests_2 (c_needHost htr hV hSt hSr hH hH8) ok_Vh_needHost ml_Vh_159 (by assumption) ⟨rfl, rfl⟩ rfl (by decide) (by decide) (by decide) (Nat.le_of_ble_eq_true rfl) (fun hb2 t9 ht => mx_po_x ht 0 (by simp_all [sp_rests]) rfl) (fun hb2 => ?_)
  obtain ⟨h, hhL, rfl⟩ := vs_isN_of (by omega) hb2
  have hhc : (nI h).toNatClampNeg = h := nI_clamp (by omega)
  have hhL8 : h < 8 := by omega
  refine mx_al0 d_Vh_rests_5 ?_
  refine mx_il2 d_Vh_rests_6 ?_
  refine mx_nV1 d_Vh_rests_7 (c_needGuest htr hV hSt hSr hG hG8) ok_Vh_needGuest ml_Vh_199 (by assumption) ⟨rfl, rfl⟩ rfl (by decide) (by decide) (by decide) (Nat.le_of_ble_eq_true rfl) (fun hb7 t9 ht => mx_po_x ht 0 (by simp_all [sp_rests]) rfl) (fun hb7 => ?_)
  obtain ⟨g, hgL, rfl⟩ := vs_isN_of (by omega) hb7
  have hgc : (nI g).toNatClampNeg = g := nI_clamp (by omega)
  have hgL8 : g < 8 := by omega
  refine mx_in_0 d_Vh_rests_10 ?_
  refine mx_is3 d_Vh_rests_11 ?_
  refine mx_in_0 d_Vh_rests_12 ?_
  refine mx_is4 d_Vh_rests_13 ?_
  refine mx_loop (N := 2) (ls := fun a => [some (.ref (x)), some (.int (nI (h))), some (.int (nI (g))), some (.int ((vs_restP m h g a))), some (.int (nI (a))), none, none, none]) (X := fun a => (t, S, I, P, J)) (fun a ha ih => ?_) ?_
  · try dsimp only
    refine mx_il4 d_Vh_rests_15 ?_
    refine mx_in_1 d_Vh_rests_17 ?_
    refine mx_icN_gt 122 d_Vh_rests_18 (by decide) (by omega) (by omega) (fun c_18 => absurd c_18 (by omega)) (fun c_18 => ?_)
    refine mx_in_0 d_Vh_rests_21 ?_
    refine mx_is5 d_Vh_rests_22 ?_
    have ih15 := ih
    refine mx_loop (N := 2) (ls := fun b => [some (.ref (x)), some (.int (nI (h))), some (.int (nI (g))), some (.int ((vs_restQ m h g a b (vs_restP m h g a)))), some (.int (nI (a))), some (.int (nI (b))), none, none]) (X := fun b => (t, S, I, P, J)) (fun b hb ih => ?_) ?_
    · try dsimp only
      refine mx_il5 d_Vh_rests_24 ?_
      refine mx_in_1 d_Vh_rests_26 ?_
      refine mx_icN_gt 116 d_Vh_rests_27 (by decide) (by omega) (by omega) (fun c_27 => absurd c_27 (by omega)) (fun c_27 => ?_)
      refine mx_il4 d_Vh_rests_30 ?_
      refine mx_il5 d_Vh_rests_32 ?_
      refine mx_cS2i d_Vh_rests_34 (c_Vh_gateJoy (a := a) (b := b) (by omega) (by omega)) ok_Vh_gateJoy ml_Vh_402 (by decide) (Nat.le_of_ble_eq_true rfl) ?_
      refine mx_in_1 d_Vh_rests_37 ?_
      refine mx_il4 d_Vh_rests_38 ?_
      refine mx_isubN d_Vh_rests_40 (by omega) ?_
      refine mx_il5 d_Vh_rests_41 ?_
      refine mx_cS2i d_Vh_rests_43 (c_Vh_gateJoy (a := 1 - a) (b := b) (by omega) (by omega)) ok_Vh_gateJoy ml_Vh_402 (by decide) (Nat.le_of_ble_eq_true rfl) ?_
      refine mx_icmp_lt 53 d_Vh_rests_46 (by decide) (fun c_46 => ?_) (fun c_46 => ?_)
      · skip
        have n46 := Int32.not_le.mpr c_46
        refine mx_in_0 d_Vh_rests_53 ?_
        refine mx_is6 d_Vh_rests_54 ?_
        refine mx_al0 d_Vh_rests_56 ?_
        refine mx_il1 d_Vh_rests_57 ?_
        refine mx_il2 d_Vh_rests_58 ?_
        refine mx_il4 d_Vh_rests_59 ?_
        refine mx_il5 d_Vh_rests_61 ?_
        refine mx_cV4i d_Vh_rests_63 (c_Vh_comingJoy hV hSt hSr (h := h) (g := g) (a := a) (b := b) (by omega) (by omega) (by omega) (by omega)) ok_Vh_comingJoy ml_Vh_405 (by assumption) ⟨rfl, rfl⟩ (by decide) (Nat.le_of_ble_eq_true rfl) ?_
        refine mx_al0 d_Vh_rests_66 ?_
        refine mx_il1 d_Vh_rests_67 ?_
        refine mx_il2 d_Vh_rests_68 ?_
        refine mx_il4 d_Vh_rests_69 ?_
        refine mx_in_1 d_Vh_rests_71 ?_
        refine mx_il5 d_Vh_rests_72 ?_
        refine mx_isubN d_Vh_rests_74 (by omega) ?_
        refine mx_cV4i d_Vh_rests_75 (c_Vh_comingJoy hV hSt hSr (h := h) (g := g) (a := a) (b := 1 - b) (by omega) (by omega) (by omega) (by omega)) ok_Vh_comingJoy ml_Vh_405 (by assumption) ⟨rfl, rfl⟩ (by decide) (Nat.le_of_ble_eq_true rfl) ?_
        refine mx_icmp_lt 85 d_Vh_rests_78 (by decide) (fun c_78 => ?_) (fun c_78 => ?_)
        · skip
          have n78 := Int32.not_le.mpr c_78
          refine mx_in_0 d_Vh_rests_85 ?_
          refine mx_is7 d_Vh_rests_86 ?_
          refine mx_il6 d_Vh_rests_88 ?_
          refine mx_if_eq 110 d_Vh_rests_90 (by decide) (fun c_90 => ?_) (fun c_90 => absurd (by decide) c_90)
          refine mx_iN5 d_Vh_rests_110 ?_
          refine mx_goto 24 d_Vh_rests_113 (by decide) ?_
          refine mx_dn6 ?_
          refine mx_dn7 ?_
          have e3 : (vs_restQ m h g a b (vs_restP m h g a)) = (vs_restQ m h g a (b + 1) (vs_restP m h g a)) := by first | rfl | simp [vs_restQ, vf_s, vs_rest, *]
          rw [e3]
          exact ih
        · skip
          have n78 := Int32.not_lt.mp c_78
          refine mx_in_1 d_Vh_rests_81 ?_
          refine mx_goto 86 d_Vh_rests_82 (by decide) ?_
          refine mx_is7 d_Vh_rests_86 ?_
          refine mx_il6 d_Vh_rests_88 ?_
          refine mx_if_eq 110 d_Vh_rests_90 (by decide) (fun c_90 => ?_) (fun c_90 => absurd (by decide) c_90)
          refine mx_iN5 d_Vh_rests_110 ?_
          refine mx_goto 24 d_Vh_rests_113 (by decide) ?_
          refine mx_dn6 ?_
          refine mx_dn7 ?_
          have e3 : (vs_restQ m h g a b (vs_restP m h g a)) = (vs_restQ m h g a (b + 1) (vs_restP m h g a)) := by first | rfl | simp [vs_restQ, vf_s, vs_rest, *]
          rw [e3]
          exact ih
      · skip
        have n46 := Int32.not_lt.mp c_46
        refine mx_in_1 d_Vh_rests_49 ?_
        refine mx_goto 54 d_Vh_rests_50 (by decide) ?_
        refine mx_is6 d_Vh_rests_54 ?_
        refine mx_al0 d_Vh_rests_56 ?_
        refine mx_il1 d_Vh_rests_57 ?_
        refine mx_il2 d_Vh_rests_58 ?_
        refine mx_il4 d_Vh_rests_59 ?_
        refine mx_il5 d_Vh_rests_61 ?_
        refine mx_cV4i d_Vh_rests_63 (c_Vh_comingJoy hV hSt hSr (h := h) (g := g) (a := a) (b := b) (by omega) (by omega) (by omega) (by omega)) ok_Vh_comingJoy ml_Vh_405 (by assumption) ⟨rfl, rfl⟩ (by decide) (Nat.le_of_ble_eq_true rfl) ?_
        refine mx_al0 d_Vh_rests_66 ?_
        refine mx_il1 d_Vh_rests_67 ?_
        refine mx_il2 d_Vh_rests_68 ?_
        refine mx_il4 d_Vh_rests_69 ?_
        refine mx_in_1 d_Vh_rests_71 ?_
        refine mx_il5 d_Vh_rests_72 ?_
        refine mx_isubN d_Vh_rests_74 (by omega) ?_
        refine mx_cV4i d_Vh_rests_75 (c_Vh_comingJoy hV hSt hSr (h := h) (g := g) (a := a) (b := 1 - b) (by omega) (by omega) (by omega) (by omega)) ok_Vh_comingJoy ml_Vh_405 (by assumption) ⟨rfl, rfl⟩ (by decide) (Nat.le_of_ble_eq_true rfl) ?_
        refine mx_icmp_lt 85 d_Vh_rests_78 (by decide) (fun c_78 => ?_) (fun c_78 => ?_)
        · skip
          have n78 := Int32.not_le.mpr c_78
          refine mx_in_0 d_Vh_rests_85 ?_
          refine mx_is7 d_Vh_rests_86 ?_
          refine mx_il6 d_Vh_rests_88 ?_
          refine mx_if_eq 110 d_Vh_rests_90 (by decide) (fun c_90 => absurd c_90 (by decide)) (fun c_90 => ?_)
          refine mx_il7 d_Vh_rests_93 ?_
          refine mx_if_eq 110 d_Vh_rests_95 (by decide) (fun c_95 => ?_) (fun c_95 => absurd (by decide) c_95)
          refine mx_iN5 d_Vh_rests_110 ?_
          refine mx_goto 24 d_Vh_rests_113 (by decide) ?_
          refine mx_dn6 ?_
          refine mx_dn7 ?_
          have e3 : (vs_restQ m h g a b (vs_restP m h g a)) = (vs_restQ m h g a (b + 1) (vs_restP m h g a)) := by first | rfl | simp [vs_restQ, vf_s, vs_rest, *]
          rw [e3]
          exact ih
        · skip
          have n78 := Int32.not_lt.mp c_78
          refine mx_in_1 d_Vh_rests_81 ?_
          refine mx_goto 86 d_Vh_rests_82 (by decide) ?_
          refine mx_is7 d_Vh_rests_86 ?_
          refine mx_il6 d_Vh_rests_88 ?_
          refine mx_if_eq 110 d_Vh_rests_90 (by decide) (fun c_90 => absurd c_90 (by decide)) (fun c_90 => ?_)
          refine mx_il7 d_Vh_rests_93 ?_
          refine mx_if_eq 110 d_Vh_rests_95 (by decide) (fun c_95 => absurd c_95 (by decide)) (fun c_95 => ?_)
          refine mx_il3 d_Vh_rests_98 ?_
          refine mx_in_1 d_Vh_rests_99 ?_
          refine mx_in_2 d_Vh_rests_100 ?_
          refine mx_il4 d_Vh_rests_101 ?_
          refine mx_imulN d_Vh_rests_103 ?_
          refine mx_il5 d_Vh_rests_104 ?_
          refine mx_iaddN d_Vh_rests_106 ?_
          refine mx_ishl d_Vh_rests_107 ?_
          refine mx_ior d_Vh_rests_108 ?_
          refine mx_is3 d_Vh_rests_109 ?_
          refine mx_iN5 d_Vh_rests_110 ?_
          refine mx_goto 24 d_Vh_rests_113 (by decide) ?_
          refine mx_dn6 ?_
          refine mx_dn7 ?_
          have e3 : ((vs_restQ m h g a b (vs_restP m h g a)) ||| (nI (1) <<< (nI (2 * a + b) &&& 31))) = (vs_restQ m h g a (b + 1) (vs_restP m h g a)) := by first | rfl | simp [vs_restQ, vf_s, vs_rest, *]
          rw [e3]
          exact ih
    · try dsimp only
      refine mx_il5 d_Vh_rests_24 ?_
      refine mx_in_1 d_Vh_rests_26 ?_
      refine mx_icN_gt 116 d_Vh_rests_27 (by decide) (by omega) (by omega) (fun c_27 => ?_) (fun c_27 => absurd c_27 (by omega))
      refine mx_iN4 d_Vh_rests_116 ?_
      refine mx_goto 15 d_Vh_rests_119 (by decide) ?_
      refine mx_dn5 ?_
      have e3 : (vs_restQ m h g a 2 (vs_restP m h g a)) = (vs_restP m h g (a + 1)) := by rfl
      rw [e3]
      exact ih
  · try dsimp only
    refine mx_il4 d_Vh_rests_15 ?_
    refine mx_in_1 d_Vh_rests_17 ?_
    refine mx_icN_gt 122 d_Vh_rests_18 (by decide) (by omega) (by omega) (fun c_18 => ?_) (fun c_18 => absurd c_18 (by omega))
    refine mx_il3 d_Vh_rests_122 ?_
    exact mx_iret d_Vh_rests_123 rfl (mx_po_i (by simp [sp_rests, vs_rest_eq, *]))
theorem c_Mo_rests (hM : mo_ok S P mo) (hm : I (mo + 1) = m) (hH : m 3 = nI H) (hH8 : H ≤ 8) (hG : m 4 = nI G) (hG8 : G ≤ 8) {v w : Int32} : mx_C l E M_Mo_rests 4 0 0 [.ref (mo), .int (v), .int (w)] (t, S, I, P, J) (mx_ri (sp_rests m H G v w).2 (t, S, mx_up I (mo) 0 (nI (sp_rests m H G v w).1), P, J)) := by
  obtain ⟨hM0, hMp1, hMp2, hMp4, hMp5, hMp7, hMp14, hMp21, hMp22, hMp23, hMp24, hMp25, hMp26, hMp27, hMs1, hMs2, hMs3, hMs4, hMs5, hMs6, hMs7, hMs8, hMs9, hMs10, hMs11, hMs12, hMs13⟩ := id hM
  refine mx_C_of (ls0 := [some (.ref (mo)), some (.int (v)), some (.int (w)), none, none, none, none]) (by decide +kernel) rfl rfl (Nat.le_of_ble_eq_true rfl) rfl ?_
  refine mx_al0 d_Mo_rests_0 ?_
  refine mx_al0 d_Mo_rests_1 ?_
  refine mx_il1 d_Mo_rests_2 ?_
  refine mx_cV1i d_Mo_rests_3 (cm_isHost hM hm hH hH8) ok_Mo_isHost ml_Mo_310 (by assumption) ⟨rfl, rfl⟩ (by decide) (Nat.le_of_ble_eq_true rfl) ?_
  refine mx_ifB_eq 17 d_Mo_rests_6 (by decide) (fun c_6 => ?_) (fun c_6 => ?_)
  · skip
    refine mx_in_1 d_Mo_rests_17 ?_
    refine mx_goto 22 d_Mo_rests_18 (by decide) ?_
    refine mx_putI d_Mo_rests_22 fl_Mo_54 (by assumption) ?_
    refine mx_al0 d_Mo_rests_25 ?_
    refine mx_getI d_Mo_rests_26 fl_Mo_54 (by assumption) ?_
    refine mx_ti (y := nI (1)) (vs_upx) ?_
    refine mx_if_le 34 d_Mo_rests_29 (by decide) (fun c_29 => absurd c_29 (by decide)) (fun c_29 => ?_)
    refine mx_in_0 d_Mo_rests_32 ?_
    exact mx_iret d_Mo_rests_33 rfl (mx_ri_of2 (by simp [sp_rests, *]) (by simp [sp_rests, *]))
  · skip
    obtain ⟨h, hhL, rfl⟩ := vs_isN_of (by omega) c_6
    have hhc : (nI h).toNatClampNeg = h := nI_clamp (by omega)
    have hhL8 : h < 8 := by omega
    refine mx_al0 d_Mo_rests_9 ?_
    refine mx_il2 d_Mo_rests_10 ?_
    refine mx_cV1i d_Mo_rests_11 (cm_isGuest hM hm hG hG8) ok_Mo_isGuest ml_Mo_322 (by assumption) ⟨rfl, rfl⟩ (by decide) (Nat.le_of_ble_eq_true rfl) ?_
    refine mx_ifB_ne 21 d_Mo_rests_14 (by decide) (fun c_14 => ?_) (fun c_14 => ?_)
    · skip
      obtain ⟨g, hgL, rfl⟩ := vs_isN_of (by omega) c_14
      have hgc : (nI g).toNatClampNeg = g := nI_clamp (by omega)
      have hgL8 : g < 8 := by omega
      refine mx_in_0 d_Mo_rests_21 ?_
      refine mx_putI d_Mo_rests_22 fl_Mo_54 (by assumption) ?_
      refine mx_al0 d_Mo_rests_25 ?_
      refine mx_getI d_Mo_rests_26 fl_Mo_54 (by assumption) ?_
      refine mx_ti (y := nI (0)) (vs_upx) ?_
      refine mx_if_le 34 d_Mo_rests_29 (by decide) (fun c_29 => ?_) (fun c_29 => absurd (by decide) c_29)
      refine mx_in_0 d_Mo_rests_34 ?_
      refine mx_is3 d_Mo_rests_35 ?_
      refine mx_in_0 d_Mo_rests_36 ?_
      refine mx_is4 d_Mo_rests_37 ?_
      refine mx_loop (N := 4) (ls := fun k => [some (.ref (mo)), some (.int (nI (h))), some (.int (nI (g))), some (.int ((vs_restK m h g k))), some (.int (nI (k))), none, none]) (X := fun k => (t, S, (mx_up I (mo) 0 (nI (0))), P, J)) (fun k hk ih => ?_) ?_
      · try dsimp only
        refine mx_il4 d_Mo_rests_39 ?_
        refine mx_in_4 d_Mo_rests_41 ?_
        refine mx_icN_ge 114 d_Mo_rests_42 (by decide) (by omega) (by omega) (fun c_42 => absurd c_42 (by omega)) (fun c_42 => ?_)
        refine mx_il4 d_Mo_rests_45 ?_
        refine mx_in_2 d_Mo_rests_47 ?_
        refine mx_idiv d_Mo_rests_48 (by decide) ?_
        refine mx_ti (y := nI (k / 2)) (vs_k2 (by omega)) ?_
        refine mx_is5 d_Mo_rests_49 ?_
        refine mx_il4 d_Mo_rests_51 ?_
        refine mx_in_2 d_Mo_rests_53 ?_
        refine mx_irem d_Mo_rests_54 (by decide) ?_
        refine mx_ti (y := nI (k % 2)) (vs_k2m (by omega)) ?_
        refine mx_is6 d_Mo_rests_55 ?_
        refine mx_in_1 d_Mo_rests_57 ?_
        refine mx_il5 d_Mo_rests_58 ?_
        refine mx_isubN d_Mo_rests_60 (by omega) ?_
        refine mx_il6 d_Mo_rests_61 ?_
        refine mx_cS2i d_Mo_rests_63 (c_Mo_gateHas (a := 1 - (k / 2)) (b := k % 2) (by omega) (by omega)) ok_Mo_gateHas ml_Mo_418 (by decide) (Nat.le_of_ble_eq_true rfl) ?_
        refine mx_il5 d_Mo_rests_66 ?_
        refine mx_il6 d_Mo_rests_68 ?_
        refine mx_cS2i d_Mo_rests_70 (c_Mo_gateHas (a := k / 2) (b := k % 2) (by omega) (by omega)) ok_Mo_gateHas ml_Mo_418 (by decide) (Nat.le_of_ble_eq_true rfl) ?_
        refine mx_icmp_gt 108 d_Mo_rests_73 (by decide) (fun c_73 => ?_) (fun c_73 => ?_)
        · skip
          have n73 := Int32.not_le.mpr c_73
          refine mx_iN4 d_Mo_rests_108 ?_
          refine mx_goto 39 d_Mo_rests_111 (by decide) ?_
          refine mx_dn5 ?_
          refine mx_dn6 ?_
          have e3 : (vs_restK m h g k) = (vs_restK m h g (k + 1)) := by simp [vs_restK, vf_s, vs_rest, *]
          rw [e3]
          exact ih
        · skip
          have n73 := Int32.not_lt.mp c_73
          refine mx_al0 d_Mo_rests_76 ?_
          refine mx_il1 d_Mo_rests_77 ?_
          refine mx_il2 d_Mo_rests_78 ?_
          refine mx_il5 d_Mo_rests_79 ?_
          refine mx_in_1 d_Mo_rests_81 ?_
          refine mx_il6 d_Mo_rests_82 ?_
          refine mx_isubN d_Mo_rests_84 (by omega) ?_
          refine mx_cV4i d_Mo_rests_85 (c_Mo_comerHas hM (vs_hm hm) (h := h) (g := g) (a := k / 2) (b := 1 - (k % 2)) (by omega) (by omega) (by omega) (by omega)) ok_Mo_comerHas ml_Mo_421 (by assumption) ⟨rfl, rfl⟩ (by decide) (Nat.le_of_ble_eq_true rfl) ?_
          refine mx_al0 d_Mo_rests_88 ?_
          refine mx_il1 d_Mo_rests_89 ?_
          refine mx_il2 d_Mo_rests_90 ?_
          refine mx_il5 d_Mo_rests_91 ?_
          refine mx_il6 d_Mo_rests_93 ?_
          refine mx_cV4i d_Mo_rests_95 (c_Mo_comerHas hM (vs_hm hm) (h := h) (g := g) (a := k / 2) (b := k % 2) (by omega) (by omega) (by omega) (by omega)) ok_Mo_comerHas ml_Mo_421 (by assumption) ⟨rfl, rfl⟩ (by decide) (Nat.le_of_ble_eq_true rfl) ?_
          refine mx_icmp_gt 108 d_Mo_rests_98 (by decide) (fun c_98 => ?_) (fun c_98 => ?_)
          · skip
            have n98 := Int32.not_le.mpr c_98
            refine mx_iN4 d_Mo_rests_108 ?_
            refine mx_goto 39 d_Mo_rests_111 (by decide) ?_
            refine mx_dn5 ?_
            refine mx_dn6 ?_
            have e3 : (vs_restK m h g k) = (vs_restK m h g (k + 1)) := by simp [vs_restK, vf_s, vs_rest, *]
            rw [e3]
            exact ih
          · skip
            have n98 := Int32.not_lt.mp c_98
            refine mx_il3 d_Mo_rests_101 ?_
            refine mx_in_1 d_Mo_rests_102 ?_
            refine mx_il4 d_Mo_rests_103 ?_
            refine mx_ishl d_Mo_rests_105 ?_
            refine mx_ior d_Mo_rests_106 ?_
            refine mx_is3 d_Mo_rests_107 ?_
            refine mx_iN4 d_Mo_rests_108 ?_
            refine mx_goto 39 d_Mo_rests_111 (by decide) ?_
            refine mx_dn5 ?_
            refine mx_dn6 ?_
            have e3 : ((vs_restK m h g k) ||| (nI (1) <<< (nI (k) &&& 31))) = (vs_restK m h g (k + 1)) := by simp [vs_restK, vf_s, vs_rest, *]
            rw [e3]
            exact ih
      · try dsimp only
        refine mx_il4 d_Mo_rests_39 ?_
        refine mx_in_4 d_Mo_rests_41 ?_
        refine mx_icN_ge 114 d_Mo_rests_42 (by decide) (by omega) (by omega) (fun c_42 => ?_) (fun c_42 => absurd c_42 (by omega))
        refine mx_il3 d_Mo_rests_114 ?_
        exact mx_iret d_Mo_rests_115 rfl (mx_ri_of2 (by simp [sp_rests, *]) (by simp [sp_rests, *]))
    · skip
      refine mx_in_1 d_Mo_rests_17 ?_
      refine mx_goto 22 d_Mo_rests_18 (by decide) ?_
      refine mx_putI d_Mo_rests_22 fl_Mo_54 (by assumption) ?_
      refine mx_al0 d_Mo_rests_25 ?_
      refine mx_getI d_Mo_rests_26 fl_Mo_54 (by assumption) ?_
      refine mx_ti (y := nI (1)) (vs_upx) ?_
      refine mx_if_le 34 d_Mo_rests_29 (by decide) (fun c_29 => absurd c_29 (by decide)) (fun c_29 => ?_)
      refine mx_in_0 d_Mo_rests_32 ?_
      exact mx_iret d_Mo_rests_33 rfl (mx_ri_of2 (by simp [sp_rests, *]) (by simp [sp_rests, *]))
theorem c_Vh_seed (hV : vh_ok S P x) (hSt : st_ok S P (x + 23)) (hSr : st_rel I (x + 23) m) {v : Int32} : mx_C l E M_Vh_seed 0 0 0 [.ref (x), .int (v)] (t, S, I, P, J) (mx_ri (m 10) (t, S, mx_up I (x + 23) 8 v, P, J)) := by
  obtain ⟨hV0, hVp0, hVp1, hVp2, hVp3, hVp4, hVp5, hVp7, hVp8, hVp9, hVp10, hVp11, hVp12, hVs15, hVs16, hVs68⟩ := id hV
  obtain ⟨hC0, hC1, hC2, hC3, hC4, hC5, hC6, hD1, hD2, hD3, hD4, hPe, hLo⟩ := id hSt
  obtain ⟨hPr, u0, u1, u2, u3, u4, u5, u6, u7, u8⟩ := id hSr
  obtain ⟨hA0, hA1, hA2, hA3, hA4, hA5, hA6, hA7, hB1, hB2, hB3, hB4, hB5, hB6, hB7⟩ := id hPe
  obtain ⟨r0, r1, r2, r3, r4, r5, r6, r7, r8⟩ := id hPr
  refine mx_C_of (ls0 := [some (.ref (x)), some (.int (v)), none]) (by decide +kernel) rfl rfl (Nat.le_of_ble_eq_true rfl) rfl ?_
  refine mx_al0 d_Vh_seed_0 ?_
  refine mx_getR d_Vh_seed_1 fl_Vh_51 (by assumption) (by assumption) ?_
  refine mx_getI d_Vh_seed_4 fl_Vh_426 (by assumption) ?_
  refine mx_is2 d_Vh_seed_7 ?_
  refine mx_al0 d_Vh_seed_8 ?_
  refine mx_getR d_Vh_seed_9 fl_Vh_51 (by assumption) (by assumption) ?_
  refine mx_il1 d_Vh_seed_12 ?_
  refine mx_putI d_Vh_seed_13 fl_Vh_426 (by assumption) ?_
  refine mx_il2 d_Vh_seed_16 ?_
  exact mx_iret d_Vh_seed_17 rfl (mx_ri_of (by first | exact u5 | rfl))
theorem c_Mo_seed (hM : mo_ok S P mo) (hm : I (mo + 1) = m) {v : Int32} : mx_C l E M_Mo_seed 0 0 0 [.ref (mo), .int (v)] (t, S, I, P, J) (mx_ri (m 10) (t, S, mx_up (mx_up I (mo) 0 (nI 0)) (mo + 1) 10 v, P, J)) := by
  obtain ⟨hM0, hMp1, hMp2, hMp4, hMp5, hMp7, hMp14, hMp21, hMp22, hMp23, hMp24, hMp25, hMp26, hMp27, hMs1, hMs2, hMs3, hMs4, hMs5, hMs6, hMs7, hMs8, hMs9, hMs10, hMs11, hMs12, hMs13⟩ := id hM
  refine mx_C_of (ls0 := [some (.ref (mo)), some (.int (v)), none]) (by decide +kernel) rfl rfl (Nat.le_of_ble_eq_true rfl) rfl ?_
  refine mx_al0 d_Mo_seed_0 ?_
  refine mx_in_0 d_Mo_seed_1 ?_
  refine mx_putI d_Mo_seed_2 fl_Mo_54 (by assumption) ?_
  refine mx_al0 d_Mo_seed_5 ?_
  refine mx_getR d_Mo_seed_6 fl_Mo_7 (by assumption) (by assumption) ?_
  refine mx_bip 10 d_Mo_seed_9 (by decide) ?_
  refine mx_iald d_Mo_seed_11 (by assumption) (nI_inb (by omega) (by omega)) ?_
  refine mx_ti (y := (mx_up I (mo) 0 (nI (0))) (mo + 1) (10)) (by rw [nI_clamp (by omega)]) ?_
  refine mx_ti (y := (m 10)) (congrFun (vs_hm hm) 10) ?_
  refine mx_is2 d_Mo_seed_12 ?_
  refine mx_al0 d_Mo_seed_13 ?_
  refine mx_getR d_Mo_seed_14 fl_Mo_7 (by assumption) (by assumption) ?_
  refine mx_bip 10 d_Mo_seed_17 (by decide) ?_
  refine mx_il1 d_Mo_seed_19 ?_
  refine mx_iast d_Mo_seed_20 (by assumption) (nI_inb (by omega) (by omega)) ?_
  rw [nI_clamp (by omega)]
  refine mx_il2 d_Mo_seed_21 ?_
  exact mx_iret d_Mo_seed_22 rfl (mx_ri_of (by rfl))
theorem vs_bc8 {k : Nat} (hk8 : k < 256) : (((((((((nI k) - ((mx_ushr ((nI k)) (nI (1))) &&& (1431655765))) &&& (858993459)) + ((mx_ushr (((nI k) - ((mx_ushr ((nI k)) (nI (1))) &&& (1431655765)))) (nI (2))) &&& (858993459))) + (mx_ushr (((((nI k) - ((mx_ushr ((nI k)) (nI (1))) &&& (1431655765))) &&& (858993459)) + ((mx_ushr (((nI k) - ((mx_ushr ((nI k)) (nI (1))) &&& (1431655765)))) (nI (2))) &&& (858993459)))) (nI (4)))) &&& (252645135)) + (mx_ushr (((((((nI k) - ((mx_ushr ((nI k)) (nI (1))) &&& (1431655765))) &&& (858993459)) + ((mx_ushr (((nI k) - ((mx_ushr ((nI k)) (nI (1))) &&& (1431655765)))) (nI (2))) &&& (858993459))) + (mx_ushr (((((nI k) - ((mx_ushr ((nI k)) (nI (1))) &&& (1431655765))) &&& (858993459)) + ((mx_ushr (((nI k) - ((mx_ushr ((nI k)) (nI (1))) &&& (1431655765)))) (nI (2))) &&& (858993459)))) (nI (4)))) &&& (252645135))) (nI (8)))) + (mx_ushr ((((((((nI k) - ((mx_ushr ((nI k)) (nI (1))) &&& (1431655765))) &&& (858993459)) + ((mx_ushr (((nI k) - ((mx_ushr ((nI k)) (nI (1))) &&& (1431655765)))) (nI (2))) &&& (858993459))) + (mx_ushr (((((nI k) - ((mx_ushr ((nI k)) (nI (1))) &&& (1431655765))) &&& (858993459)) + ((mx_ushr (((nI k) - ((mx_ushr ((nI k)) (nI (1))) &&& (1431655765)))) (nI (2))) &&& (858993459)))) (nI (4)))) &&& (252645135)) + (mx_ushr (((((((nI k) - ((mx_ushr ((nI k)) (nI (1))) &&& (1431655765))) &&& (858993459)) + ((mx_ushr (((nI k) - ((mx_ushr ((nI k)) (nI (1))) &&& (1431655765)))) (nI (2))) &&& (858993459))) + (mx_ushr (((((nI k) - ((mx_ushr ((nI k)) (nI (1))) &&& (1431655765))) &&& (858993459)) + ((mx_ushr (((nI k) - ((mx_ushr ((nI k)) (nI (1))) &&& (1431655765)))) (nI (2))) &&& (858993459)))) (nI (4)))) &&& (252645135))) (nI (8))))) (nI (16)))) &&& nI (63)) = nI (fb_ct (bt (nI k)) 31) := by
  have h : ∀ k, k < 256 → (((((((((nI k) - ((mx_ushr ((nI k)) (nI (1))) &&& (1431655765))) &&& (858993459)) + ((mx_ushr (((nI k) - ((mx_ushr ((nI k)) (nI (1))) &&& (1431655765)))) (nI (2))) &&& (858993459))) + (mx_ushr (((((nI k) - ((mx_ushr ((nI k)) (nI (1))) &&& (1431655765))) &&& (858993459)) + ((mx_ushr (((nI k) - ((mx_ushr ((nI k)) (nI (1))) &&& (1431655765)))) (nI (2))) &&& (858993459)))) (nI (4)))) &&& (252645135)) + (mx_ushr (((((((nI k) - ((mx_ushr ((nI k)) (nI (1))) &&& (1431655765))) &&& (858993459)) + ((mx_ushr (((nI k) - ((mx_ushr ((nI k)) (nI (1))) &&& (1431655765)))) (nI (2))) &&& (858993459))) + (mx_ushr (((((nI k) - ((mx_ushr ((nI k)) (nI (1))) &&& (1431655765))) &&& (858993459)) + ((mx_ushr (((nI k) - ((mx_ushr ((nI k)) (nI (1))) &&& (1431655765)))) (nI (2))) &&& (858993459)))) (nI (4)))) &&& (252645135))) (nI (8)))) + (mx_ushr ((((((((nI k) - ((mx_ushr ((nI k)) (nI (1))) &&& (1431655765))) &&& (858993459)) + ((mx_ushr (((nI k) - ((mx_ushr ((nI k)) (nI (1))) &&& (1431655765)))) (nI (2))) &&& (858993459))) + (mx_ushr (((((nI k) - ((mx_ushr ((nI k)) (nI (1))) &&& (1431655765))) &&& (858993459)) + ((mx_ushr (((nI k) - ((mx_ushr ((nI k)) (nI (1))) &&& (1431655765)))) (nI (2))) &&& (858993459)))) (nI (4)))) &&& (252645135)) + (mx_ushr (((((((nI k) - ((mx_ushr ((nI k)) (nI (1))) &&& (1431655765))) &&& (858993459)) + ((mx_ushr (((nI k) - ((mx_ushr ((nI k)) (nI (1))) &&& (1431655765)))) (nI (2))) &&& (858993459))) + (mx_ushr (((((nI k) - ((mx_ushr ((nI k)) (nI (1))) &&& (1431655765))) &&& (858993459)) + ((mx_ushr (((nI k) - ((mx_ushr ((nI k)) (nI (1))) &&& (1431655765)))) (nI (2))) &&& (858993459)))) (nI (4)))) &&& (252645135))) (nI (8))))) (nI (16)))) &&& nI (63)) = nI (fb_ct (bt (nI k)) 31) := by decide +kernel
  exact h k hk8
theorem c_bitCount {k : Nat} (hk8 : k < 256) : mx_C l E M_Jd_Integer_bitCount 0 0 0 [.int ((nI k))] (t, S, I, P, J) (mx_ri (nI (fb_ct (bt (nI k)) 31)) (t, S, I, P, J)) := by
  refine mx_C_of (ls0 := [some (.int ((nI k)))]) (by decide +kernel) rfl rfl (Nat.le_of_ble_eq_true rfl) rfl ?_
  refine mx_il0 d_Jd_Integer_bitCount_0 ?_
  refine mx_il0 d_Jd_Integer_bitCount_1 ?_
  refine mx_in_1 d_Jd_Integer_bitCount_2 ?_
  refine mx_iushr d_Jd_Integer_bitCount_3 ?_
  refine mx_ldcw d_Jd_Integer_bitCount_4 cn_JdInteger_265 ?_
  refine mx_iand d_Jd_Integer_bitCount_7 ?_
  refine mx_isub d_Jd_Integer_bitCount_8 ?_
  refine mx_is0 d_Jd_Integer_bitCount_9 ?_
  refine mx_il0 d_Jd_Integer_bitCount_10 ?_
  refine mx_ldcw d_Jd_Integer_bitCount_11 cn_JdInteger_266 ?_
  refine mx_iand d_Jd_Integer_bitCount_14 ?_
  refine mx_il0 d_Jd_Integer_bitCount_15 ?_
  refine mx_in_2 d_Jd_Integer_bitCount_16 ?_
  refine mx_iushr d_Jd_Integer_bitCount_17 ?_
  refine mx_ldcw d_Jd_Integer_bitCount_18 cn_JdInteger_266 ?_
  refine mx_iand d_Jd_Integer_bitCount_21 ?_
  refine mx_iadd d_Jd_Integer_bitCount_22 ?_
  refine mx_is0 d_Jd_Integer_bitCount_23 ?_
  refine mx_il0 d_Jd_Integer_bitCount_24 ?_
  refine mx_il0 d_Jd_Integer_bitCount_25 ?_
  refine mx_in_4 d_Jd_Integer_bitCount_26 ?_
  refine mx_iushr d_Jd_Integer_bitCount_27 ?_
  refine mx_iadd d_Jd_Integer_bitCount_28 ?_
  refine mx_ldcw d_Jd_Integer_bitCount_29 cn_JdInteger_267 ?_
  refine mx_iand d_Jd_Integer_bitCount_32 ?_
  refine mx_is0 d_Jd_Integer_bitCount_33 ?_
  refine mx_il0 d_Jd_Integer_bitCount_34 ?_
  refine mx_il0 d_Jd_Integer_bitCount_35 ?_
  refine mx_bip 8 d_Jd_Integer_bitCount_36 (by decide) ?_
  refine mx_iushr d_Jd_Integer_bitCount_38 ?_
  refine mx_iadd d_Jd_Integer_bitCount_39 ?_
  refine mx_is0 d_Jd_Integer_bitCount_40 ?_
  refine mx_il0 d_Jd_Integer_bitCount_41 ?_
  refine mx_il0 d_Jd_Integer_bitCount_42 ?_
  refine mx_bip 16 d_Jd_Integer_bitCount_43 (by decide) ?_
  refine mx_iushr d_Jd_Integer_bitCount_45 ?_
  refine mx_iadd d_Jd_Integer_bitCount_46 ?_
  refine mx_is0 d_Jd_Integer_bitCount_47 ?_
  refine mx_il0 d_Jd_Integer_bitCount_48 ?_
  refine mx_bip 63 d_Jd_Integer_bitCount_49 (by decide) ?_
  refine mx_iand d_Jd_Integer_bitCount_51 ?_
  exact mx_iret d_Jd_Integer_bitCount_52 rfl (mx_ri_of (vs_bc8 hk8))
def hr_ok (m : Nat → Int32) : Prop := ∀ h, h < 8 → ∃ k, k < 256 ∧ m (11 + 4 * h + 1) = nI k
def vs_by (m : Nat → Int32) (h q : Nat) : Int32 := if fb_ct (bt (m (11 + 4 * h + 1))) 31 < q then (m (11 + 4 * h + 0) + nI 1) * nI q - nI 4 else (m (11 + 4 * h + 0) + nI 1) * nI q
def vs_trF (m : Nat → Int32) (h o q : Nat) (s : Int32 × Int32) : Int32 × Int32 := if vs_by m h q - nI 2 < 0 then s else if vs_by m o (8 - q) - nI 2 < 0 then s else if (vs_by m h q - nI 2) * (vs_by m o (8 - q) - nI 2) ≤ s.2 then s else (nI q, (vs_by m h q - nI 2) * (vs_by m o (8 - q) - nI 2))
def vs_tr (m : Nat → Int32) (h o n : Nat) : Int32 × Int32 := vf n (vs_trF m h o) (-1, -1)
def sp_treaty (m : Nat → Int32) (H : Nat) (v w : Int32) : Nat × Int32 := if vs_isN v H && vs_isN w H then (if v = w then (2, nI 0) else (0, (vs_tr m v.toNatClampNeg w.toNatClampNeg 9).1)) else (1, nI 0)
theorem vs_ct_le (f : Nat → Bool) (n : Nat) : fb_ct f n ≤ n + 1 := by
  induction n with
  | zero => simp [fb_ct]
  | succ n ih => unfold fb_ct; split <;> omega
theorem vs_tr_s (m : Nat → Int32) (h o n : Nat) : vs_tr m h o (n + 1) = vs_trF m h o n (vs_tr m h o n) := rfl
theorem c_Vh_treatyJoy (hV : vh_ok S P x) (hSt : st_ok S P (x + 23)) (hSr : st_rel I (x + 23) m) (hr : hr_ok m) {h q : Nat} (hh : h < 8) (hq : q < 9) : mx_C l E M_Vh_treatyJoy 2 0 0 [.ref (x), .int (nI (h)), .int (nI (q))] (t, S, I, P, J) (mx_ri (vs_by m h q) (t, S, I, P, J)) := by
  obtain ⟨hV0, hVp0, hVp1, hVp2, hVp3, hVp4, hVp5, hVp7, hVp8, hVp9, hVp10, hVp11, hVp12, hVs15, hVs16, hVs68⟩ := id hV
  obtain ⟨hC0, hC1, hC2, hC3, hC4, hC5, hC6, hD1, hD2, hD3, hD4, hPe, hLo⟩ := id hSt
  obtain ⟨hPr, u0, u1, u2, u3, u4, u5, u6, u7, u8⟩ := id hSr
  obtain ⟨hA0, hA1, hA2, hA3, hA4, hA5, hA6, hA7, hB1, hB2, hB3, hB4, hB5, hB6, hB7⟩ := id hPe
  obtain ⟨r0, r1, r2, r3, r4, r5, r6, r7, r8⟩ := id hPr
  obtain ⟨k9, hk9, e9⟩ := hr h hh
  have hct := vs_ct_le (bt (nI k9)) 31
  refine mx_C_of (ls0 := [some (.ref (x)), some (.int (nI (h))), some (.int (nI (q))), none, none]) (by decide +kernel) rfl rfl (Nat.le_of_ble_eq_true rfl) rfl ?_
  refine mx_al0 d_Vh_treatyJoy_0 ?_
  refine mx_getR d_Vh_treatyJoy_1 fl_Vh_51 (by assumption) (by assumption) ?_
  refine mx_getR d_Vh_treatyJoy_4 fl_Vh_162 (by assumption) (by assumption) ?_
  refine mx_getR d_Vh_treatyJoy_7 fl_Vh_175 (by assumption) (by assumption) ?_
  refine mx_il1 d_Vh_treatyJoy_10 ?_
  refine mx_cS2i d_Vh_treatyJoy_11 (c_get (k := h) (by assumption) (by omega) (by omega)) ok_Vh_get ml_Vh_171 (by decide) (Nat.le_of_ble_eq_true rfl) ?_
  refine mx_ti (y := (nI k9)) ((r3 h hh).trans e9) ?_
  refine mx_cS1i d_Vh_treatyJoy_14 (c_bitCount (k := k9) hk9) ok_Jd_Integer_bitCount ml_Vh_331 (by decide) (Nat.le_of_ble_eq_true rfl) ?_
  refine mx_is3 d_Vh_treatyJoy_17 ?_
  refine mx_al0 d_Vh_treatyJoy_18 ?_
  refine mx_getR d_Vh_treatyJoy_19 fl_Vh_51 (by assumption) (by assumption) ?_
  refine mx_getR d_Vh_treatyJoy_22 fl_Vh_162 (by assumption) (by assumption) ?_
  refine mx_getR d_Vh_treatyJoy_25 fl_Vh_166 (by assumption) (by assumption) ?_
  refine mx_il1 d_Vh_treatyJoy_28 ?_
  refine mx_cS2i d_Vh_treatyJoy_29 (c_get (k := h) (by assumption) (by omega) (by omega)) ok_Vh_get ml_Vh_171 (by decide) (Nat.le_of_ble_eq_true rfl) ?_
  refine mx_ti (y := m (11 + 4 * h + 0)) (r2 h hh) ?_
  refine mx_in_1 d_Vh_treatyJoy_32 ?_
  refine mx_iadd d_Vh_treatyJoy_33 ?_
  refine mx_il2 d_Vh_treatyJoy_34 ?_
  refine mx_imul d_Vh_treatyJoy_35 ?_
  refine mx_is4 d_Vh_treatyJoy_36 ?_
  refine mx_il2 d_Vh_treatyJoy_38 ?_
  refine mx_il3 d_Vh_treatyJoy_39 ?_
  refine mx_icN_le 50 d_Vh_treatyJoy_40 (by decide) (by omega) (by omega) (fun c_40 => ?_) (fun c_40 => ?_)
  · skip
    refine mx_il4 d_Vh_treatyJoy_50 ?_
    exact mx_iret d_Vh_treatyJoy_52 rfl (mx_ri_of (by rw [vs_by, e9]; first | rw [if_pos (by assumption)] | rw [if_neg (by omega)]))
  · skip
    refine mx_il4 d_Vh_treatyJoy_43 ?_
    refine mx_in_4 d_Vh_treatyJoy_45 ?_
    refine mx_isub d_Vh_treatyJoy_46 ?_
    refine mx_goto 52 d_Vh_treatyJoy_47 (by decide) ?_
    exact mx_iret d_Vh_treatyJoy_52 rfl (mx_ri_of (by rw [vs_by, e9]; first | rw [if_pos (by assumption)] | rw [if_neg (by omega)]))
theorem c_Mo_hasBy (hM : mo_ok S P mo) (hm : I (mo + 1) = m) {h q : Nat} (hh : h < 8) (hq : q < 9) : mx_C l E M_Mo_hasBy 3 0 0 [.ref (mo), .int (nI (h)), .int (nI (q))] (t, S, I, P, J) (mx_ri (vs_by m h q) (t, S, I, P, J)) := by
  obtain ⟨hM0, hMp1, hMp2, hMp4, hMp5, hMp7, hMp14, hMp21, hMp22, hMp23, hMp24, hMp25, hMp26, hMp27, hMs1, hMs2, hMs3, hMs4, hMs5, hMs6, hMs7, hMs8, hMs9, hMs10, hMs11, hMs12, hMs13⟩ := id hM
  have hct := vs_ct_le (bt (m (11 + 4 * h + 1))) 31
  refine mx_C_of (ls0 := [some (.ref (mo)), some (.int (nI (h))), some (.int (nI (q)))]) (by decide +kernel) rfl rfl (Nat.le_of_ble_eq_true rfl) rfl ?_
  refine mx_al0 d_Mo_hasBy_0 ?_
  refine mx_il1 d_Mo_hasBy_1 ?_
  refine mx_in_0 d_Mo_hasBy_2 ?_
  refine mx_cV2i d_Mo_hasBy_3 (cm_of hM hm (h := h) (k := 0) (by omega) (by omega)) ok_Mo_of ml_Mo_68 (by assumption) ⟨rfl, rfl⟩ (by decide) (Nat.le_of_ble_eq_true rfl) ?_
  refine mx_in_1 d_Mo_hasBy_6 ?_
  refine mx_iadd d_Mo_hasBy_7 ?_
  refine mx_il2 d_Mo_hasBy_8 ?_
  refine mx_imul d_Mo_hasBy_9 ?_
  refine mx_il2 d_Mo_hasBy_10 ?_
  refine mx_al0 d_Mo_hasBy_11 ?_
  refine mx_il1 d_Mo_hasBy_12 ?_
  refine mx_in_1 d_Mo_hasBy_13 ?_
  refine mx_cV2i d_Mo_hasBy_14 (cm_of hM hm (h := h) (k := 1) (by omega) (by omega)) ok_Mo_of ml_Mo_68 (by assumption) ⟨rfl, rfl⟩ (by decide) (Nat.le_of_ble_eq_true rfl) ?_
  refine mx_cS1i d_Mo_hasBy_17 (c_Mo_bits) ok_Mo_bits ml_Mo_303 (by decide) (Nat.le_of_ble_eq_true rfl) ?_
  refine mx_icN_le 27 d_Mo_hasBy_20 (by decide) (by omega) (by omega) (fun c_20 => ?_) (fun c_20 => ?_)
  · skip
    refine mx_in_0 d_Mo_hasBy_27 ?_
    refine mx_isub d_Mo_hasBy_28 ?_
    exact mx_iret d_Mo_hasBy_29 rfl (mx_ri_of (by rw [vs_by]; first | rw [if_pos (by assumption)] | (rw [if_neg (by omega)]; exact Int32.sub_zero _)))
  · skip
    refine mx_in_4 d_Mo_hasBy_23 ?_
    refine mx_goto 28 d_Mo_hasBy_24 (by decide) ?_
    refine mx_isub d_Mo_hasBy_28 ?_
    exact mx_iret d_Mo_hasBy_29 rfl (mx_ri_of (by rw [vs_by]; first | rw [if_pos (by assumption)] | (rw [if_neg (by omega)]; exact Int32.sub_zero _)))
theorem c_Vh_treaty (htr : l.stackTraces = false) (hV : vh_ok S P x) (hSt : st_ok S P (x + 23)) (hSr : st_rel I (x + 23) m) (hH : m 3 = nI H) (hH8 : H ≤ 8) (hr : hr_ok m) {v w : Int32} : mx_C l E M_Vh_treaty 7 3 18 [.ref (x), .int (v), .int (w)] (t, S, I, P, J) (mx_po (fun c => if c = 1 then "java/lang/IndexOutOfBoundsException" else "java/lang/IllegalArgumentException") (sp_treaty m H v w) (t, S, I, P, J)) := by
  obtain ⟨hV0, hVp0, hVp1, hVp2, hVp3, hVp4, hVp5, hVp7, hVp8, hVp9, hVp10, hVp11, hVp12, hVs15, hVs16, hVs68⟩ := id hV
  obtain ⟨hC0, hC1, hC2, hC3, hC4, hC5, hC6, hD1, hD2, hD3, hD4, hPe, hLo⟩ := id hSt
  obtain ⟨hPr, u0, u1, u2, u3, u4, u5, u6, u7, u8⟩ := id hSr
  obtain ⟨hA0, hA1, hA2, hA3, hA4, hA5, hA6, hA7, hB1, hB2, hB3, hB4, hB5, hB6, hB7⟩ := id hPe
  obtain ⟨r0, r1, r2, r3, r4, r5, r6, r7, r8⟩ := id hPr
  refine mx_C_of (ls0 := [some (.ref (x)), some (.int (v)), some (.int (w)), none, none, none, none, none]) (by decide +kernel) rfl rfl (Nat.le_of_ble_eq_true rfl) rfl ?_
  refine mx_al0 d_Vh_treaty_0 ?_
  refine mx_il1 d_Vh_treaty_1 ?_
  refine mx_nV1 d_Vh_treaty_2 (c_needHost htr hV hSt hSr hH hH8) ok_Vh_needHost ml_Vh_159 (by assumption) ⟨rfl, rfl⟩ rfl (by decide) (by decide) (by decide) (Nat.le_of_ble_eq_true rfl) (fun hb2 t9 ht => by first | exact mx_po_x ht 0 (by simp_all [sp_treaty]) rfl | exact mx_po_x ht 1 (by simp_all [sp_treaty]) rfl) (fun hb2 => ?_)
  obtain ⟨h, hhL, rfl⟩ := vs_isN_of (by omega) hb2
  have hhc : (nI h).toNatClampNeg = h := nI_clamp (by omega)
  have hhL8 : h < 8 := by omega
  refine mx_al0 d_Vh_treaty_5 ?_
  refine mx_il2 d_Vh_treaty_6 ?_
  refine mx_nV1 d_Vh_treaty_7 (c_needHost htr hV hSt hSr hH hH8) ok_Vh_needHost ml_Vh_159 (by assumption) ⟨rfl, rfl⟩ rfl (by decide) (by decide) (by decide) (Nat.le_of_ble_eq_true rfl) (fun hb7 t9 ht => by first | exact mx_po_x ht 0 (by simp_all [sp_treaty]) rfl | exact mx_po_x ht 1 (by simp_all [sp_treaty]) rfl) (fun hb7 => ?_)
  obtain ⟨p, hpL, rfl⟩ := vs_isN_of (by omega) hb7
  have hpc : (nI p).toNatClampNeg = p := nI_clamp (by omega)
  have hpL8 : p < 8 := by omega
  refine mx_il1 d_Vh_treaty_10 ?_
  refine mx_il2 d_Vh_treaty_11 ?_
  refine mx_nS2 d_Vh_treaty_12 (c_needTwo htr) ok_Vh_needTwo ml_Vh_265 rfl (by decide) (by decide) (by decide) (Nat.le_of_ble_eq_true rfl) (fun hb12 t9 ht => by first | exact mx_po_x ht 0 (by simp_all [sp_treaty]) rfl | exact mx_po_x ht 1 (by simp_all [sp_treaty]) rfl) (fun hb12 => ?_)
  have hne : ¬ nI h = nI p := of_decide_eq_true hb12
  refine mx_ic_m1 d_Vh_treaty_15 ?_
  refine mx_is3 d_Vh_treaty_16 ?_
  refine mx_ic_m1 d_Vh_treaty_17 ?_
  refine mx_is4 d_Vh_treaty_18 ?_
  refine mx_in_0 d_Vh_treaty_20 ?_
  refine mx_is5 d_Vh_treaty_21 ?_
  refine mx_loop (N := 9) (ls := fun q => [some (.ref (x)), some (.int (nI (h))), some (.int (nI (p))), some (.int ((vs_tr m h p q).1)), some (.int ((vs_tr m h p q).2)), some (.int (nI (q))), none, none]) (X := fun q => (t, S, I, P, J)) (fun q hq ih => ?_) ?_
  · try dsimp only
    refine mx_il5 d_Vh_treaty_23 ?_
    refine mx_bip 8 d_Vh_treaty_25 (by decide) ?_
    refine mx_icN_gt 91 d_Vh_treaty_27 (by decide) (by omega) (by omega) (fun c_27 => absurd c_27 (by omega)) (fun c_27 => ?_)
    refine mx_al0 d_Vh_treaty_30 ?_
    refine mx_il1 d_Vh_treaty_31 ?_
    refine mx_il5 d_Vh_treaty_32 ?_
    refine mx_cV2i d_Vh_treaty_34 (c_Vh_treatyJoy hV hSt hSr hr (h := h) (q := q) (by omega) (by omega)) ok_Vh_treatyJoy ml_Vh_399 (by assumption) ⟨rfl, rfl⟩ (by decide) (Nat.le_of_ble_eq_true rfl) ?_
    refine mx_in_2 d_Vh_treaty_37 ?_
    refine mx_isub d_Vh_treaty_38 ?_
    refine mx_is6 d_Vh_treaty_39 ?_
    refine mx_al0 d_Vh_treaty_41 ?_
    refine mx_il2 d_Vh_treaty_42 ?_
    refine mx_bip 8 d_Vh_treaty_43 (by decide) ?_
    refine mx_il5 d_Vh_treaty_45 ?_
    refine mx_isubN d_Vh_treaty_47 (by omega) ?_
    refine mx_cV2i d_Vh_treaty_48 (c_Vh_treatyJoy hV hSt hSr hr (h := p) (q := 8 - q) (by omega) (by omega)) ok_Vh_treatyJoy ml_Vh_399 (by assumption) ⟨rfl, rfl⟩ (by decide) (Nat.le_of_ble_eq_true rfl) ?_
    refine mx_in_2 d_Vh_treaty_51 ?_
    refine mx_isub d_Vh_treaty_52 ?_
    refine mx_is7 d_Vh_treaty_53 ?_
    refine mx_il6 d_Vh_treaty_55 ?_
    refine mx_if_lt 85 d_Vh_treaty_57 (by decide) (fun c_57 => ?_) (fun c_57 => ?_)
    · skip
      refine mx_iN5 d_Vh_treaty_85 ?_
      refine mx_goto 23 d_Vh_treaty_88 (by decide) ?_
      refine mx_dn6 ?_
      refine mx_dn7 ?_
      have e3 : (vs_tr m h p q).1 = (vs_tr m h p (q + 1)).1 := by rw [vs_tr_s, vs_trF]; first | rw [if_pos (by assumption)] | rw [if_neg (by assumption), if_pos (by assumption)] | rw [if_neg (by assumption), if_neg (by assumption), if_pos (by first | assumption | exact Int32.not_lt.mp (by assumption))] | rw [if_neg (by assumption), if_neg (by assumption), if_neg (by first | assumption | exact Int32.not_le.mpr (by assumption))]
      rw [e3]
      have e4 : (vs_tr m h p q).2 = (vs_tr m h p (q + 1)).2 := by rw [vs_tr_s, vs_trF]; first | rw [if_pos (by assumption)] | rw [if_neg (by assumption), if_pos (by assumption)] | rw [if_neg (by assumption), if_neg (by assumption), if_pos (by first | assumption | exact Int32.not_lt.mp (by assumption))] | rw [if_neg (by assumption), if_neg (by assumption), if_neg (by first | assumption | exact Int32.not_le.mpr (by assumption))]
      rw [e4]
      exact ih
    · skip
      refine mx_il7 d_Vh_treaty_60 ?_
      refine mx_if_lt 85 d_Vh_treaty_62 (by decide) (fun c_62 => ?_) (fun c_62 => ?_)
      · skip
        refine mx_iN5 d_Vh_treaty_85 ?_
        refine mx_goto 23 d_Vh_treaty_88 (by decide) ?_
        refine mx_dn6 ?_
        refine mx_dn7 ?_
        have e3 : (vs_tr m h p q).1 = (vs_tr m h p (q + 1)).1 := by rw [vs_tr_s, vs_trF]; first | rw [if_pos (by assumption)] | rw [if_neg (by assumption), if_pos (by assumption)] | rw [if_neg (by assumption), if_neg (by assumption), if_pos (by first | assumption | exact Int32.not_lt.mp (by assumption))] | rw [if_neg (by assumption), if_neg (by assumption), if_neg (by first | assumption | exact Int32.not_le.mpr (by assumption))]
        rw [e3]
        have e4 : (vs_tr m h p q).2 = (vs_tr m h p (q + 1)).2 := by rw [vs_tr_s, vs_trF]; first | rw [if_pos (by assumption)] | rw [if_neg (by assumption), if_pos (by assumption)] | rw [if_neg (by assumption), if_neg (by assumption), if_pos (by first | assumption | exact Int32.not_lt.mp (by assumption))] | rw [if_neg (by assumption), if_neg (by assumption), if_neg (by first | assumption | exact Int32.not_le.mpr (by assumption))]
        rw [e4]
        exact ih
      · skip
        refine mx_il6 d_Vh_treaty_65 ?_
        refine mx_il7 d_Vh_treaty_67 ?_
        refine mx_imul d_Vh_treaty_69 ?_
        refine mx_il4 d_Vh_treaty_70 ?_
        refine mx_icmp_le 85 d_Vh_treaty_72 (by decide) (fun c_72 => ?_) (fun c_72 => ?_)
        · skip
          refine mx_iN5 d_Vh_treaty_85 ?_
          refine mx_goto 23 d_Vh_treaty_88 (by decide) ?_
          refine mx_dn6 ?_
          refine mx_dn7 ?_
          have e3 : (vs_tr m h p q).1 = (vs_tr m h p (q + 1)).1 := by rw [vs_tr_s, vs_trF]; first | rw [if_pos (by assumption)] | rw [if_neg (by assumption), if_pos (by assumption)] | rw [if_neg (by assumption), if_neg (by assumption), if_pos (by first | assumption | exact Int32.not_lt.mp (by assumption))] | rw [if_neg (by assumption), if_neg (by assumption), if_neg (by first | assumption | exact Int32.not_le.mpr (by assumption))]
          rw [e3]
          have e4 : (vs_tr m h p q).2 = (vs_tr m h p (q + 1)).2 := by rw [vs_tr_s, vs_trF]; first | rw [if_pos (by assumption)] | rw [if_neg (by assumption), if_pos (by assumption)] | rw [if_neg (by assumption), if_neg (by assumption), if_pos (by first | assumption | exact Int32.not_lt.mp (by assumption))] | rw [if_neg (by assumption), if_neg (by assumption), if_neg (by first | assumption | exact Int32.not_le.mpr (by assumption))]
          rw [e4]
          exact ih
        · skip
          refine mx_il6 d_Vh_treaty_75 ?_
          refine mx_il7 d_Vh_treaty_77 ?_
          refine mx_imul d_Vh_treaty_79 ?_
          refine mx_is4 d_Vh_treaty_80 ?_
          refine mx_il5 d_Vh_treaty_82 ?_
          refine mx_is3 d_Vh_treaty_84 ?_
          refine mx_iN5 d_Vh_treaty_85 ?_
          refine mx_goto 23 d_Vh_treaty_88 (by decide) ?_
          refine mx_dn6 ?_
          refine mx_dn7 ?_
          have e3 : nI (q) = (vs_tr m h p (q + 1)).1 := by rw [vs_tr_s, vs_trF]; first | rw [if_pos (by assumption)] | rw [if_neg (by assumption), if_pos (by assumption)] | rw [if_neg (by assumption), if_neg (by assumption), if_pos (by first | assumption | exact Int32.not_lt.mp (by assumption))] | rw [if_neg (by assumption), if_neg (by assumption), if_neg (by first | assumption | exact Int32.not_le.mpr (by assumption))]
          rw [e3]
          have e4 : (((vs_by m (h) (q)) - nI (2)) * ((vs_by m (p) (8 - q)) - nI (2))) = (vs_tr m h p (q + 1)).2 := by rw [vs_tr_s, vs_trF]; first | rw [if_pos (by assumption)] | rw [if_neg (by assumption), if_pos (by assumption)] | rw [if_neg (by assumption), if_neg (by assumption), if_pos (by first | assumption | exact Int32.not_lt.mp (by assumption))] | rw [if_neg (by assumption), if_neg (by assumption), if_neg (by first | assumption | exact Int32.not_le.mpr (by assumption))]
          rw [e4]
          exact ih
  · try dsimp only
    refine mx_il5 d_Vh_treaty_23 ?_
    refine mx_bip 8 d_Vh_treaty_25 (by decide) ?_
    refine mx_icN_gt 91 d_Vh_treaty_27 (by decide) (by omega) (by omega) (fun c_27 => ?_) (fun c_27 => absurd c_27 (by omega))
    refine mx_il3 d_Vh_treaty_91 ?_
    exact mx_iret d_Vh_treaty_92 rfl (mx_po_i (by simp [sp_treaty, *]))
theorem c_Mo_treaty (hM : mo_ok S P mo) (hm : I (mo + 1) = m) (hH : m 3 = nI H) (hH8 : H ≤ 8) {v w : Int32} : mx_C l E M_Mo_treaty 4 0 0 [.ref (mo), .int (v), .int (w)] (t, S, I, P, J) (mx_ri (sp_treaty m H v w).2 (t, S, mx_up I (mo) 0 (nI (sp_treaty m H v w).1), P, J)) := by
  obtain ⟨hM0, hMp1, hMp2, hMp4, hMp5, hMp7, hMp14, hMp21, hMp22, hMp23, hMp24, hMp25, hMp26, hMp27, hMs1, hMs2, hMs3, hMs4, hMs5, hMs6, hMs7, hMs8, hMs9, hMs10, hMs11, hMs12, hMs13⟩ := id hM
  refine mx_C_of (ls0 := [some (.ref (mo)), some (.int (v)), some (.int (w)), none, none, none, none, none]) (by decide +kernel) rfl rfl (Nat.le_of_ble_eq_true rfl) rfl ?_
  refine mx_al0 d_Mo_treaty_0 ?_
  refine mx_al0 d_Mo_treaty_1 ?_
  refine mx_il1 d_Mo_treaty_2 ?_
  refine mx_cV1i d_Mo_treaty_3 (cm_isHost hM hm hH hH8) ok_Mo_isHost ml_Mo_310 (by assumption) ⟨rfl, rfl⟩ (by decide) (Nat.le_of_ble_eq_true rfl) ?_
  refine mx_ifB_eq 17 d_Mo_treaty_6 (by decide) (fun c_6 => ?_) (fun c_6 => ?_)
  · skip
    refine mx_in_1 d_Mo_treaty_17 ?_
    refine mx_goto 31 d_Mo_treaty_18 (by decide) ?_
    refine mx_putI d_Mo_treaty_31 fl_Mo_54 (by assumption) ?_
    refine mx_al0 d_Mo_treaty_34 ?_
    refine mx_getI d_Mo_treaty_35 fl_Mo_54 (by assumption) ?_
    refine mx_ti (y := nI (1)) (vs_upx) ?_
    refine mx_if_le 43 d_Mo_treaty_38 (by decide) (fun c_38 => absurd c_38 (by decide)) (fun c_38 => ?_)
    refine mx_in_0 d_Mo_treaty_41 ?_
    exact mx_iret d_Mo_treaty_42 rfl (mx_ri_of2 (by simp_all [sp_treaty]) (by simp_all [sp_treaty]))
  · skip
    obtain ⟨h, hhL, rfl⟩ := vs_isN_of (by omega) c_6
    have hhc : (nI h).toNatClampNeg = h := nI_clamp (by omega)
    have hhL8 : h < 8 := by omega
    refine mx_al0 d_Mo_treaty_9 ?_
    refine mx_il2 d_Mo_treaty_10 ?_
    refine mx_cV1i d_Mo_treaty_11 (cm_isHost hM hm hH hH8) ok_Mo_isHost ml_Mo_310 (by assumption) ⟨rfl, rfl⟩ (by decide) (Nat.le_of_ble_eq_true rfl) ?_
    refine mx_ifB_ne 21 d_Mo_treaty_14 (by decide) (fun c_14 => ?_) (fun c_14 => ?_)
    · skip
      obtain ⟨p, hpL, rfl⟩ := vs_isN_of (by omega) c_14
      have hpc : (nI p).toNatClampNeg = p := nI_clamp (by omega)
      have hpL8 : p < 8 := by omega
      refine mx_il1 d_Mo_treaty_21 ?_
      refine mx_il2 d_Mo_treaty_22 ?_
      refine mx_icN_ne 30 d_Mo_treaty_23 (by decide) (by omega) (by omega) (fun c_23 => ?_) (fun c_23 => ?_)
      · skip
        have hne : ¬ nI h = nI p := fun e => c_23 ((nI_eq (by omega) (by omega)).mp e)
        refine mx_in_0 d_Mo_treaty_30 ?_
        refine mx_putI d_Mo_treaty_31 fl_Mo_54 (by assumption) ?_
        refine mx_al0 d_Mo_treaty_34 ?_
        refine mx_getI d_Mo_treaty_35 fl_Mo_54 (by assumption) ?_
        refine mx_ti (y := nI (0)) (vs_upx) ?_
        refine mx_if_le 43 d_Mo_treaty_38 (by decide) (fun c_38 => ?_) (fun c_38 => absurd (by decide) c_38)
        refine mx_ic_m1 d_Mo_treaty_43 ?_
        refine mx_is3 d_Mo_treaty_44 ?_
        refine mx_ic_m1 d_Mo_treaty_45 ?_
        refine mx_is4 d_Mo_treaty_46 ?_
        refine mx_in_0 d_Mo_treaty_48 ?_
        refine mx_is5 d_Mo_treaty_49 ?_
        refine mx_loop (N := 9) (ls := fun q => [some (.ref (mo)), some (.int (nI (h))), some (.int (nI (p))), some (.int ((vs_tr m h p q).1)), some (.int ((vs_tr m h p q).2)), some (.int (nI (q))), none, none]) (X := fun q => (t, S, (mx_up I (mo) 0 (nI (0))), P, J)) (fun q hq ih => ?_) ?_
        · try dsimp only
          refine mx_il5 d_Mo_treaty_51 ?_
          refine mx_bip 8 d_Mo_treaty_53 (by decide) ?_
          refine mx_icN_gt 122 d_Mo_treaty_55 (by decide) (by omega) (by omega) (fun c_55 => absurd c_55 (by omega)) (fun c_55 => ?_)
          refine mx_al0 d_Mo_treaty_58 ?_
          refine mx_il1 d_Mo_treaty_59 ?_
          refine mx_il5 d_Mo_treaty_60 ?_
          refine mx_cV2i d_Mo_treaty_62 (c_Mo_hasBy hM (vs_hm hm) (h := h) (q := q) (by omega) (by omega)) ok_Mo_hasBy ml_Mo_415 (by assumption) ⟨rfl, rfl⟩ (by decide) (Nat.le_of_ble_eq_true rfl) ?_
          refine mx_in_2 d_Mo_treaty_65 ?_
          refine mx_isub d_Mo_treaty_66 ?_
          refine mx_is6 d_Mo_treaty_67 ?_
          refine mx_al0 d_Mo_treaty_69 ?_
          refine mx_il2 d_Mo_treaty_70 ?_
          refine mx_bip 8 d_Mo_treaty_71 (by decide) ?_
          refine mx_il5 d_Mo_treaty_73 ?_
          refine mx_isubN d_Mo_treaty_75 (by omega) ?_
          refine mx_cV2i d_Mo_treaty_76 (c_Mo_hasBy hM (vs_hm hm) (h := p) (q := 8 - q) (by omega) (by omega)) ok_Mo_hasBy ml_Mo_415 (by assumption) ⟨rfl, rfl⟩ (by decide) (Nat.le_of_ble_eq_true rfl) ?_
          refine mx_in_2 d_Mo_treaty_79 ?_
          refine mx_isub d_Mo_treaty_80 ?_
          refine mx_is7 d_Mo_treaty_81 ?_
          refine mx_il6 d_Mo_treaty_83 ?_
          refine mx_if_lt 116 d_Mo_treaty_85 (by decide) (fun c_85 => ?_) (fun c_85 => ?_)
          · skip
            refine mx_iN5 d_Mo_treaty_116 ?_
            refine mx_goto 51 d_Mo_treaty_119 (by decide) ?_
            refine mx_dn6 ?_
            refine mx_dn7 ?_
            have e3 : (vs_tr m h p q).1 = (vs_tr m h p (q + 1)).1 := by rw [vs_tr_s, vs_trF]; first | rw [if_pos (by assumption)] | rw [if_neg (by assumption), if_pos (by assumption)] | rw [if_neg (by assumption), if_neg (by assumption), if_pos (by first | assumption | exact Int32.not_lt.mp (by assumption))] | rw [if_neg (by assumption), if_neg (by assumption), if_neg (by first | assumption | exact Int32.not_le.mpr (by assumption))]
            rw [e3]
            have e4 : (vs_tr m h p q).2 = (vs_tr m h p (q + 1)).2 := by rw [vs_tr_s, vs_trF]; first | rw [if_pos (by assumption)] | rw [if_neg (by assumption), if_pos (by assumption)] | rw [if_neg (by assumption), if_neg (by assumption), if_pos (by first | assumption | exact Int32.not_lt.mp (by assumption))] | rw [if_neg (by assumption), if_neg (by assumption), if_neg (by first | assumption | exact Int32.not_le.mpr (by assumption))]
            rw [e4]
            exact ih
          · skip
            refine mx_il7 d_Mo_treaty_88 ?_
            refine mx_if_lt 116 d_Mo_treaty_90 (by decide) (fun c_90 => ?_) (fun c_90 => ?_)
            · skip
              refine mx_iN5 d_Mo_treaty_116 ?_
              refine mx_goto 51 d_Mo_treaty_119 (by decide) ?_
              refine mx_dn6 ?_
              refine mx_dn7 ?_
              have e3 : (vs_tr m h p q).1 = (vs_tr m h p (q + 1)).1 := by rw [vs_tr_s, vs_trF]; first | rw [if_pos (by assumption)] | rw [if_neg (by assumption), if_pos (by assumption)] | rw [if_neg (by assumption), if_neg (by assumption), if_pos (by first | assumption | exact Int32.not_lt.mp (by assumption))] | rw [if_neg (by assumption), if_neg (by assumption), if_neg (by first | assumption | exact Int32.not_le.mpr (by assumption))]
              rw [e3]
              have e4 : (vs_tr m h p q).2 = (vs_tr m h p (q + 1)).2 := by rw [vs_tr_s, vs_trF]; first | rw [if_pos (by assumption)] | rw [if_neg (by assumption), if_pos (by assumption)] | rw [if_neg (by assumption), if_neg (by assumption), if_pos (by first | assumption | exact Int32.not_lt.mp (by assumption))] | rw [if_neg (by assumption), if_neg (by assumption), if_neg (by first | assumption | exact Int32.not_le.mpr (by assumption))]
              rw [e4]
              exact ih
            · skip
              refine mx_il6 d_Mo_treaty_93 ?_
              refine mx_il7 d_Mo_treaty_95 ?_
              refine mx_imul d_Mo_treaty_97 ?_
              refine mx_il4 d_Mo_treaty_98 ?_
              refine mx_icmp_gt 106 d_Mo_treaty_100 (by decide) (fun c_100 => ?_) (fun c_100 => ?_)
              · skip
                refine mx_il6 d_Mo_treaty_106 ?_
                refine mx_il7 d_Mo_treaty_108 ?_
                refine mx_imul d_Mo_treaty_110 ?_
                refine mx_is4 d_Mo_treaty_111 ?_
                refine mx_il5 d_Mo_treaty_113 ?_
                refine mx_is3 d_Mo_treaty_115 ?_
                refine mx_iN5 d_Mo_treaty_116 ?_
                refine mx_goto 51 d_Mo_treaty_119 (by decide) ?_
                refine mx_dn6 ?_
                refine mx_dn7 ?_
                have e3 : nI (q) = (vs_tr m h p (q + 1)).1 := by rw [vs_tr_s, vs_trF]; first | rw [if_pos (by assumption)] | rw [if_neg (by assumption), if_pos (by assumption)] | rw [if_neg (by assumption), if_neg (by assumption), if_pos (by first | assumption | exact Int32.not_lt.mp (by assumption))] | rw [if_neg (by assumption), if_neg (by assumption), if_neg (by first | assumption | exact Int32.not_le.mpr (by assumption))]
                rw [e3]
                have e4 : (((vs_by m (h) (q)) - nI (2)) * ((vs_by m (p) (8 - q)) - nI (2))) = (vs_tr m h p (q + 1)).2 := by rw [vs_tr_s, vs_trF]; first | rw [if_pos (by assumption)] | rw [if_neg (by assumption), if_pos (by assumption)] | rw [if_neg (by assumption), if_neg (by assumption), if_pos (by first | assumption | exact Int32.not_lt.mp (by assumption))] | rw [if_neg (by assumption), if_neg (by assumption), if_neg (by first | assumption | exact Int32.not_le.mpr (by assumption))]
                rw [e4]
                exact ih
              · skip
                refine mx_goto 116 d_Mo_treaty_103 (by decide) ?_
                refine mx_iN5 d_Mo_treaty_116 ?_
                refine mx_goto 51 d_Mo_treaty_119 (by decide) ?_
                refine mx_dn6 ?_
                refine mx_dn7 ?_
                have e3 : (vs_tr m h p q).1 = (vs_tr m h p (q + 1)).1 := by rw [vs_tr_s, vs_trF]; first | rw [if_pos (by assumption)] | rw [if_neg (by assumption), if_pos (by assumption)] | rw [if_neg (by assumption), if_neg (by assumption), if_pos (by first | assumption | exact Int32.not_lt.mp (by assumption))] | rw [if_neg (by assumption), if_neg (by assumption), if_neg (by first | assumption | exact Int32.not_le.mpr (by assumption))]
                rw [e3]
                have e4 : (vs_tr m h p q).2 = (vs_tr m h p (q + 1)).2 := by rw [vs_tr_s, vs_trF]; first | rw [if_pos (by assumption)] | rw [if_neg (by assumption), if_pos (by assumption)] | rw [if_neg (by assumption), if_neg (by assumption), if_pos (by first | assumption | exact Int32.not_lt.mp (by assumption))] | rw [if_neg (by assumption), if_neg (by assumption), if_neg (by first | assumption | exact Int32.not_le.mpr (by assumption))]
                rw [e4]
                exact ih
        · try dsimp only
          refine mx_il5 d_Mo_treaty_51 ?_
          refine mx_bip 8 d_Mo_treaty_53 (by decide) ?_
          refine mx_icN_gt 122 d_Mo_treaty_55 (by decide) (by omega) (by omega) (fun c_55 => ?_) (fun c_55 => absurd c_55 (by omega))
          refine mx_il3 d_Mo_treaty_122 ?_
          exact mx_iret d_Mo_treaty_123 rfl (mx_ri_of2 (by simp_all [sp_treaty]) (by simp_all [sp_treaty]))
      · skip
        refine mx_in_2 d_Mo_treaty_26 ?_
        refine mx_goto 31 d_Mo_treaty_27 (by decide) ?_
        refine mx_putI d_Mo_treaty_31 fl_Mo_54 (by assumption) ?_
        refine mx_al0 d_Mo_treaty_34 ?_
        refine mx_getI d_Mo_treaty_35 fl_Mo_54 (by assumption) ?_
        refine mx_ti (y := nI (2)) (vs_upx) ?_
        refine mx_if_le 43 d_Mo_treaty_38 (by decide) (fun c_38 => absurd c_38 (by decide)) (fun c_38 => ?_)
        refine mx_in_0 d_Mo_treaty_41 ?_
        exact mx_iret d_Mo_treaty_42 rfl (mx_ri_of2 (by simp_all [sp_treaty]) (by simp_all [sp_treaty]))
    · skip
      refine mx_in_1 d_Mo_treaty_17 ?_
      refine mx_goto 31 d_Mo_treaty_18 (by decide) ?_
      refine mx_putI d_Mo_treaty_31 fl_Mo_54 (by assumption) ?_
      refine mx_al0 d_Mo_treaty_34 ?_
      refine mx_getI d_Mo_treaty_35 fl_Mo_54 (by assumption) ?_
      refine mx_ti (y := nI (1)) (vs_upx) ?_
      refine mx_if_le 43 d_Mo_treaty_38 (by decide) (fun c_38 => absurd c_38 (by decide)) (fun c_38 => ?_)
      refine mx_in_0 d_Mo_treaty_41 ?_
      exact mx_iret d_Mo_treaty_42 rfl (mx_ri_of2 (by simp_all [sp_treaty]) (by simp_all [sp_treaty]))
end E14
