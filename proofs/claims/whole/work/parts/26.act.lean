/-! THE CLASS'S CHANGES -/
section R26
variable {l : Launch} {E : mx_Env} {t : Nat} {S : mx_S} {I : mx_I} {P : mx_P} {J : mx_G} {m : Nat → Int32} {x A H G z la pt s : Nat}
theorem vs_keep_o {c : Nat} (hz : z < 12) (h : c < pt ∨ pt + 182 ≤ c) : vs_keep I pt s z A c = I c := by
  unfold vs_keep
  rw [mx_up_ne (by omega), mx_up_ne (by omega), vs_stT_o (by omega)]
theorem st_ok.congrP {P' : mx_P} {r : Nat} (h : st_ok S P r) (e : ∀ c, r ≤ c → c < r + 15 → P' c = P c) : st_ok S P' r := by
  unfold st_ok pe_ok lo_ok at h ⊢
  rw [e r (by omega) (by omega), e (r + 1) (by omega) (by omega), e (r + 9) (by omega) (by omega)]
  exact h
theorem st_rel.congr {I' : mx_I} {r : Nat} (h : st_rel I r m) (e : ∀ c, r ≤ c → c < r + 15 → I' c = I c) : st_rel I' r m := by
  obtain ⟨hp, h⟩ := h
  refine ⟨hp.congr (fun c h1 h2 => e c (by omega) (by omega)), ?_⟩
  rw [e r (by omega) (by omega), e (r + 11) (by omega) (by omega), e (r + 12) (by omega) (by omega), e (r + 13) (by omega) (by omega)]
  exact h
/-- what an operation leaves that keeps the state first: as it was when it throws -/
def mx_pk (f : Nat → String) (v : Nat × Int32) (X1 X2 : mx_H) : mx_R → mx_H → Prop := fun r X => (v.1 = 0 ∧ r = .inl (some (.int v.2)) ∧ X = X2) ∨ (v.1 ≠ 0 ∧ r = .inr (f v.1) ∧ ∃ t, X1.1 ≤ t ∧ X = (t, X1.2))
theorem mx_pk_i {f : Nat → String} {v : Nat × Int32} {X1 X X2 : mx_H} {w : Int32} (h : v = (0, w)) (hX : X = X2) : mx_pk f v X1 X2 (.inl (some (.int w))) X := by subst h; subst hX; exact Or.inl ⟨rfl, rfl, rfl⟩
theorem mx_pk_x {f : Nat → String} {v : Nat × Int32} {X X2 : mx_H} {C : String} {t : Nat} (ht : X.1 ≤ t) (c : Nat) (h : v.1 = c + 1) (hC : f (c + 1) = C) : mx_pk f v X X2 (.inr C) (t, X.2) := Or.inr ⟨by omega, by rw [h, hC], t, ht, rfl⟩
theorem c_Vh_mark (htr : l.stackTraces = false) (hV : vh_ok S P x) (hSt : st_ok S P (x + 23)) (hSr : st_rel I (x + 23) m) (hG : m 4 = nI G) (hG8 : G ≤ 8) (hPt : pt_ok S P (x + 68)) (hla : P (x + 23) 2 = some la) (hz1 : I (x + 68) 2 = nI z) (hz : z < 12) (hA : I (x + 68) 1 = nI A) (hA12 : A ≤ 12) {v w : Int32} : mx_C l E M_Vh_mark 7 3 18 [.ref (x), .int (v), .int (w)] (t, S, I, P, J) (mx_pk (fun c => if c = 1 then "java/lang/IndexOutOfBoundsException" else "java/lang/IllegalArgumentException") (sp_mark m G v w) (t, S, I, P, J) (t, S, mx_up (vs_keep I (x + 68) (x + 23) z A) (x + 23 + 1 + 5) v.toNatClampNeg w, (mx_upP P (x + 68 + 2 + 15 * z) 2 (some la)), J)) := by
  obtain ⟨hV0, hVp0, hVp1, hVp2, hVp3, hVp4, hVp5, hVp7, hVp8, hVp9, hVp10, hVp11, hVp12, hVs15, hVs16, hVs68⟩ := id hV
  obtain ⟨hC0, hC1, hC2, hC3, hC4, hC5, hC6, hD1, hD2, hD3, hD4, hPe, hLo⟩ := id hSt
  obtain ⟨hPr, u0, u1, u2, u3, u4, u5, u6, u7, u8⟩ := id hSr
  obtain ⟨hA0, hA1, hA2, hA3, hA4, hA5, hA6, hA7, hB1, hB2, hB3, hB4, hB5, hB6, hB7⟩ := id hPe
  obtain ⟨r0, r1, r2, r3, r4, r5, r6, r7, r8⟩ := id hPr
  have hu : ∀ c, c ≠ x + 68 + 2 + 15 * z → (mx_upP P (x + 68 + 2 + 15 * z) 2 (some la)) c = P c := fun c hc => mx_upP_ne hc
  have hW3 : (mx_upP P (x + 68 + 2 + 15 * z) 2 (some la)) x 3 = some (x + 23) := by rw [hu x (by omega)]; exact hVp3
  have hW7 : (mx_upP P (x + 68 + 2 + 15 * z) 2 (some la)) x 7 = some (x + 68) := by rw [hu x (by omega)]; exact hVp7
  have hX0 : (mx_upP P (x + 68 + 2 + 15 * z) 2 (some la)) (x + 23) 0 = some (x + 23 + 1) := by rw [hu (x + 23) (by omega)]; assumption
  have hX1 : (mx_upP P (x + 68 + 2 + 15 * z) 2 (some la)) (x + 23) 1 = some (x + 23 + 9) := by rw [hu (x + 23) (by omega)]; assumption
  have hX10 : (mx_upP P (x + 68 + 2 + 15 * z) 2 (some la)) (x + 23) 10 = some (x + 23 + 11) := by rw [hu (x + 23) (by omega)]; assumption
  have hX11 : (mx_upP P (x + 68 + 2 + 15 * z) 2 (some la)) (x + 23) 11 = some (x + 23 + 12) := by rw [hu (x + 23) (by omega)]; assumption
  have hX12 : (mx_upP P (x + 68 + 2 + 15 * z) 2 (some la)) (x + 23) 12 = some (x + 23 + 13) := by rw [hu (x + 23) (by omega)]; assumption
  have hX13 : (mx_upP P (x + 68 + 2 + 15 * z) 2 (some la)) (x + 23) 13 = some (x + 23 + 14) := by rw [hu (x + 23) (by omega)]; assumption
  have hY2 : (mx_upP P (x + 68 + 2 + 15 * z) 2 (some la)) (x + 23 + 1) 2 = some (x + 23 + 1 + 1) := by rw [hu (x + 23 + 1) (by omega)]; assumption
  have hY3 : (mx_upP P (x + 68 + 2 + 15 * z) 2 (some la)) (x + 23 + 1) 3 = some (x + 23 + 1 + 2) := by rw [hu (x + 23 + 1) (by omega)]; assumption
  have hY4 : (mx_upP P (x + 68 + 2 + 15 * z) 2 (some la)) (x + 23 + 1) 4 = some (x + 23 + 1 + 3) := by rw [hu (x + 23 + 1) (by omega)]; assumption
  have hY5 : (mx_upP P (x + 68 + 2 + 15 * z) 2 (some la)) (x + 23 + 1) 5 = some (x + 23 + 1 + 4) := by rw [hu (x + 23 + 1) (by omega)]; assumption
  have hY6 : (mx_upP P (x + 68 + 2 + 15 * z) 2 (some la)) (x + 23 + 1) 6 = some (x + 23 + 1 + 5) := by rw [hu (x + 23 + 1) (by omega)]; assumption
  have hY7 : (mx_upP P (x + 68 + 2 + 15 * z) 2 (some la)) (x + 23 + 1) 7 = some (x + 23 + 1 + 6) := by rw [hu (x + 23 + 1) (by omega)]; assumption
  have hY8 : (mx_upP P (x + 68 + 2 + 15 * z) 2 (some la)) (x + 23 + 1) 8 = some (x + 23 + 1 + 7) := by rw [hu (x + 23 + 1) (by omega)]; assumption
  have hK : ∀ c, c < x + 68 → (vs_keep I (x + 68) (x + 23) z A) c = I c := fun c hc => vs_keep_o hz (Or.inl hc)
  have hPt0 := hPt.1
  refine mx_C_of (ls0 := [some (.ref (x)), some (.int (v)), some (.int (w)), none]) (by decide +kernel) rfl rfl (Nat.le_of_ble_eq_true rfl) rfl ?_
  refine mx_al0 d_Vh_mark_0 ?_
  refine mx_il1 d_Vh_mark_1 ?_
  refine mx_nV1 d_Vh_mark_2 (c_needGuest htr hV hSt hSr hG hG8) ok_Vh_needGuest ml_Vh_199 (by assumption) ⟨rfl, rfl⟩ rfl (by decide) (by decide) (by decide) (Nat.le_of_ble_eq_true rfl) (fun hb2 t9 ht => mx_pk_x ht 0 (by simp_all [sp_mark]) rfl) (fun hb2 => ?_)
  obtain ⟨g, hgL, rfl⟩ := vs_isN_of (by omega) hb2
  have hgc : (nI g).toNatClampNeg = g := nI_clamp (by omega)
  have hgL8 : g < 8 := by omega
  refine mx_il2 d_Vh_mark_5 ?_
  refine mx_in_0 d_Vh_mark_6 ?_
  refine mx_bip 63 d_Vh_mark_7 (by decide) ?_
  refine mx_nS3 d_Vh_mark_9 (c_needNumber htr) ok_Vh_needNumber ml_Vh_269 rfl (by decide) (by decide) (by decide) (Nat.le_of_ble_eq_true rfl) (fun hb9 t9 ht => mx_pk_x ht 1 (by have hnO := vs_nn0 (n := 63) (by omega) hb9; simp_all [sp_mark]) rfl) (fun hb9 => ?_)
  have hnw : vs_isN w 64 = true := by rw [← vs_isN_le2 (n := 63) (by omega)]; exact hb9
  refine mx_al0 d_Vh_mark_12 ?_
  refine mx_getR d_Vh_mark_13 fl_Vh_64 (by assumption) (by assumption) ?_
  refine mx_al0 d_Vh_mark_16 ?_
  refine mx_getR d_Vh_mark_17 fl_Vh_51 (by assumption) (by assumption) ?_
  refine mx_cV1v d_Vh_mark_20 (c_keep hPt hSt hla hz1 hz hA hA12) ok_Pt_keep ml_Vh_257 (by assumption) ⟨rfl, rfl⟩ (by decide) (Nat.le_of_ble_eq_true rfl) ?_
  refine mx_al0 d_Vh_mark_23 ?_
  refine mx_getR d_Vh_mark_24 fl_Vh_51 (by assumption) (by assumption) ?_
  refine mx_getR d_Vh_mark_27 fl_Vh_162 (by assumption) (by assumption) ?_
  refine mx_getR d_Vh_mark_30 fl_Vh_208 (by assumption) (by assumption) ?_
  refine mx_il1 d_Vh_mark_33 ?_
  refine mx_cS2i d_Vh_mark_34 (c_get (k := g) (by assumption) (by omega) (by omega)) ok_Vh_get ml_Vh_171 (by decide) (Nat.le_of_ble_eq_true rfl) ?_
  refine mx_is3 d_Vh_mark_37 ?_
  refine mx_al0 d_Vh_mark_38 ?_
  refine mx_getR d_Vh_mark_39 fl_Vh_51 (by assumption) (by assumption) ?_
  refine mx_getR d_Vh_mark_42 fl_Vh_162 (by assumption) (by assumption) ?_
  refine mx_getR d_Vh_mark_45 fl_Vh_208 (by assumption) (by assumption) ?_
  refine mx_il1 d_Vh_mark_48 ?_
  refine mx_il2 d_Vh_mark_49 ?_
  refine mx_cS3v d_Vh_mark_50 (c_put (k := g) (by assumption) (by omega) (by omega)) ok_Vh_put ml_Vh_272 (by decide) (Nat.le_of_ble_eq_true rfl) ?_
  refine mx_il3 d_Vh_mark_53 ?_
  exact mx_iret d_Vh_mark_54 rfl (mx_pk_i (by rw [hK _ (by omega), r6 g hgL8]; simp [sp_mark, *]) (by rw [hgc]))
theorem c_St_enter (h0 : S s = some (0, 6)) (h1 : P s 12 = some (s + 13)) (h2 : S (s + 13) = some (1, 64)) {h q : Nat} (hh : h < 8) (hq : q < 8) {v : Int32} : mx_C l E M_St_enter 2 0 0 [.ref (s), .int (nI (h)), .int (nI (q)), .int (v)] (t, S, I, P, J) (mx_rv (t, S, mx_up I (s + 13) (8 * h + q) v, P, J)) := by
  refine mx_C_of (ls0 := [some (.ref (s)), some (.int (nI (h))), some (.int (nI (q))), some (.int (v))]) (by decide +kernel) rfl rfl (Nat.le_of_ble_eq_true rfl) rfl ?_
  refine mx_al0 d_St_enter_0 ?_
  refine mx_getR d_St_enter_1 fl_St_54 (by assumption) (by assumption) ?_
  refine mx_bip 8 d_St_enter_4 (by decide) ?_
  refine mx_il1 d_St_enter_6 ?_
  refine mx_imulN d_St_enter_7 ?_
  refine mx_il2 d_St_enter_8 ?_
  refine mx_iaddN d_St_enter_9 ?_
  refine mx_il3 d_St_enter_10 ?_
  refine mx_cSN3v d_St_enter_11 (c_put (k := 8 * h + q) (by assumption) (by omega) (by omega)) ok_Vh_put ml_St_79 (by decide) (Nat.le_of_ble_eq_true rfl) ?_
  exact mx_vret d_St_enter_14 rfl (mx_rv_of rfl)
theorem c_Vh_strike (htr : l.stackTraces = false) (hV : vh_ok S P x) (hSt : st_ok S P (x + 23)) (hSr : st_rel I (x + 23) m) (hH : m 3 = nI H) (hH8 : H ≤ 8) (hPt : pt_ok S P (x + 68)) (hla : P (x + 23) 2 = some la) (hz1 : I (x + 68) 2 = nI z) (hz : z < 12) (hA : I (x + 68) 1 = nI A) (hA12 : A ≤ 12) {v u : Int32} : mx_C l E M_Vh_strike 7 3 18 [.ref (x), .int (v), .int (u)] (t, S, I, P, J) (mx_pk (fun c => if c = 1 then "java/lang/IndexOutOfBoundsException" else "java/lang/IllegalStateException") (sp_strike m H v u) (t, S, I, P, J) (t, S, mx_up (vs_keep I (x + 68) (x + 23) z A) (x + 23 + 13) (8 * v.toNatClampNeg + u.toNatClampNeg) (-1), (mx_upP P (x + 68 + 2 + 15 * z) 2 (some la)), J)) := by
  obtain ⟨hV0, hVp0, hVp1, hVp2, hVp3, hVp4, hVp5, hVp7, hVp8, hVp9, hVp10, hVp11, hVp12, hVs15, hVs16, hVs68⟩ := id hV
  obtain ⟨hC0, hC1, hC2, hC3, hC4, hC5, hC6, hD1, hD2, hD3, hD4, hPe, hLo⟩ := id hSt
  obtain ⟨hPr, u0, u1, u2, u3, u4, u5, u6, u7, u8⟩ := id hSr
  obtain ⟨hA0, hA1, hA2, hA3, hA4, hA5, hA6, hA7, hB1, hB2, hB3, hB4, hB5, hB6, hB7⟩ := id hPe
  obtain ⟨r0, r1, r2, r3, r4, r5, r6, r7, r8⟩ := id hPr
  have hu : ∀ c, c ≠ x + 68 + 2 + 15 * z → (mx_upP P (x + 68 + 2 + 15 * z) 2 (some la)) c = P c := fun c hc => mx_upP_ne hc
  have hW3 : (mx_upP P (x + 68 + 2 + 15 * z) 2 (some la)) x 3 = some (x + 23) := by rw [hu x (by omega)]; exact hVp3
  have hW7 : (mx_upP P (x + 68 + 2 + 15 * z) 2 (some la)) x 7 = some (x + 68) := by rw [hu x (by omega)]; exact hVp7
  have hX0 : (mx_upP P (x + 68 + 2 + 15 * z) 2 (some la)) (x + 23) 0 = some (x + 23 + 1) := by rw [hu (x + 23) (by omega)]; assumption
  have hX1 : (mx_upP P (x + 68 + 2 + 15 * z) 2 (some la)) (x + 23) 1 = some (x + 23 + 9) := by rw [hu (x + 23) (by omega)]; assumption
  have hX10 : (mx_upP P (x + 68 + 2 + 15 * z) 2 (some la)) (x + 23) 10 = some (x + 23 + 11) := by rw [hu (x + 23) (by omega)]; assumption
  have hX11 : (mx_upP P (x + 68 + 2 + 15 * z) 2 (some la)) (x + 23) 11 = some (x + 23 + 12) := by rw [hu (x + 23) (by omega)]; assumption
  have hX12 : (mx_upP P (x + 68 + 2 + 15 * z) 2 (some la)) (x + 23) 12 = some (x + 23 + 13) := by rw [hu (x + 23) (by omega)]; assumption
  have hX13 : (mx_upP P (x + 68 + 2 + 15 * z) 2 (some la)) (x + 23) 13 = some (x + 23 + 14) := by rw [hu (x + 23) (by omega)]; assumption
  have hY2 : (mx_upP P (x + 68 + 2 + 15 * z) 2 (some la)) (x + 23 + 1) 2 = some (x + 23 + 1 + 1) := by rw [hu (x + 23 + 1) (by omega)]; assumption
  have hY3 : (mx_upP P (x + 68 + 2 + 15 * z) 2 (some la)) (x + 23 + 1) 3 = some (x + 23 + 1 + 2) := by rw [hu (x + 23 + 1) (by omega)]; assumption
  have hY4 : (mx_upP P (x + 68 + 2 + 15 * z) 2 (some la)) (x + 23 + 1) 4 = some (x + 23 + 1 + 3) := by rw [hu (x + 23 + 1) (by omega)]; assumption
  have hY5 : (mx_upP P (x + 68 + 2 + 15 * z) 2 (some la)) (x + 23 + 1) 5 = some (x + 23 + 1 + 4) := by rw [hu (x + 23 + 1) (by omega)]; assumption
  have hY6 : (mx_upP P (x + 68 + 2 + 15 * z) 2 (some la)) (x + 23 + 1) 6 = some (x + 23 + 1 + 5) := by rw [hu (x + 23 + 1) (by omega)]; assumption
  have hY7 : (mx_upP P (x + 68 + 2 + 15 * z) 2 (some la)) (x + 23 + 1) 7 = some (x + 23 + 1 + 6) := by rw [hu (x + 23 + 1) (by omega)]; assumption
  have hY8 : (mx_upP P (x + 68 + 2 + 15 * z) 2 (some la)) (x + 23 + 1) 8 = some (x + 23 + 1 + 7) := by rw [hu (x + 23 + 1) (by omega)]; assumption
  have hK : ∀ c, c < x + 68 → (vs_keep I (x + 68) (x + 23) z A) c = I c := fun c hc => vs_keep_o hz (Or.inl hc)
  have hPt0 := hPt.1
  refine mx_C_of (ls0 := [some (.ref (x)), some (.int (v)), some (.int (u)), none]) (by decide +kernel) rfl rfl (Nat.le_of_ble_eq_true rfl) rfl ?_
  refine mx_al0 d_Vh_strike_0 ?_
  refine mx_il1 d_Vh_strike_1 ?_
  refine mx_nV1 d_Vh_strike_2 (c_needHost htr hV hSt hSr hH hH8) ok_Vh_needHost ml_Vh_159 (by assumption) ⟨rfl, rfl⟩ rfl (by decide) (by decide) (by decide) (Nat.le_of_ble_eq_true rfl) (fun hb2 t9 ht => mx_pk_x ht 0 (by simp_all [sp_strike]) rfl) (fun hb2 => ?_)
  obtain ⟨h, hhL, rfl⟩ := vs_isN_of (by omega) hb2
  have hhc : (nI h).toNatClampNeg = h := nI_clamp (by omega)
  have hhL8 : h < 8 := by omega
  refine mx_il2 d_Vh_strike_5 ?_
  refine mx_nS1 d_Vh_strike_6 (c_needQuarter htr) ok_Vh_needQuarter ml_Vh_226 rfl (by decide) (by decide) (by decide) (Nat.le_of_ble_eq_true rfl) (fun hb6 t9 ht => mx_pk_x ht 0 (by simp_all [sp_strike]) rfl) (fun hb6 => ?_)
  obtain ⟨q, hqL, rfl⟩ := vs_isN_of (by omega) hb6
  have hqc : (nI q).toNatClampNeg = q := nI_clamp (by omega)
  have hqL8 : q < 8 := by omega
  refine mx_al0 d_Vh_strike_9 ?_
  refine mx_getR d_Vh_strike_10 fl_Vh_51 (by assumption) (by assumption) ?_
  refine mx_il1 d_Vh_strike_13 ?_
  refine mx_il2 d_Vh_strike_14 ?_
  refine mx_cV2i d_Vh_strike_15 (c_St_guestAt hSt hSr (h := h) (q := q) (by omega) (by omega)) ok_St_guestAt ml_Vh_229 (by assumption) ⟨rfl, rfl⟩ (by decide) (Nat.le_of_ble_eq_true rfl) ?_
  refine mx_is3 d_Vh_strike_18 ?_
  refine mx_il3 d_Vh_strike_19 ?_
  refine mx_ic_m1 d_Vh_strike_20 ?_
  refine mx_icmp_ne 35 d_Vh_strike_21 (by decide) (fun c_21 => ?_) (fun c_21 => ?_)
  · skip
    refine mx_al0 d_Vh_strike_35 ?_
    refine mx_getR d_Vh_strike_36 fl_Vh_64 (by assumption) (by assumption) ?_
    refine mx_al0 d_Vh_strike_39 ?_
    refine mx_getR d_Vh_strike_40 fl_Vh_51 (by assumption) (by assumption) ?_
    refine mx_cV1v d_Vh_strike_43 (c_keep hPt hSt hla hz1 hz hA hA12) ok_Pt_keep ml_Vh_257 (by assumption) ⟨rfl, rfl⟩ (by decide) (Nat.le_of_ble_eq_true rfl) ?_
    refine mx_al0 d_Vh_strike_46 ?_
    refine mx_getR d_Vh_strike_47 fl_Vh_51 (by assumption) (by assumption) ?_
    refine mx_il1 d_Vh_strike_50 ?_
    refine mx_il2 d_Vh_strike_51 ?_
    refine mx_ic_m1 d_Vh_strike_52 ?_
    refine mx_cV3v d_Vh_strike_53 (c_St_enter (by assumption) (by assumption) (by assumption) (h := h) (q := q) (by omega) (by omega)) ok_St_enter ml_Vh_260 (by assumption) ⟨rfl, rfl⟩ (by decide) (Nat.le_of_ble_eq_true rfl) ?_
    refine mx_il3 d_Vh_strike_56 ?_
    exact mx_iret d_Vh_strike_57 rfl (mx_pk_i (by simp [sp_strike, hb2, hb6, hhc, hqc, c_21]) (by rw [hhc, hqc]))
  · skip
    exact mx_throwW (i := 35) htr rfl th_Vh_252_256 rfl rfl d_Vh_strike_24 d_Vh_strike_27 d_Vh_strike_28 d_Vh_strike_31 d_Vh_strike_34 (by decide) (by decide) (by decide) (Nat.le_of_ble_eq_true rfl) (fun t9 ht => mx_pk_x ht 1 (by simp [sp_strike, hb2, hb6, hhc, hqc, c_21]) rfl)
theorem c_Vh_book (htr : l.stackTraces = false) (hV : vh_ok S P x) (hSt : st_ok S P (x + 23)) (hSr : st_rel I (x + 23) m) (hH : m 3 = nI H) (hH8 : H ≤ 8) (hG : m 4 = nI G) (hG8 : G ≤ 8) (hPt : pt_ok S P (x + 68)) (hla : P (x + 23) 2 = some la) (hz1 : I (x + 68) 2 = nI z) (hz : z < 12) (hA : I (x + 68) 1 = nI A) (hA12 : A ≤ 12) (hk : rk_ok m) {v w u : Int32} : mx_C l E M_Vh_book 8 4 24 [.ref (x), .int (v), .int (w), .int (u)] (t, S, I, P, J) (mx_pk (fun c => if c = 1 then "java/lang/IndexOutOfBoundsException" else "java/lang/IllegalStateException") (sp_book m H G v w u) (t, S, I, P, J) (t, S, mx_up (vs_keep I (x + 68) (x + 23) z A) (x + 23 + 13) (8 * v.toNatClampNeg + u.toNatClampNeg) w, (mx_upP P (x + 68 + 2 + 15 * z) 2 (some la)), J)) := by
  obtain ⟨hV0, hVp0, hVp1, hVp2, hVp3, hVp4, hVp5, hVp7, hVp8, hVp9, hVp10, hVp11, hVp12, hVs15, hVs16, hVs68⟩ := id hV
  obtain ⟨hC0, hC1, hC2, hC3, hC4, hC5, hC6, hD1, hD2, hD3, hD4, hPe, hLo⟩ := id hSt
  obtain ⟨hPr, u0, u1, u2, u3, u4, u5, u6, u7, u8⟩ := id hSr
  obtain ⟨hA0, hA1, hA2, hA3, hA4, hA5, hA6, hA7, hB1, hB2, hB3, hB4, hB5, hB6, hB7⟩ := id hPe
  obtain ⟨r0, r1, r2, r3, r4, r5, r6, r7, r8⟩ := id hPr
  have hu : ∀ c, c ≠ x + 68 + 2 + 15 * z → (mx_upP P (x + 68 + 2 + 15 * z) 2 (some la)) c = P c := fun c hc => mx_upP_ne hc
  have hW3 : (mx_upP P (x + 68 + 2 + 15 * z) 2 (some la)) x 3 = some (x + 23) := by rw [hu x (by omega)]; exact hVp3
  have hW7 : (mx_upP P (x + 68 + 2 + 15 * z) 2 (some la)) x 7 = some (x + 68) := by rw [hu x (by omega)]; exact hVp7
  have hX0 : (mx_upP P (x + 68 + 2 + 15 * z) 2 (some la)) (x + 23) 0 = some (x + 23 + 1) := by rw [hu (x + 23) (by omega)]; assumption
  have hX1 : (mx_upP P (x + 68 + 2 + 15 * z) 2 (some la)) (x + 23) 1 = some (x + 23 + 9) := by rw [hu (x + 23) (by omega)]; assumption
  have hX10 : (mx_upP P (x + 68 + 2 + 15 * z) 2 (some la)) (x + 23) 10 = some (x + 23 + 11) := by rw [hu (x + 23) (by omega)]; assumption
  have hX11 : (mx_upP P (x + 68 + 2 + 15 * z) 2 (some la)) (x + 23) 11 = some (x + 23 + 12) := by rw [hu (x + 23) (by omega)]; assumption
  have hX12 : (mx_upP P (x + 68 + 2 + 15 * z) 2 (some la)) (x + 23) 12 = some (x + 23 + 13) := by rw [hu (x + 23) (by omega)]; assumption
  have hX13 : (mx_upP P (x + 68 + 2 + 15 * z) 2 (some la)) (x + 23) 13 = some (x + 23 + 14) := by rw [hu (x + 23) (by omega)]; assumption
  have hY2 : (mx_upP P (x + 68 + 2 + 15 * z) 2 (some la)) (x + 23 + 1) 2 = some (x + 23 + 1 + 1) := by rw [hu (x + 23 + 1) (by omega)]; assumption
  have hY3 : (mx_upP P (x + 68 + 2 + 15 * z) 2 (some la)) (x + 23 + 1) 3 = some (x + 23 + 1 + 2) := by rw [hu (x + 23 + 1) (by omega)]; assumption
  have hY4 : (mx_upP P (x + 68 + 2 + 15 * z) 2 (some la)) (x + 23 + 1) 4 = some (x + 23 + 1 + 3) := by rw [hu (x + 23 + 1) (by omega)]; assumption
  have hY5 : (mx_upP P (x + 68 + 2 + 15 * z) 2 (some la)) (x + 23 + 1) 5 = some (x + 23 + 1 + 4) := by rw [hu (x + 23 + 1) (by omega)]; assumption
  have hY6 : (mx_upP P (x + 68 + 2 + 15 * z) 2 (some la)) (x + 23 + 1) 6 = some (x + 23 + 1 + 5) := by rw [hu (x + 23 + 1) (by omega)]; assumption
  have hY7 : (mx_upP P (x + 68 + 2 + 15 * z) 2 (some la)) (x + 23 + 1) 7 = some (x + 23 + 1 + 6) := by rw [hu (x + 23 + 1) (by omega)]; assumption
  have hY8 : (mx_upP P (x + 68 + 2 + 15 * z) 2 (some la)) (x + 23 + 1) 8 = some (x + 23 + 1 + 7) := by rw [hu (x + 23 + 1) (by omega)]; assumption
  have hK : ∀ c, c < x + 68 → (vs_keep I (x + 68) (x + 23) z A) c = I c := fun c hc => vs_keep_o hz (Or.inl hc)
  have hPt0 := hPt.1
  have hSt9 : st_ok S (mx_upP P (x + 68 + 2 + 15 * z) 2 (some la)) (x + 23) := hSt.congrP (fun c h1 h2 => hu c (by omega))
  have hSr9 : st_rel (vs_keep I (x + 68) (x + 23) z A) (x + 23) m := hSr.congr (fun c h1 h2 => hK c (by omega))
  refine mx_C_of (ls0 := [some (.ref (x)), some (.int (v)), some (.int (w)), some (.int (u)), none]) (by decide +kernel) rfl rfl (Nat.le_of_ble_eq_true rfl) rfl ?_
  refine mx_al0 d_Vh_book_0 ?_
  refine mx_il1 d_Vh_book_1 ?_
  refine mx_il2 d_Vh_book_2 ?_
  refine mx_il3 d_Vh_book_3 ?_
  refine mx_nV3M d_Vh_book_4 (c_needMeeting htr hV hSt hSr hH hH8 hG hG8) ok_Vh_needMeeting ml_Vh_233 (by assumption) ⟨rfl, rfl⟩ rfl (by decide) (by decide) (by decide) (Nat.le_of_ble_eq_true rfl) (fun hb4 t9 ht => mx_pk_x ht 0 (by simp_all [sp_book]) rfl) (fun hb4 => ?_)
  obtain ⟨⟨h, hhL, rfl⟩, ⟨g, hgL, rfl⟩, ⟨q, hqL, rfl⟩⟩ := vs_isM hb4 hH8 hG8
  have hhc : (nI h).toNatClampNeg = h := nI_clamp (by omega)
  have hgc : (nI g).toNatClampNeg = g := nI_clamp (by omega)
  have hqc : (nI q).toNatClampNeg = q := nI_clamp (by omega)
  refine mx_al0 d_Vh_book_7 ?_
  refine mx_getR d_Vh_book_8 fl_Vh_51 (by assumption) (by assumption) ?_
  refine mx_getR d_Vh_book_11 fl_Vh_162 (by assumption) (by assumption) ?_
  refine mx_il1 d_Vh_book_14 ?_
  refine mx_il2 d_Vh_book_15 ?_
  refine mx_il3 d_Vh_book_16 ?_
  refine mx_cV3i d_Vh_book_17 (c_Pe_canMeet hPe hPr hk (h := h) (g := g) (q := q) (by omega) (by omega) (by omega)) ok_Pe_canMeet ml_Vh_237 (by assumption) ⟨rfl, rfl⟩ (by decide) (Nat.le_of_ble_eq_true rfl) ?_
  refine mx_ifB_eq 38 d_Vh_book_20 (by decide) (fun c_20 => ?_) (fun c_20 => ?_)
  · skip
    exact mx_throw (i := 34) htr rfl th_Vh_252_256 rfl rfl d_Vh_book_38 d_Vh_book_41 d_Vh_book_42 d_Vh_book_44 d_Vh_book_47 (by decide) (by decide) (by decide) (Nat.le_of_ble_eq_true rfl) (fun t9 ht => mx_pk_x ht 1 (by simp [sp_book, hb4, hhc, hgc, hqc, *]) rfl)
  · skip
    refine mx_al0 d_Vh_book_23 ?_
    refine mx_getR d_Vh_book_24 fl_Vh_51 (by assumption) (by assumption) ?_
    refine mx_il2 d_Vh_book_27 ?_
    refine mx_cV1i d_Vh_book_28 (c_St_busyOf hSt hSr hH hH8) ok_St_busyOf ml_Vh_211 (by assumption) ⟨rfl, rfl⟩ (by decide) (Nat.le_of_ble_eq_true rfl) ?_
    refine mx_il3 d_Vh_book_31 ?_
    refine mx_cS2i d_Vh_book_32 (c_has (j := q) (by omega)) ok_Vh_has ml_Vh_248 (by decide) (Nat.le_of_ble_eq_true rfl) ?_
    refine mx_ifB_eq 48 d_Vh_book_35 (by decide) (fun c_35 => ?_) (fun c_35 => ?_)
    · skip
      rw [vs_has_bt (by omega)] at c_35
      refine mx_al0 d_Vh_book_48 ?_
      refine mx_getR d_Vh_book_49 fl_Vh_64 (by assumption) (by assumption) ?_
      refine mx_al0 d_Vh_book_52 ?_
      refine mx_getR d_Vh_book_53 fl_Vh_51 (by assumption) (by assumption) ?_
      refine mx_cV1v d_Vh_book_56 (c_keep hPt hSt hla hz1 hz hA hA12) ok_Pt_keep ml_Vh_257 (by assumption) ⟨rfl, rfl⟩ (by decide) (Nat.le_of_ble_eq_true rfl) ?_
      refine mx_al0 d_Vh_book_59 ?_
      refine mx_getR d_Vh_book_60 fl_Vh_51 (by assumption) (by assumption) ?_
      refine mx_il1 d_Vh_book_63 ?_
      refine mx_il3 d_Vh_book_64 ?_
      refine mx_cV2i d_Vh_book_65 (c_St_guestAt hSt9 hSr9 (h := h) (q := q) (by omega) (by omega)) ok_St_guestAt ml_Vh_229 (by assumption) ⟨rfl, rfl⟩ (by decide) (Nat.le_of_ble_eq_true rfl) ?_
      refine mx_is4 d_Vh_book_68 ?_
      refine mx_al0 d_Vh_book_70 ?_
      refine mx_getR d_Vh_book_71 fl_Vh_51 (by assumption) (by assumption) ?_
      refine mx_il1 d_Vh_book_74 ?_
      refine mx_il3 d_Vh_book_75 ?_
      refine mx_il2 d_Vh_book_76 ?_
      refine mx_cV3v d_Vh_book_77 (c_St_enter (by assumption) (by assumption) (by assumption) (h := h) (q := q) (by omega) (by omega)) ok_St_enter ml_Vh_260 (by assumption) ⟨rfl, rfl⟩ (by decide) (Nat.le_of_ble_eq_true rfl) ?_
      refine mx_il4 d_Vh_book_80 ?_
      exact mx_iret d_Vh_book_82 rfl (mx_pk_i (by simp [sp_book, hb4, hhc, hgc, hqc, c_20, c_35]) (by rw [hhc, hqc]))
    · skip
      rw [vs_has_bt (by omega)] at c_35
      exact mx_throw (i := 34) htr rfl th_Vh_252_256 rfl rfl d_Vh_book_38 d_Vh_book_41 d_Vh_book_42 d_Vh_book_44 d_Vh_book_47 (by decide) (by decide) (by decide) (Nat.le_of_ble_eq_true rfl) (fun t9 ht => mx_pk_x ht 1 (by simp [sp_book, hb4, hhc, hgc, hqc, *]) rfl)
end R26
