/-! THE PAST -/
section P24
variable {l : Launch} {E : mx_Env} {t : Nat} {S : mx_S} {I : mx_I} {P : mx_P} {J : mx_G} {pt s A z : Nat}
def pt_ok (S : mx_S) (P : mx_P) (pt : Nat) : Prop := S pt = some (0, 7) ∧ P pt 0 = some (pt + 1) ∧ S (pt + 1) = some (4, 12) ∧ ∀ i, i < 12 → P (pt + 1) i = some (pt + 2 + 15 * i) ∧ st_ok S P (pt + 2 + 15 * i)
theorem st_ok_law {a r la : Nat} (h : st_ok S P r) (ha : a + 15 ≤ r ∨ r + 15 ≤ a ∨ a = r) : st_ok S (mx_upP P a 2 (some la)) r := by
  obtain ⟨e0, e1, e2, e3, e4, e5, e6, e7, e8, e9, e10, hp, hl⟩ := h
  have hu : ∀ c k, k ≠ 2 → mx_upP P a 2 (some la) c k = P c k := fun c k hk => by simp [mx_upP, hk]
  have hv : ∀ c, c ≠ a → mx_upP P a 2 (some la) c = P c := fun c hc => mx_upP_ne hc
  refine ⟨e0, (hu _ _ (by decide)).trans e1, (hu _ _ (by decide)).trans e2, (hu _ _ (by decide)).trans e3, (hu _ _ (by decide)).trans e4, (hu _ _ (by decide)).trans e5, (hu _ _ (by decide)).trans e6, e7, e8, e9, e10, ?_, ?_⟩
  · unfold pe_ok at hp ⊢
    rw [hv (r + 1) (by omega)]; exact hp
  · unfold lo_ok at hl ⊢
    rw [hv (r + 9) (by omega)]; exact hl
theorem pt_ok_law {a la : Nat} (h : pt_ok S P pt) (ha : a + 15 ≤ pt) : pt_ok S (mx_upP P a 2 (some la)) pt := by
  obtain ⟨e0, e1, e2, e3⟩ := h
  have hv : ∀ c, c ≠ a → mx_upP P a 2 (some la) c = P c := fun c hc => mx_upP_ne hc
  refine ⟨e0, by rw [hv pt (by omega)]; exact e1, e2, fun i hi => ⟨by rw [hv (pt + 1) (by omega)]; exact (e3 i hi).1, st_ok_law (e3 i hi).2 (by omega)⟩⟩
theorem c_placeAt (hPt : pt_ok S P pt) {i : Nat} (hi : i < 12) : mx_C l E M_Pt_placeAt 0 0 0 [.ref (pt), .int (nI (i))] (t, S, I, P, J) (mx_rr (pt + 2 + 15 * i) (t, S, I, P, J)) := by
  obtain ⟨hq0, hq1, hq2, hq3⟩ := id hPt
  refine mx_C_of (ls0 := [some (.ref (pt)), some (.int (nI (i)))]) (by decide +kernel) rfl rfl (Nat.le_of_ble_eq_true rfl) rfl ?_
  refine mx_il1 d_Pt_placeAt_0 ?_
  refine mx_if_lt 22 d_Pt_placeAt_1 (by decide) (fun c_1 => absurd c_1 (nI_pos (by omega))) (fun c_1 => ?_)
  refine mx_il1 d_Pt_placeAt_4 ?_
  refine mx_al0 d_Pt_placeAt_5 ?_
  refine mx_getR d_Pt_placeAt_6 fl_Pt_11 (by assumption) (by assumption) ?_
  refine mx_alenP d_Pt_placeAt_9 (by assumption) ?_
  refine mx_icN_ge 22 d_Pt_placeAt_10 (by decide) (by omega) (by omega) (fun c_10 => absurd c_10 (by omega)) (fun c_10 => ?_)
  refine mx_al0 d_Pt_placeAt_13 ?_
  refine mx_getR d_Pt_placeAt_14 fl_Pt_11 (by assumption) (by assumption) ?_
  refine mx_il1 d_Pt_placeAt_17 ?_
  refine mx_aald d_Pt_placeAt_18 (by assumption) (nI_inb (by omega) (by omega)) (by rw [nI_clamp (by omega)]; exact (hq3 i hi).1) ?_
  refine mx_goto 23 d_Pt_placeAt_19 (by decide) ?_
  exact mx_aret d_Pt_placeAt_23 rfl (by first | exact Or.inl ⟨_, rfl⟩ | exact Or.inr ⟨_, rfl⟩) (⟨rfl, rfl⟩)
theorem c_forget (hPt : pt_ok S P pt)  : mx_C l E M_Pt_forget 0 0 0 [.ref (pt)] (t, S, I, P, J) (mx_rv (t, S, mx_up I (pt) 1 (nI 0), P, J)) := by
  obtain ⟨hq0, hq1, hq2, hq3⟩ := id hPt
  refine mx_C_of (ls0 := [some (.ref (pt))]) (by decide +kernel) rfl rfl (Nat.le_of_ble_eq_true rfl) rfl ?_
  refine mx_al0 d_Pt_forget_0 ?_
  refine mx_in_0 d_Pt_forget_1 ?_
  refine mx_putI d_Pt_forget_2 fl_Pt_17 (by assumption) ?_
  exact mx_vret d_Pt_forget_5 rfl (mx_rv_of rfl)
theorem mx_keepA {a : Nat} {w : Int32} : mx_up I a 2 w a 1 = I a 1 := by simp [mx_up]
/-- where the ring goes on -/
def vs_nx (z : Nat) : Nat := if z + 1 ≥ 12 then 0 else z + 1
def vs_mn (A : Nat) : Nat := if A ≥ 12 then 12 else A + 1
def vs_keep (I : mx_I) (pt s z A : Nat) : mx_I := mx_up (mx_up (vs_stT I (pt + 2 + 15 * (z)) s) pt 2 (nI (vs_nx z))) pt 1 (nI (vs_mn A))
theorem c_keep (hPt : pt_ok S P pt) (hSt : st_ok S P s) {la : Nat} (hla : P s 2 = some la) (h1 : I pt 2 = nI z) (hz : z < 12) (h2 : I pt 1 = nI A) (hA : A ≤ 12) : mx_C l E M_Pt_keep 4 0 0 [.ref (pt), .ref (s)] (t, S, I, P, J) (mx_rv (t, S, vs_keep I pt s z A, mx_upP P (pt + 2 + 15 * z) 2 (some la), J)) := by
  obtain ⟨hq0, hq1, hq2, hq3⟩ := id hPt
  have hst := (hq3 z hz).2
  have hst0 := hst.1
  refine mx_C_of (ls0 := [some (.ref (pt)), some (.ref (s)), none]) (by decide +kernel) rfl rfl (Nat.le_of_ble_eq_true rfl) rfl ?_
  refine mx_al0 d_Pt_keep_0 ?_
  refine mx_al0 d_Pt_keep_1 ?_
  refine mx_getI d_Pt_keep_2 fl_Pt_21 (by assumption) ?_
  refine mx_ti (y := nI (z)) (h1) ?_
  refine mx_cV1r d_Pt_keep_5 (c_placeAt hPt (i := z) (by omega)) ok_Pt_placeAt ml_Pt_27 (by assumption) ⟨rfl, rfl⟩ (by decide) (Nat.le_of_ble_eq_true rfl) ?_
  refine mx_as2 d_Pt_keep_8 ?_
  refine mx_al2 d_Pt_keep_9 ?_
  refine mx_ifnull d_Pt_keep_10 ?_
  refine mx_al2 d_Pt_keep_13 ?_
  refine mx_al1 d_Pt_keep_14 ?_
  refine mx_cV1v d_Pt_keep_15 (c_St_take (by assumption) (by assumption) (la := la) (by assumption)) ok_St_take ml_Pt_31 (by assumption) ⟨rfl, rfl⟩ (by decide) (Nat.le_of_ble_eq_true rfl) ?_
  refine mx_al0 d_Pt_keep_18 ?_
  refine mx_al0 d_Pt_keep_19 ?_
  refine mx_getI d_Pt_keep_20 fl_Pt_21 (by assumption) ?_
  refine mx_ti (y := nI (z)) (by rw [vs_stT_o (by omega)]; exact h1) ?_
  refine mx_in_1 d_Pt_keep_23 ?_
  refine mx_iaddN d_Pt_keep_24 ?_
  refine mx_bip 12 d_Pt_keep_25 (by decide) ?_
  refine mx_icN_ge 39 d_Pt_keep_27 (by decide) (by omega) (by omega) (fun c_27 => ?_) (fun c_27 => ?_)
  · skip
    have hn : vs_nx z = 0 := if_pos c_27
    refine mx_in_0 d_Pt_keep_39 ?_
    refine mx_putI d_Pt_keep_40 fl_Pt_21 (by assumption) ?_
    refine mx_al0 d_Pt_keep_43 ?_
    refine mx_al0 d_Pt_keep_44 ?_
    refine mx_getI d_Pt_keep_45 fl_Pt_17 (by assumption) ?_
    refine mx_ti (y := nI (A)) (by rw [mx_keepA, vs_stT_o (by omega)]; exact h2) ?_
    refine mx_bip 12 d_Pt_keep_48 (by decide) ?_
    refine mx_icN_ge 62 d_Pt_keep_50 (by decide) (by omega) (by omega) (fun c_50 => ?_) (fun c_50 => ?_)
    · skip
      have hm : vs_mn A = 12 := if_pos c_50
      refine mx_bip 12 d_Pt_keep_62 (by decide) ?_
      refine mx_putI d_Pt_keep_64 fl_Pt_17 (by assumption) ?_
      exact mx_vret d_Pt_keep_67 rfl (mx_rv_of (by rw [vs_keep, hn, hm]))
    · skip
      have hm : vs_mn A = A + 1 := if_neg (by omega)
      refine mx_al0 d_Pt_keep_53 ?_
      refine mx_getI d_Pt_keep_54 fl_Pt_17 (by assumption) ?_
      refine mx_ti (y := nI (A)) (by rw [mx_keepA, vs_stT_o (by omega)]; exact h2) ?_
      refine mx_in_1 d_Pt_keep_57 ?_
      refine mx_iaddN d_Pt_keep_58 ?_
      refine mx_goto 64 d_Pt_keep_59 (by decide) ?_
      refine mx_putI d_Pt_keep_64 fl_Pt_17 (by assumption) ?_
      exact mx_vret d_Pt_keep_67 rfl (mx_rv_of (by rw [vs_keep, hn, hm]))
  · skip
    have hn : vs_nx z = z + 1 := if_neg (by omega)
    refine mx_al0 d_Pt_keep_30 ?_
    refine mx_getI d_Pt_keep_31 fl_Pt_21 (by assumption) ?_
    refine mx_ti (y := nI (z)) (by rw [vs_stT_o (by omega)]; exact h1) ?_
    refine mx_in_1 d_Pt_keep_34 ?_
    refine mx_iaddN d_Pt_keep_35 ?_
    refine mx_goto 40 d_Pt_keep_36 (by decide) ?_
    refine mx_putI d_Pt_keep_40 fl_Pt_21 (by assumption) ?_
    refine mx_al0 d_Pt_keep_43 ?_
    refine mx_al0 d_Pt_keep_44 ?_
    refine mx_getI d_Pt_keep_45 fl_Pt_17 (by assumption) ?_
    refine mx_ti (y := nI (A)) (by rw [mx_keepA, vs_stT_o (by omega)]; exact h2) ?_
    refine mx_bip 12 d_Pt_keep_48 (by decide) ?_
    refine mx_icN_ge 62 d_Pt_keep_50 (by decide) (by omega) (by omega) (fun c_50 => ?_) (fun c_50 => ?_)
    · skip
      have hm : vs_mn A = 12 := if_pos c_50
      refine mx_bip 12 d_Pt_keep_62 (by decide) ?_
      refine mx_putI d_Pt_keep_64 fl_Pt_17 (by assumption) ?_
      exact mx_vret d_Pt_keep_67 rfl (mx_rv_of (by rw [vs_keep, hn, hm]))
    · skip
      have hm : vs_mn A = A + 1 := if_neg (by omega)
      refine mx_al0 d_Pt_keep_53 ?_
      refine mx_getI d_Pt_keep_54 fl_Pt_17 (by assumption) ?_
      refine mx_ti (y := nI (A)) (by rw [mx_keepA, vs_stT_o (by omega)]; exact h2) ?_
      refine mx_in_1 d_Pt_keep_57 ?_
      refine mx_iaddN d_Pt_keep_58 ?_
      refine mx_goto 64 d_Pt_keep_59 (by decide) ?_
      refine mx_putI d_Pt_keep_64 fl_Pt_17 (by assumption) ?_
      exact mx_vret d_Pt_keep_67 rfl (mx_rv_of (by rw [vs_keep, hn, hm]))
def vs_pv (z : Nat) : Nat := if z ≤ 0 then 11 else z - 1
def vs_give (I : mx_I) (pt s z A : Nat) : mx_I := vs_stT (mx_up (mx_up I pt 2 (nI (vs_pv z))) pt 1 (nI (A - 1))) s (pt + 2 + 15 * vs_pv z)
theorem vs_pv_lt (hz : z < 12) : vs_pv z < 12 := by unfold vs_pv; split <;> omega
theorem vs_zle {z : Nat} (h : nI z ≤ 0) (hz : z < 12) : z ≤ 0 := (nI_leI (b := 0) (by omega) (by omega)).mp h
theorem vs_nzle {z : Nat} (h : ¬ nI z ≤ 0) : ¬ z ≤ 0 := fun e => h (by obtain rfl : z = 0 := (by omega); decide)
theorem c_give0 (hPt : pt_ok S P pt) (h2 : I pt 1 = nI 0) : mx_C l E M_Pt_giveBack 0 0 0 [.ref (pt), .ref (s)] (t, S, I, P, J) (mx_ri (nI 0) (t, S, I, P, J)) := by
  obtain ⟨hq0, hq1, hq2, hq3⟩ := id hPt
  refine mx_C_of (ls0 := [some (.ref (pt)), some (.ref (s)), none]) (by decide +kernel) rfl rfl (Nat.le_of_ble_eq_true rfl) rfl ?_
  refine mx_al0 d_Pt_giveBack_0 ?_
  refine mx_getI d_Pt_giveBack_1 fl_Pt_17 (by assumption) ?_
  refine mx_ti (y := nI (0)) (h2) ?_
  refine mx_if_ne 9 d_Pt_giveBack_4 (by decide) (fun c_4 => absurd (by decide) c_4) (fun c_4 => ?_)
  refine mx_in_0 d_Pt_giveBack_7 ?_
  exact mx_zret d_Pt_giveBack_8 rfl (by first | exact Or.inl rfl | exact Or.inr rfl) (mx_ri_of rfl)
theorem c_give1 (hPt : pt_ok S P pt) (hSt : st_ok S P s) {la : Nat} (h1 : I pt 2 = nI z) (hz : z < 12) (h2 : I pt 1 = nI A) (h0 : 0 < A) (hA : A ≤ 12) (hz0 : 0 < z) (hla : P (pt + 2 + 15 * (z - 1)) 2 = some la) : mx_C l E M_Pt_giveBack 4 0 0 [.ref (pt), .ref (s)] (t, S, I, P, J) (mx_ri (nI 1) (t, S, vs_stT (mx_up (mx_up I pt 2 (nI (z - 1))) pt 1 (nI (A - 1))) s (pt + 2 + 15 * (z - 1)), mx_upP P s 2 (some la), J)) := by
  obtain ⟨hq0, hq1, hq2, hq3⟩ := id hPt
  have hst := (hq3 (z - 1) (by omega)).2
  have hst0 := hst.1
  have hs0 := hSt.1
  refine mx_C_of (ls0 := [some (.ref (pt)), some (.ref (s)), none]) (by decide +kernel) rfl rfl (Nat.le_of_ble_eq_true rfl) rfl ?_
  refine mx_al0 d_Pt_giveBack_0 ?_
  refine mx_getI d_Pt_giveBack_1 fl_Pt_17 (by assumption) ?_
  refine mx_ti (y := nI (A)) (h2) ?_
  refine mx_if_ne 9 d_Pt_giveBack_4 (by decide) (fun c_4 => ?_) (fun c_4 => absurd c_4 (nI_ne0 (by omega) (by omega)))
  refine mx_al0 d_Pt_giveBack_9 ?_
  refine mx_al0 d_Pt_giveBack_10 ?_
  refine mx_getI d_Pt_giveBack_11 fl_Pt_21 (by assumption) ?_
  refine mx_ti (y := nI (z)) (h1) ?_
  refine mx_if_le 26 d_Pt_giveBack_14 (by decide) (fun c_14 => absurd c_14 (fun e => absurd (vs_zle e hz) (by omega))) (fun c_14 => ?_)
  refine mx_al0 d_Pt_giveBack_17 ?_
  refine mx_getI d_Pt_giveBack_18 fl_Pt_21 (by assumption) ?_
  refine mx_ti (y := nI (z)) (h1) ?_
  refine mx_in_1 d_Pt_giveBack_21 ?_
  refine mx_isubN d_Pt_giveBack_22 (by omega) ?_
  refine mx_goto 28 d_Pt_giveBack_23 (by decide) ?_
  refine mx_putI d_Pt_giveBack_28 fl_Pt_21 (by assumption) ?_
  refine mx_al0 d_Pt_giveBack_31 ?_
  refine mx_dup d_Pt_giveBack_32 rfl ?_
  refine mx_getI d_Pt_giveBack_33 fl_Pt_17 (by assumption) ?_
  refine mx_ti (y := nI (A)) (by rw [mx_keepA]; exact h2) ?_
  refine mx_in_1 d_Pt_giveBack_36 ?_
  refine mx_isubN d_Pt_giveBack_37 (by omega) ?_
  refine mx_putI d_Pt_giveBack_38 fl_Pt_17 (by assumption) ?_
  refine mx_al0 d_Pt_giveBack_41 ?_
  refine mx_al0 d_Pt_giveBack_42 ?_
  refine mx_getI d_Pt_giveBack_43 fl_Pt_21 (by assumption) ?_
  refine mx_ti (y := nI (z - 1)) (by simp [mx_up]) ?_
  refine mx_cV1r d_Pt_giveBack_46 (c_placeAt hPt (i := z - 1) (by omega)) ok_Pt_placeAt ml_Pt_27 (by assumption) ⟨rfl, rfl⟩ (by decide) (Nat.le_of_ble_eq_true rfl) ?_
  refine mx_as2 d_Pt_giveBack_49 ?_
  refine mx_al2 d_Pt_giveBack_50 ?_
  refine mx_ifnull d_Pt_giveBack_51 ?_
  refine mx_al1 d_Pt_giveBack_54 ?_
  refine mx_al2 d_Pt_giveBack_55 ?_
  refine mx_cV1v d_Pt_giveBack_56 (c_St_take (by assumption) (by assumption) (la := la) (by assumption)) ok_St_take ml_Pt_31 (by assumption) ⟨rfl, rfl⟩ (by decide) (Nat.le_of_ble_eq_true rfl) ?_
  refine mx_in_1 d_Pt_giveBack_59 ?_
  exact mx_zret d_Pt_giveBack_60 rfl (by first | exact Or.inl rfl | exact Or.inr rfl) (mx_ri_of2 rfl rfl)
theorem c_give2 (hPt : pt_ok S P pt) (hSt : st_ok S P s) {la : Nat} (h1 : I pt 2 = nI z) (hz : z < 12) (h2 : I pt 1 = nI A) (h0 : 0 < A) (hA : A ≤ 12) (hz0 : z = 0) (hla : P (pt + 2 + 15 * (11)) 2 = some la) : mx_C l E M_Pt_giveBack 4 0 0 [.ref (pt), .ref (s)] (t, S, I, P, J) (mx_ri (nI 1) (t, S, vs_stT (mx_up (mx_up I pt 2 (nI (11))) pt 1 (nI (A - 1))) s (pt + 2 + 15 * (11)), mx_upP P s 2 (some la), J)) := by
  obtain ⟨hq0, hq1, hq2, hq3⟩ := id hPt
  have hst := (hq3 (11) (by omega)).2
  have hst0 := hst.1
  have hs0 := hSt.1
  refine mx_C_of (ls0 := [some (.ref (pt)), some (.ref (s)), none]) (by decide +kernel) rfl rfl (Nat.le_of_ble_eq_true rfl) rfl ?_
  refine mx_al0 d_Pt_giveBack_0 ?_
  refine mx_getI d_Pt_giveBack_1 fl_Pt_17 (by assumption) ?_
  refine mx_ti (y := nI (A)) (h2) ?_
  refine mx_if_ne 9 d_Pt_giveBack_4 (by decide) (fun c_4 => ?_) (fun c_4 => absurd c_4 (nI_ne0 (by omega) (by omega)))
  refine mx_al0 d_Pt_giveBack_9 ?_
  refine mx_al0 d_Pt_giveBack_10 ?_
  refine mx_getI d_Pt_giveBack_11 fl_Pt_21 (by assumption) ?_
  refine mx_ti (y := nI (z)) (h1) ?_
  refine mx_if_le 26 d_Pt_giveBack_14 (by decide) (fun c_14 => ?_) (fun c_14 => absurd (by rw [hz0]; decide) c_14)
  refine mx_bip 11 d_Pt_giveBack_26 (by decide) ?_
  refine mx_putI d_Pt_giveBack_28 fl_Pt_21 (by assumption) ?_
  refine mx_al0 d_Pt_giveBack_31 ?_
  refine mx_dup d_Pt_giveBack_32 rfl ?_
  refine mx_getI d_Pt_giveBack_33 fl_Pt_17 (by assumption) ?_
  refine mx_ti (y := nI (A)) (by rw [mx_keepA]; exact h2) ?_
  refine mx_in_1 d_Pt_giveBack_36 ?_
  refine mx_isubN d_Pt_giveBack_37 (by omega) ?_
  refine mx_putI d_Pt_giveBack_38 fl_Pt_17 (by assumption) ?_
  refine mx_al0 d_Pt_giveBack_41 ?_
  refine mx_al0 d_Pt_giveBack_42 ?_
  refine mx_getI d_Pt_giveBack_43 fl_Pt_21 (by assumption) ?_
  refine mx_ti (y := nI (11)) (by simp [mx_up]) ?_
  refine mx_cV1r d_Pt_giveBack_46 (c_placeAt hPt (i := 11) (by omega)) ok_Pt_placeAt ml_Pt_27 (by assumption) ⟨rfl, rfl⟩ (by decide) (Nat.le_of_ble_eq_true rfl) ?_
  refine mx_as2 d_Pt_giveBack_49 ?_
  refine mx_al2 d_Pt_giveBack_50 ?_
  refine mx_ifnull d_Pt_giveBack_51 ?_
  refine mx_al1 d_Pt_giveBack_54 ?_
  refine mx_al2 d_Pt_giveBack_55 ?_
  refine mx_cV1v d_Pt_giveBack_56 (c_St_take (by assumption) (by assumption) (la := la) (by assumption)) ok_St_take ml_Pt_31 (by assumption) ⟨rfl, rfl⟩ (by decide) (Nat.le_of_ble_eq_true rfl) ?_
  refine mx_in_1 d_Pt_giveBack_59 ?_
  exact mx_zret d_Pt_giveBack_60 rfl (by first | exact Or.inl rfl | exact Or.inr rfl) (mx_ri_of2 rfl rfl)
variable {x : Nat} {m : Nat → Int32}
theorem c_Vh_image (hV : vh_ok S P x) (h0 : st_ok S P (x + 53)) (h1 : st_ok S P (x + 23)) {la : Nat} (hla : P (x + 23) 2 = some la) : mx_C l E M_Vh_image 4 0 0 [.ref (x)] (t, S, I, P, J) (mx_rv (t, S, mx_up (vs_stT I (x + 53) (x + 23)) x 6 (nI 1), mx_upP P (x + 53) 2 (some la), J)) := by
  obtain ⟨hV0, hVp0, hVp1, hVp2, hVp3, hVp4, hVp5, hVp7, hVp8, hVp9, hVp10, hVp11, hVp12, hVs15, hVs16, hVs68⟩ := id hV
  have hs0 := h0.1
  refine mx_C_of (ls0 := [some (.ref (x))]) (by decide +kernel) rfl rfl (Nat.le_of_ble_eq_true rfl) rfl ?_
  refine mx_al0 d_Vh_image_0 ?_
  refine mx_getR d_Vh_image_1 fl_Vh_58 (by assumption) (by assumption) ?_
  refine mx_al0 d_Vh_image_4 ?_
  refine mx_getR d_Vh_image_5 fl_Vh_51 (by assumption) (by assumption) ?_
  refine mx_cV1v d_Vh_image_8 (c_St_take (by assumption) (by assumption) (la := la) (by assumption)) ok_St_take ml_Vh_133 (by assumption) ⟨rfl, rfl⟩ (by decide) (Nat.le_of_ble_eq_true rfl) ?_
  refine mx_al0 d_Vh_image_11 ?_
  refine mx_in_1 d_Vh_image_12 ?_
  refine mx_putZ d_Vh_image_13 fl_Vh_9 (by assumption) (by first | exact Or.inl rfl | exact Or.inr rfl) ?_
  exact mx_vret d_Vh_image_16 rfl (mx_rv_of rfl)
theorem c_Vh_back0 (hV : vh_ok S P x) (hi : I x 6 = 0) : mx_C l E M_Vh_back 0 0 0 [.ref (x)] (t, S, I, P, J) (mx_ri (nI 0) (t, S, I, P, J)) := by
  obtain ⟨hV0, hVp0, hVp1, hVp2, hVp3, hVp4, hVp5, hVp7, hVp8, hVp9, hVp10, hVp11, hVp12, hVs15, hVs16, hVs68⟩ := id hV
  refine mx_C_of (ls0 := [some (.ref (x))]) (by decide +kernel) rfl rfl (Nat.le_of_ble_eq_true rfl) rfl ?_
  refine mx_al0 d_Vh_back_0 ?_
  refine mx_getI d_Vh_back_1 fl_Vh_9 (by assumption) ?_
  refine mx_ti (y := nI (0)) (hi.trans (by rfl)) ?_
  refine mx_if_ne 9 d_Vh_back_4 (by decide) (fun c_4 => absurd (by decide) c_4) (fun c_4 => ?_)
  refine mx_in_0 d_Vh_back_7 ?_
  exact mx_zret d_Vh_back_8 rfl (by first | exact Or.inl rfl | exact Or.inr rfl) (mx_ri_of rfl)
theorem c_Vh_back1 (hV : vh_ok S P x) (h0 : st_ok S P (x + 53)) (h1 : st_ok S P (x + 23)) (hPt : pt_ok S P (x + 68)) {la : Nat} (hla : P (x + 53) 2 = some la) (hi : I x 6 = 1) : mx_C l E M_Vh_back 4 0 0 [.ref (x)] (t, S, I, P, J) (mx_ri (nI 1) (t, S, mx_up (vs_stT I (x + 23) (x + 53)) (x + 68) 1 (nI 0), mx_upP P (x + 23) 2 (some la), J)) := by
  obtain ⟨hV0, hVp0, hVp1, hVp2, hVp3, hVp4, hVp5, hVp7, hVp8, hVp9, hVp10, hVp11, hVp12, hVs15, hVs16, hVs68⟩ := id hV
  have hs1 := h1.1
  have hPu : pt_ok S (mx_upP P (x + 23) 2 (some la)) (x + 68) := pt_ok_law hPt (by omega)
  have hVu : mx_upP P (x + 23) 2 (some la) x 7 = some (x + 68) := by rw [mx_upP_ne (by omega)]; exact hVp7
  refine mx_C_of (ls0 := [some (.ref (x))]) (by decide +kernel) rfl rfl (Nat.le_of_ble_eq_true rfl) rfl ?_
  refine mx_al0 d_Vh_back_0 ?_
  refine mx_getI d_Vh_back_1 fl_Vh_9 (by assumption) ?_
  refine mx_ti (y := nI (1)) (hi.trans (by rfl)) ?_
  refine mx_if_ne 9 d_Vh_back_4 (by decide) (fun c_4 => ?_) (fun c_4 => absurd c_4 (by decide))
  refine mx_al0 d_Vh_back_9 ?_
  refine mx_getR d_Vh_back_10 fl_Vh_51 (by assumption) (by assumption) ?_
  refine mx_al0 d_Vh_back_13 ?_
  refine mx_getR d_Vh_back_14 fl_Vh_58 (by assumption) (by assumption) ?_
  refine mx_cV1v d_Vh_back_17 (c_St_take (by assumption) (by assumption) (la := la) (by assumption)) ok_St_take ml_Vh_133 (by assumption) ⟨rfl, rfl⟩ (by decide) (Nat.le_of_ble_eq_true rfl) ?_
  refine mx_al0 d_Vh_back_20 ?_
  refine mx_getR d_Vh_back_21 fl_Vh_64 (by assumption) (by assumption) ?_
  refine mx_cV0v d_Vh_back_24 (c_forget hPu) ok_Pt_forget ml_Vh_137 (by assumption) ⟨rfl, rfl⟩ (by decide) (Nat.le_of_ble_eq_true rfl) ?_
  refine mx_in_1 d_Vh_back_27 ?_
  exact mx_zret d_Vh_back_28 rfl (by first | exact Or.inl rfl | exact Or.inr rfl) (mx_ri_of2 rfl rfl)
end P24
