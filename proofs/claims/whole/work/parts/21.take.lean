/-! TAKING OVER -/
section M21
variable {l : Launch} {E : mx_Env} {t : Nat} {S : mx_S} {I : mx_I} {P : mx_P} {J : mx_G} {a b L pe pf lo lf s r : Nat}
theorem c_copy (hs0 : S a = some (1, L)) (hs1 : S b = some (1, L)) (hL : L < 65536) : mx_C l E M_Vh_copy 1 0 0 [.ref (a), .ref (b)] (t, S, I, P, J) (mx_rv (t, S, vs_cp I a b L, P, J)) := by
  refine mx_C_of (ls0 := [some (.ref (a)), some (.ref (b))]) (by decide +kernel) rfl rfl (Nat.le_of_ble_eq_true rfl) rfl ?_
  refine mx_al0 d_Vh_copy_0 ?_
  refine mx_ifnull d_Vh_copy_1 ?_
  refine mx_al1 d_Vh_copy_4 ?_
  refine mx_ifnull d_Vh_copy_5 ?_
  refine mx_al0 d_Vh_copy_8 ?_
  refine mx_in_0 d_Vh_copy_9 ?_
  refine mx_al1 d_Vh_copy_10 ?_
  refine mx_in_0 d_Vh_copy_11 ?_
  refine mx_al0 d_Vh_copy_12 ?_
  refine mx_alen d_Vh_copy_13 (by assumption) ?_
  refine mx_al1 d_Vh_copy_14 ?_
  refine mx_alen d_Vh_copy_15 (by assumption) ?_
  refine mx_mminN d_Vh_copy_16 ml_Vh_488 (by decide) (Nat.le_of_ble_eq_true rfl) (by omega) (by omega) ?_
  rw [Nat.min_self]
  refine mx_copyI rfl d_Vh_copy_19 hs0 hs1 (by omega) (by decide) (Nat.le_of_ble_eq_true rfl) ?_
  exact mx_vret d_Vh_copy_22 rfl (mx_rv_of rfl)
def vs_peT (I : mx_I) (pe pf : Nat) : mx_I := (vs_cp (vs_cp (vs_cp (vs_cp (vs_cp (vs_cp (vs_cp (mx_up (mx_up I (pe) 0 ((I (pf) 0))) (pe) 1 (((mx_up I (pe) 0 ((I (pf) 0))) (pf) 1))) (pf + 1) (pe + 1) 8) (pf + 2) (pe + 2) 8) (pf + 3) (pe + 3) 8) (pf + 4) (pe + 4) 8) (pf + 5) (pe + 5) 8) (pf + 6) (pe + 6) 64) (pf + 7) (pe + 7) 64)
theorem c_Pe_take (h0 : pe_ok S P pe) (h1 : pe_ok S P pf) : mx_C l E M_Pe_take 2 0 0 [.ref (pe), .ref (pf)] (t, S, I, P, J) (mx_rv (t, S, vs_peT I pe pf, P, J)) := by
  obtain ⟨hp0, hp1, hp2, hp3, hp4, hp5, hp6, hp7, hp8, hp9, hp10, hp11, hp12, hp13, hp14⟩ := id h0
  obtain ⟨hq0, hq1, hq2, hq3, hq4, hq5, hq6, hq7, hq8, hq9, hq10, hq11, hq12, hq13, hq14⟩ := id h1
  refine mx_C_of (ls0 := [some (.ref (pe)), some (.ref (pf))]) (by decide +kernel) rfl rfl (Nat.le_of_ble_eq_true rfl) rfl ?_
  refine mx_al0 d_Pe_take_0 ?_
  refine mx_al1 d_Pe_take_1 ?_
  refine mx_getI d_Pe_take_2 fl_Pe_9 (by assumption) ?_
  refine mx_putI d_Pe_take_5 fl_Pe_9 (by assumption) ?_
  refine mx_al0 d_Pe_take_8 ?_
  refine mx_al1 d_Pe_take_9 ?_
  refine mx_getI d_Pe_take_10 fl_Pe_15 (by assumption) ?_
  refine mx_putI d_Pe_take_13 fl_Pe_15 (by assumption) ?_
  refine mx_al1 d_Pe_take_16 ?_
  refine mx_getR d_Pe_take_17 fl_Pe_18 (by assumption) (by assumption) ?_
  refine mx_al0 d_Pe_take_20 ?_
  refine mx_getR d_Pe_take_21 fl_Pe_18 (by assumption) (by assumption) ?_
  refine mx_cSN2v d_Pe_take_24 (c_copy (L := 8) (by assumption) (by assumption) (by omega)) ok_Vh_copy ml_Pe_40 (by decide) (Nat.le_of_ble_eq_true rfl) ?_
  refine mx_al1 d_Pe_take_27 ?_
  refine mx_getR d_Pe_take_28 fl_Pe_22 (by assumption) (by assumption) ?_
  refine mx_al0 d_Pe_take_31 ?_
  refine mx_getR d_Pe_take_32 fl_Pe_22 (by assumption) (by assumption) ?_
  refine mx_cSN2v d_Pe_take_35 (c_copy (L := 8) (by assumption) (by assumption) (by omega)) ok_Vh_copy ml_Pe_40 (by decide) (Nat.le_of_ble_eq_true rfl) ?_
  refine mx_al1 d_Pe_take_38 ?_
  refine mx_getR d_Pe_take_39 fl_Pe_25 (by assumption) (by assumption) ?_
  refine mx_al0 d_Pe_take_42 ?_
  refine mx_getR d_Pe_take_43 fl_Pe_25 (by assumption) (by assumption) ?_
  refine mx_cSN2v d_Pe_take_46 (c_copy (L := 8) (by assumption) (by assumption) (by omega)) ok_Vh_copy ml_Pe_40 (by decide) (Nat.le_of_ble_eq_true rfl) ?_
  refine mx_al1 d_Pe_take_49 ?_
  refine mx_getR d_Pe_take_50 fl_Pe_28 (by assumption) (by assumption) ?_
  refine mx_al0 d_Pe_take_53 ?_
  refine mx_getR d_Pe_take_54 fl_Pe_28 (by assumption) (by assumption) ?_
  refine mx_cSN2v d_Pe_take_57 (c_copy (L := 8) (by assumption) (by assumption) (by omega)) ok_Vh_copy ml_Pe_40 (by decide) (Nat.le_of_ble_eq_true rfl) ?_
  refine mx_al1 d_Pe_take_60 ?_
  refine mx_getR d_Pe_take_61 fl_Pe_31 (by assumption) (by assumption) ?_
  refine mx_al0 d_Pe_take_64 ?_
  refine mx_getR d_Pe_take_65 fl_Pe_31 (by assumption) (by assumption) ?_
  refine mx_cSN2v d_Pe_take_68 (c_copy (L := 8) (by assumption) (by assumption) (by omega)) ok_Vh_copy ml_Pe_40 (by decide) (Nat.le_of_ble_eq_true rfl) ?_
  refine mx_al1 d_Pe_take_71 ?_
  refine mx_getR d_Pe_take_72 fl_Pe_34 (by assumption) (by assumption) ?_
  refine mx_al0 d_Pe_take_75 ?_
  refine mx_getR d_Pe_take_76 fl_Pe_34 (by assumption) (by assumption) ?_
  refine mx_cSN2v d_Pe_take_79 (c_copy (L := 64) (by assumption) (by assumption) (by omega)) ok_Vh_copy ml_Pe_40 (by decide) (Nat.le_of_ble_eq_true rfl) ?_
  refine mx_al1 d_Pe_take_82 ?_
  refine mx_getR d_Pe_take_83 fl_Pe_37 (by assumption) (by assumption) ?_
  refine mx_al0 d_Pe_take_86 ?_
  refine mx_getR d_Pe_take_87 fl_Pe_37 (by assumption) (by assumption) ?_
  refine mx_cSN2v d_Pe_take_90 (c_copy (L := 64) (by assumption) (by assumption) (by omega)) ok_Vh_copy ml_Pe_40 (by decide) (Nat.le_of_ble_eq_true rfl) ?_
  exact mx_vret d_Pe_take_93 rfl (mx_rv_of rfl)
def vs_loT (I : mx_I) (lo lf : Nat) : mx_I := (vs_cp (mx_up (mx_up I (lo) 0 ((I (lf) 0))) (lo) 1 (((mx_up I (lo) 0 ((I (lf) 0))) (lf) 1))) (lf + 1) (lo + 1) 360)
theorem c_Lo_take (h0 : lo_ok S P lo) (h1 : lo_ok S P lf) : mx_C l E M_Lo_take 2 0 0 [.ref (lo), .ref (lf)] (t, S, I, P, J) (mx_rv (t, S, vs_loT I lo lf, P, J)) := by
  obtain ⟨hp0, hp1, hp2⟩ := id h0
  obtain ⟨hq0, hq1, hq2⟩ := id h1
  refine mx_C_of (ls0 := [some (.ref (lo)), some (.ref (lf))]) (by decide +kernel) rfl rfl (Nat.le_of_ble_eq_true rfl) rfl ?_
  refine mx_al0 d_Lo_take_0 ?_
  refine mx_al1 d_Lo_take_1 ?_
  refine mx_getI d_Lo_take_2 fl_Lo_9 (by assumption) ?_
  refine mx_putI d_Lo_take_5 fl_Lo_9 (by assumption) ?_
  refine mx_al0 d_Lo_take_8 ?_
  refine mx_al1 d_Lo_take_9 ?_
  refine mx_getI d_Lo_take_10 fl_Lo_15 (by assumption) ?_
  refine mx_putI d_Lo_take_13 fl_Lo_15 (by assumption) ?_
  refine mx_al1 d_Lo_take_16 ?_
  refine mx_getR d_Lo_take_17 fl_Lo_18 (by assumption) (by assumption) ?_
  refine mx_al0 d_Lo_take_20 ?_
  refine mx_getR d_Lo_take_21 fl_Lo_18 (by assumption) (by assumption) ?_
  refine mx_cSN2v d_Lo_take_24 (c_copy (L := 360) (by assumption) (by assumption) (by omega)) ok_Vh_copy ml_Lo_22 (by decide) (Nat.le_of_ble_eq_true rfl) ?_
  exact mx_vret d_Lo_take_27 rfl (mx_rv_of rfl)
def vs_stT (I : mx_I) (s r : Nat) : mx_I := (vs_cp (vs_cp (vs_cp (mx_up (mx_up (mx_up (mx_up (mx_up (mx_up (vs_loT (vs_peT I (s + 1) (r + 1)) (s + 9) (r + 9)) (s) 3 (((vs_loT (vs_peT I (s + 1) (r + 1)) (s + 9) (r + 9)) (r) 3))) (s) 4 (((mx_up (vs_loT (vs_peT I (s + 1) (r + 1)) (s + 9) (r + 9)) (s) 3 (((vs_loT (vs_peT I (s + 1) (r + 1)) (s + 9) (r + 9)) (r) 3))) (r) 4))) (s) 5 (((mx_up (mx_up (vs_loT (vs_peT I (s + 1) (r + 1)) (s + 9) (r + 9)) (s) 3 (((vs_loT (vs_peT I (s + 1) (r + 1)) (s + 9) (r + 9)) (r) 3))) (s) 4 (((mx_up (vs_loT (vs_peT I (s + 1) (r + 1)) (s + 9) (r + 9)) (s) 3 (((vs_loT (vs_peT I (s + 1) (r + 1)) (s + 9) (r + 9)) (r) 3))) (r) 4))) (r) 5))) (s) 6 (((mx_up (mx_up (mx_up (vs_loT (vs_peT I (s + 1) (r + 1)) (s + 9) (r + 9)) (s) 3 (((vs_loT (vs_peT I (s + 1) (r + 1)) (s + 9) (r + 9)) (r) 3))) (s) 4 (((mx_up (vs_loT (vs_peT I (s + 1) (r + 1)) (s + 9) (r + 9)) (s) 3 (((vs_loT (vs_peT I (s + 1) (r + 1)) (s + 9) (r + 9)) (r) 3))) (r) 4))) (s) 5 (((mx_up (mx_up (vs_loT (vs_peT I (s + 1) (r + 1)) (s + 9) (r + 9)) (s) 3 (((vs_loT (vs_peT I (s + 1) (r + 1)) (s + 9) (r + 9)) (r) 3))) (s) 4 (((mx_up (vs_loT (vs_peT I (s + 1) (r + 1)) (s + 9) (r + 9)) (s) 3 (((vs_loT (vs_peT I (s + 1) (r + 1)) (s + 9) (r + 9)) (r) 3))) (r) 4))) (r) 5))) (r) 6))) (s) 7 (((mx_up (mx_up (mx_up (mx_up (vs_loT (vs_peT I (s + 1) (r + 1)) (s + 9) (r + 9)) (s) 3 (((vs_loT (vs_peT I (s + 1) (r + 1)) (s + 9) (r + 9)) (r) 3))) (s) 4 (((mx_up (vs_loT (vs_peT I (s + 1) (r + 1)) (s + 9) (r + 9)) (s) 3 (((vs_loT (vs_peT I (s + 1) (r + 1)) (s + 9) (r + 9)) (r) 3))) (r) 4))) (s) 5 (((mx_up (mx_up (vs_loT (vs_peT I (s + 1) (r + 1)) (s + 9) (r + 9)) (s) 3 (((vs_loT (vs_peT I (s + 1) (r + 1)) (s + 9) (r + 9)) (r) 3))) (s) 4 (((mx_up (vs_loT (vs_peT I (s + 1) (r + 1)) (s + 9) (r + 9)) (s) 3 (((vs_loT (vs_peT I (s + 1) (r + 1)) (s + 9) (r + 9)) (r) 3))) (r) 4))) (r) 5))) (s) 6 (((mx_up (mx_up (mx_up (vs_loT (vs_peT I (s + 1) (r + 1)) (s + 9) (r + 9)) (s) 3 (((vs_loT (vs_peT I (s + 1) (r + 1)) (s + 9) (r + 9)) (r) 3))) (s) 4 (((mx_up (vs_loT (vs_peT I (s + 1) (r + 1)) (s + 9) (r + 9)) (s) 3 (((vs_loT (vs_peT I (s + 1) (r + 1)) (s + 9) (r + 9)) (r) 3))) (r) 4))) (s) 5 (((mx_up (mx_up (vs_loT (vs_peT I (s + 1) (r + 1)) (s + 9) (r + 9)) (s) 3 (((vs_loT (vs_peT I (s + 1) (r + 1)) (s + 9) (r + 9)) (r) 3))) (s) 4 (((mx_up (vs_loT (vs_peT I (s + 1) (r + 1)) (s + 9) (r + 9)) (s) 3 (((vs_loT (vs_peT I (s + 1) (r + 1)) (s + 9) (r + 9)) (r) 3))) (r) 4))) (r) 5))) (r) 6))) (r) 7))) (s) 8 (((mx_up (mx_up (mx_up (mx_up (mx_up (vs_loT (vs_peT I (s + 1) (r + 1)) (s + 9) (r + 9)) (s) 3 (((vs_loT (vs_peT I (s + 1) (r + 1)) (s + 9) (r + 9)) (r) 3))) (s) 4 (((mx_up (vs_loT (vs_peT I (s + 1) (r + 1)) (s + 9) (r + 9)) (s) 3 (((vs_loT (vs_peT I (s + 1) (r + 1)) (s + 9) (r + 9)) (r) 3))) (r) 4))) (s) 5 (((mx_up (mx_up (vs_loT (vs_peT I (s + 1) (r + 1)) (s + 9) (r + 9)) (s) 3 (((vs_loT (vs_peT I (s + 1) (r + 1)) (s + 9) (r + 9)) (r) 3))) (s) 4 (((mx_up (vs_loT (vs_peT I (s + 1) (r + 1)) (s + 9) (r + 9)) (s) 3 (((vs_loT (vs_peT I (s + 1) (r + 1)) (s + 9) (r + 9)) (r) 3))) (r) 4))) (r) 5))) (s) 6 (((mx_up (mx_up (mx_up (vs_loT (vs_peT I (s + 1) (r + 1)) (s + 9) (r + 9)) (s) 3 (((vs_loT (vs_peT I (s + 1) (r + 1)) (s + 9) (r + 9)) (r) 3))) (s) 4 (((mx_up (vs_loT (vs_peT I (s + 1) (r + 1)) (s + 9) (r + 9)) (s) 3 (((vs_loT (vs_peT I (s + 1) (r + 1)) (s + 9) (r + 9)) (r) 3))) (r) 4))) (s) 5 (((mx_up (mx_up (vs_loT (vs_peT I (s + 1) (r + 1)) (s + 9) (r + 9)) (s) 3 (((vs_loT (vs_peT I (s + 1) (r + 1)) (s + 9) (r + 9)) (r) 3))) (s) 4 (((mx_up (vs_loT (vs_peT I (s + 1) (r + 1)) (s + 9) (r + 9)) (s) 3 (((vs_loT (vs_peT I (s + 1) (r + 1)) (s + 9) (r + 9)) (r) 3))) (r) 4))) (r) 5))) (r) 6))) (s) 7 (((mx_up (mx_up (mx_up (mx_up (vs_loT (vs_peT I (s + 1) (r + 1)) (s + 9) (r + 9)) (s) 3 (((vs_loT (vs_peT I (s + 1) (r + 1)) (s + 9) (r + 9)) (r) 3))) (s) 4 (((mx_up (vs_loT (vs_peT I (s + 1) (r + 1)) (s + 9) (r + 9)) (s) 3 (((vs_loT (vs_peT I (s + 1) (r + 1)) (s + 9) (r + 9)) (r) 3))) (r) 4))) (s) 5 (((mx_up (mx_up (vs_loT (vs_peT I (s + 1) (r + 1)) (s + 9) (r + 9)) (s) 3 (((vs_loT (vs_peT I (s + 1) (r + 1)) (s + 9) (r + 9)) (r) 3))) (s) 4 (((mx_up (vs_loT (vs_peT I (s + 1) (r + 1)) (s + 9) (r + 9)) (s) 3 (((vs_loT (vs_peT I (s + 1) (r + 1)) (s + 9) (r + 9)) (r) 3))) (r) 4))) (r) 5))) (s) 6 (((mx_up (mx_up (mx_up (vs_loT (vs_peT I (s + 1) (r + 1)) (s + 9) (r + 9)) (s) 3 (((vs_loT (vs_peT I (s + 1) (r + 1)) (s + 9) (r + 9)) (r) 3))) (s) 4 (((mx_up (vs_loT (vs_peT I (s + 1) (r + 1)) (s + 9) (r + 9)) (s) 3 (((vs_loT (vs_peT I (s + 1) (r + 1)) (s + 9) (r + 9)) (r) 3))) (r) 4))) (s) 5 (((mx_up (mx_up (vs_loT (vs_peT I (s + 1) (r + 1)) (s + 9) (r + 9)) (s) 3 (((vs_loT (vs_peT I (s + 1) (r + 1)) (s + 9) (r + 9)) (r) 3))) (s) 4 (((mx_up (vs_loT (vs_peT I (s + 1) (r + 1)) (s + 9) (r + 9)) (s) 3 (((vs_loT (vs_peT I (s + 1) (r + 1)) (s + 9) (r + 9)) (r) 3))) (r) 4))) (r) 5))) (r) 6))) (r) 7))) (r) 8))) (r + 11) (s + 11) 8) (r + 12) (s + 12) 8) (r + 13) (s + 13) 64)
theorem c_St_take (h0 : st_ok S P s) (h1 : st_ok S P r) {la : Nat} (hla : P r 2 = some la) : mx_C l E M_St_take 3 0 0 [.ref (s), .ref (r)] (t, S, I, P, J) (mx_rv (t, S, vs_stT I s r, mx_upP P s 2 (some la), J)) := by
  obtain ⟨hp0, hp1, hp2, hp3, hp4, hp5, hp6, hp7, hp8, hp9, hp10, hppe, hplo⟩ := id h0
  obtain ⟨hq0, hq1, hq2, hq3, hq4, hq5, hq6, hq7, hq8, hq9, hq10, hqpe, hqlo⟩ := id h1
  have hp11 := hppe.1
  have hp12 := hplo.1
  have hq11 := hqpe.1
  have hq12 := hqlo.1
  have hu : ∀ a k, k ≠ 2 → mx_upP P s 2 (some la) a k = P a k := fun a k hk => by simp [mx_upP, hk]
  have hu_s10 := (hu s 10 (by decide)).trans hp3
  have hu_s11 := (hu s 11 (by decide)).trans hp4
  have hu_s12 := (hu s 12 (by decide)).trans hp5
  have hu_r10 := (hu r 10 (by decide)).trans hq3
  have hu_r11 := (hu r 11 (by decide)).trans hq4
  have hu_r12 := (hu r 12 (by decide)).trans hq5
  refine mx_C_of (ls0 := [some (.ref (s)), some (.ref (r))]) (by decide +kernel) rfl rfl (Nat.le_of_ble_eq_true rfl) rfl ?_
  refine mx_al0 d_St_take_0 ?_
  refine mx_getR d_St_take_1 fl_St_12 (by assumption) (by assumption) ?_
  refine mx_al1 d_St_take_4 ?_
  refine mx_getR d_St_take_5 fl_St_12 (by assumption) (by assumption) ?_
  refine mx_cV1v d_St_take_8 (c_Pe_take (by assumption) (by assumption)) ok_Pe_take ml_St_64 (by assumption) ⟨rfl, rfl⟩ (by decide) (Nat.le_of_ble_eq_true rfl) ?_
  refine mx_al0 d_St_take_11 ?_
  refine mx_getR d_St_take_12 fl_St_21 (by assumption) (by assumption) ?_
  refine mx_al1 d_St_take_15 ?_
  refine mx_getR d_St_take_16 fl_St_21 (by assumption) (by assumption) ?_
  refine mx_cV1v d_St_take_19 (c_Lo_take (by assumption) (by assumption)) ok_Lo_take ml_St_68 (by assumption) ⟨rfl, rfl⟩ (by decide) (Nat.le_of_ble_eq_true rfl) ?_
  refine mx_al0 d_St_take_22 ?_
  refine mx_al1 d_St_take_23 ?_
  refine mx_getR d_St_take_24 fl_St_60 (by assumption) (by assumption) ?_
  refine mx_putR d_St_take_27 fl_St_60 (by assumption) ?_
  refine mx_al0 d_St_take_30 ?_
  refine mx_al1 d_St_take_31 ?_
  refine mx_getI d_St_take_32 fl_St_25 (by assumption) ?_
  refine mx_putI d_St_take_35 fl_St_25 (by assumption) ?_
  refine mx_al0 d_St_take_38 ?_
  refine mx_al1 d_St_take_39 ?_
  refine mx_getI d_St_take_40 fl_St_29 (by assumption) ?_
  refine mx_putI d_St_take_43 fl_St_29 (by assumption) ?_
  refine mx_al0 d_St_take_46 ?_
  refine mx_al1 d_St_take_47 ?_
  refine mx_getI d_St_take_48 fl_St_32 (by assumption) ?_
  refine mx_putI d_St_take_51 fl_St_32 (by assumption) ?_
  refine mx_al0 d_St_take_54 ?_
  refine mx_al1 d_St_take_55 ?_
  refine mx_getI d_St_take_56 fl_St_35 (by assumption) ?_
  refine mx_putI d_St_take_59 fl_St_35 (by assumption) ?_
  refine mx_al0 d_St_take_62 ?_
  refine mx_al1 d_St_take_63 ?_
  refine mx_getI d_St_take_64 fl_St_38 (by assumption) ?_
  refine mx_putI d_St_take_67 fl_St_38 (by assumption) ?_
  refine mx_al0 d_St_take_70 ?_
  refine mx_al1 d_St_take_71 ?_
  refine mx_getI d_St_take_72 fl_St_41 (by assumption) ?_
  refine mx_putI d_St_take_75 fl_St_41 (by assumption) ?_
  refine mx_al1 d_St_take_78 ?_
  refine mx_getR d_St_take_79 fl_St_47 (by assumption) (by assumption) ?_
  refine mx_al0 d_St_take_82 ?_
  refine mx_getR d_St_take_83 fl_St_47 (by assumption) (by assumption) ?_
  refine mx_cSN2v d_St_take_86 (c_copy (L := 8) (by assumption) (by assumption) (by omega)) ok_Vh_copy ml_St_71 (by decide) (Nat.le_of_ble_eq_true rfl) ?_
  refine mx_al1 d_St_take_89 ?_
  refine mx_getR d_St_take_90 fl_St_51 (by assumption) (by assumption) ?_
  refine mx_al0 d_St_take_93 ?_
  refine mx_getR d_St_take_94 fl_St_51 (by assumption) (by assumption) ?_
  refine mx_cSN2v d_St_take_97 (c_copy (L := 8) (by assumption) (by assumption) (by omega)) ok_Vh_copy ml_St_71 (by decide) (Nat.le_of_ble_eq_true rfl) ?_
  refine mx_al1 d_St_take_100 ?_
  refine mx_getR d_St_take_101 fl_St_54 (by assumption) (by assumption) ?_
  refine mx_al0 d_St_take_104 ?_
  refine mx_getR d_St_take_105 fl_St_54 (by assumption) (by assumption) ?_
  refine mx_cSN2v d_St_take_108 (c_copy (L := 64) (by assumption) (by assumption) (by omega)) ok_Vh_copy ml_St_71 (by decide) (Nat.le_of_ble_eq_true rfl) ?_
  exact mx_vret d_St_take_111 rfl (mx_rv_of rfl)
end M21
