/-! THE OBJECT IS MADE -/
section BR86r
variable {l : Launch} {E : mx_Env} {M : mx_M} {d k n pc : Nat} {ls : List (Option Value)} {st : List Value} {Q : mx_R → mx_H → Prop} {t a : Nat} {S : mx_S} {I : mx_I} {P : mx_P} {J : mx_G}
theorem mx_E_ex {S : mx_S} {I : mx_I} {P : mx_P} (F : mx_S → mx_I → mx_P → Prop) (hF : F S I P) (kk : ∀ S I P, F S I P → mx_E l E M d k n pc ls st (t, S, I, P, J) Q) : mx_E l E M d k n pc ls st (t, S, I, P, J) Q := kk S I P hF

theorem c_Gr_initT {r1 r2 : Nat} (hs : S a = some (0, 9))  : mx_C l E M_Gr_init 2 0 0 [.ref (a), .ref (r1), .ref (r2)] (t, S, I, P, J) (mx_iR t J (fun S2 I2 P2 => mx_bel a S S2 I I2 P P2 ∧ (∀ c, c ≠ a → P2 c = P c) ∧ S2 = S ∧ I2 = I ∧ P2 a 0 = some r1 ∧ P2 a 1 = some r2)) := by
  refine mx_C_of (ls0 := [some (.ref (a)), some (.ref (r1)), some (.ref (r2))]) (by decide +kernel) rfl rfl (Nat.le_of_ble_eq_true rfl) rfl ?_
  refine mx_al0 d_Gr_init_0 ?_
  refine mx_objInit d_Gr_init_1 oi_Gr_3 (by decide) (Nat.le_of_ble_eq_true rfl) ?_
  refine mx_al0 d_Gr_init_4 ?_
  refine mx_al1 d_Gr_init_5 ?_
  refine mx_putRF d_Gr_init_6 fl_Gr_9 rfl (fun q h => by cases h; rfl) (by assumption) rfl rfl ?_
  refine mx_al0 d_Gr_init_9 ?_
  refine mx_al2 d_Gr_init_10 ?_
  refine mx_putRF d_Gr_init_11 fl_Gr_15 rfl (fun q h => by cases h; rfl) (by assumption) rfl rfl ?_
  exact mx_vret d_Gr_init_14 rfl (mx_iR_i ⟨fun c hc => ⟨rfl, rfl, by rw [mx_upP_ne (by omega), mx_upP_ne (by omega)]⟩, fun c hc => by rw [mx_upP_ne hc, mx_upP_ne hc], rfl, rfl, by simp [mx_upP], by simp [mx_upP]⟩)
end BR86r
section BR86
variable {l : Launch} {E : mx_Env} {t : Nat} {S : mx_S} {I : mx_I} {P : mx_P} {J : mx_G} {x : Nat}
/-- no law -/
def lw_D0 : lwD := (0, 0, -1, fun _ => 0, fun _ => 0, fun _ => 0, fun _ => 0, fun _ _ => false)
/-- an object as it is made -/
def vh_new (S : mx_S) (I : mx_I) (P : mx_P) (x : Nat) : Prop := vh_ok S P x ∧ I x 6 = nI 0 ∧ pa_ok S P (x + 1) ∧ ma_ok S P (x + 9) ∧ ga_ok S P (x + 12) ∧ la_is S P I (x + 17) lw_D0 ∧ st_new S I P (x + 23) (x + 17) ∧ st_new S I P (x + 38) (x + 17) ∧ st_new S I P (x + 53) (x + 17) ∧ pt_ok S P (x + 68) ∧ I (x + 68) 1 = nI 0 ∧ I (x + 68) 2 = nI 0 ∧ te_ok S P (x + 250) ∧ I (x + 250) 1 = nI 0 ∧ I (x + 250) 2 = -1 ∧ (∀ k, I (x + 251) k = 0) ∧ gx_ok S P (x + 256) (x + 250) (x + 257) ∧ st_new S I P (x + 257) (x + 17) ∧ lr_ok S P (x + 272) (x + 250)
theorem c_Vh_init (hs0 : S x = some (0, 11))  : mx_C l E M_Vh_init 8 276 17106 [.ref (x)] ((x + 1), S, I, P, J) (mx_iR (x + 277) J (fun S2 I2 P2 => mx_bel x S S2 I I2 P P2 ∧ vh_new S2 I2 P2 x)) := by
  have hx0 := hs0
  refine mx_C_of (ls0 := [some (.ref (x)), none, none]) (by decide +kernel) rfl rfl (Nat.le_of_ble_eq_true rfl) rfl ?_
  refine mx_al0 d_Vh_init_0 ?_
  refine mx_objInit d_Vh_init_1 oi_Vh_3 (by decide) (Nat.le_of_ble_eq_true rfl) ?_
  refine mx_al0 d_Vh_init_4 ?_
  refine mx_in_0 d_Vh_init_5 ?_
  refine mx_putZ d_Vh_init_6 fl_Vh_9 (by assumption) (by first | exact Or.inl rfl | exact Or.inr rfl) ?_
  refine mx_al0 d_Vh_init_9 ?_
  refine mx_new (c := 0) (k2 := 275) (n2 := 17097) d_Vh_init_10 rfl cl_Vh_13 (by omega) (by show _ + 9 ≤ _; omega) ?_
  refine mx_dup d_Vh_init_13 rfl ?_
  have hs1 : (mx_ups S (x + 1) (0, 0)) (x + 1) = some (0, 0) := by simp [mx_ups, Nat.add_assoc]
  refine mx_kI0RN (k2 := 268) (n2 := 16929) d_Vh_init_14 (c_Pa_init hs1) ok_Pa_init rfl rfl ml_Vh_15 (by decide) (Nat.le_of_ble_eq_true rfl) (by omega) (by omega) (fun S1 I1 P1 hR1 => ?_)
  obtain ⟨hb1, hR1⟩ := hR1
  have hx1 : S1 x = some (0, 11) := (hb1 x (by omega)).1.trans (by simp [mx_ups, hx0, Nat.add_assoc])
  have hi1 : I1 x 6 = nI 0 := (congrFun (hb1 x (by omega)).2.1 6).trans (by simp [mx_z, mx_up, Nat.add_assoc])
  have hk1 : mx_kp x (x + 1) S S1 I I1 P P1 := fun c hc hcx => ⟨(hb1 c hc).1.trans (by simp only [mx_ups]; rw [if_neg (by omega)]), (hb1 c hc).2.1.trans (by rw [mx_z_ne (by omega), mx_up_ne hcx]), (hb1 c hc).2.2.trans (by rw [mx_zP_ne (by omega)])⟩
  refine mx_putRF d_Vh_init_17 fl_Vh_16 rfl (fun q h => by cases h; rfl) (by assumption) rfl rfl ?_
  refine mx_al0 d_Vh_init_20 ?_
  refine mx_new (c := 1) (k2 := 267) (n2 := 16925) d_Vh_init_21 rfl cl_Vh_20 (by omega) (by show _ + 4 ≤ _; omega) ?_
  refine mx_dup d_Vh_init_24 rfl ?_
  have hs2 : (mx_ups S1 (x + 9) (0, 1)) (x + 9) = some (0, 1) := by simp [mx_ups, Nat.add_assoc]
  refine mx_kI0RN (k2 := 265) (n2 := 14557) d_Vh_init_25 (c_Ma_init hs2) ok_Ma_init rfl rfl ml_Vh_22 (by decide) (Nat.le_of_ble_eq_true rfl) (by omega) (by omega) (fun S2 I2 P2 hR2 => ?_)
  obtain ⟨hb2, hR2⟩ := hR2
  have hx2 : S2 x = some (0, 11) := (hb2 x (by omega)).1.trans (by simp [mx_ups, hx1, Nat.add_assoc])
  have hi2 : I2 x 6 = nI 0 := (congrFun (hb2 x (by omega)).2.1 6).trans (by simp [mx_z, mx_up, hi1, Nat.add_assoc])
  have hk2 : mx_kp x (x + 9) S1 S2 I1 I2 P1 P2 := fun c hc hcx => ⟨(hb2 c hc).1.trans (by simp only [mx_ups]; rw [if_neg (by omega)]), (hb2 c hc).2.1.trans (by rw [mx_z_ne (by omega)]), (hb2 c hc).2.2.trans (by rw [mx_zP_ne (by omega), mx_upP_ne hcx])⟩
  have hp2_8 : P2 x 8 = some (x + 1) := (congrFun (hb2 x (by omega)).2.2 8).trans (by simp [mx_zP, mx_upP, Nat.add_assoc])
  refine mx_putRF d_Vh_init_28 fl_Vh_23 rfl (fun q h => by cases h; rfl) (by assumption) rfl rfl ?_
  refine mx_al0 d_Vh_init_31 ?_
  refine mx_new (c := 2) (k2 := 264) (n2 := 14554) d_Vh_init_32 rfl cl_Vh_27 (by omega) (by show _ + 3 ≤ _; omega) ?_
  refine mx_dup d_Vh_init_35 rfl ?_
  have hs3 : (mx_ups S2 (x + 12) (0, 2)) (x + 12) = some (0, 2) := by simp [mx_ups, Nat.add_assoc]
  refine mx_kI0RN (k2 := 262) (n2 := 13096) d_Vh_init_36 (c_Ga_init hs3) ok_Ga_init rfl rfl ml_Vh_29 (by decide) (Nat.le_of_ble_eq_true rfl) (by omega) (by omega) (fun S3 I3 P3 hR3 => ?_)
  obtain ⟨hb3, hR3⟩ := hR3
  have hx3 : S3 x = some (0, 11) := (hb3 x (by omega)).1.trans (by simp [mx_ups, hx2, Nat.add_assoc])
  have hi3 : I3 x 6 = nI 0 := (congrFun (hb3 x (by omega)).2.1 6).trans (by simp [mx_z, mx_up, hi2, Nat.add_assoc])
  have hk3 : mx_kp x (x + 12) S2 S3 I2 I3 P2 P3 := fun c hc hcx => ⟨(hb3 c hc).1.trans (by simp only [mx_ups]; rw [if_neg (by omega)]), (hb3 c hc).2.1.trans (by rw [mx_z_ne (by omega)]), (hb3 c hc).2.2.trans (by rw [mx_zP_ne (by omega), mx_upP_ne hcx])⟩
  have hp3_8 : P3 x 8 = some (x + 1) := (congrFun (hb3 x (by omega)).2.2 8).trans (by simp [mx_zP, mx_upP, Nat.add_assoc, hp2_8])
  have hp3_9 : P3 x 9 = some (x + 9) := (congrFun (hb3 x (by omega)).2.2 9).trans (by simp [mx_zP, mx_upP, Nat.add_assoc, hp2_8])
  refine mx_putRF d_Vh_init_39 fl_Vh_30 rfl (fun q h => by cases h; rfl) (by assumption) rfl rfl ?_
  refine mx_al0 d_Vh_init_42 ?_
  refine mx_sip 256 d_Vh_init_43 (by decide) ?_
  refine mx_newI (N := 256) (k2 := 261) (n2 := 12840) d_Vh_init_46 ac_int (nI_nn (by omega)) (nI_clamp (by omega)) (by omega) (by omega) (by omega) ?_
  have hy1 : (mx_ups S3 (x + 15) (1, 256)) x = some (0, 11) := by simp [mx_ups, hx3]
  refine mx_putRF d_Vh_init_48 fl_Vh_34 rfl (fun q h => by cases h; rfl) (by assumption) rfl rfl ?_
  refine mx_al0 d_Vh_init_51 ?_
  refine mx_bip 8 d_Vh_init_52 (by decide) ?_
  refine mx_newI (N := 8) (k2 := 260) (n2 := 12832) d_Vh_init_54 ac_int (nI_nn (by omega)) (nI_clamp (by omega)) (by omega) (by omega) (by omega) ?_
  have hy2 : (mx_ups (mx_ups S3 (x + 15) (1, 256)) (x + 16) (1, 8)) x = some (0, 11) := by simp [mx_ups, hx3]
  refine mx_putRF d_Vh_init_56 fl_Vh_38 rfl (fun q h => by cases h; rfl) (by assumption) rfl rfl ?_
  refine mx_new (c := 3) (k2 := 259) (n2 := 12826) d_Vh_init_59 rfl cl_Vh_41 (by omega) (by show _ + 6 ≤ _; omega) ?_
  refine mx_dup d_Vh_init_62 rfl ?_
  refine mx_ic_m1 d_Vh_init_63 ?_
  refine mx_in_0 d_Vh_init_64 ?_
  refine mx_newI (N := 0) (k2 := 258) (n2 := 12826) d_Vh_init_65 ac_int (nI_nn (by omega)) (nI_clamp (by omega)) (by omega) (by omega) (by omega) ?_
  refine mx_in_0 d_Vh_init_67 ?_
  refine mx_newI (N := 0) (k2 := 257) (n2 := 12826) d_Vh_init_68 ac_int (nI_nn (by omega)) (nI_clamp (by omega)) (by omega) (by omega) (by omega) ?_
  refine mx_in_0 d_Vh_init_70 ?_
  refine mx_newI (N := 0) (k2 := 256) (n2 := 12826) d_Vh_init_71 ac_int (nI_nn (by omega)) (nI_clamp (by omega)) (by omega) (by omega) (by omega) ?_
  refine mx_in_0 d_Vh_init_73 ?_
  refine mx_newI (N := 0) (k2 := 255) (n2 := 12826) d_Vh_init_74 ac_int (nI_nn (by omega)) (nI_clamp (by omega)) (by omega) (by omega) (by omega) ?_
  have hs4 : (mx_ups (mx_ups (mx_ups (mx_ups (mx_ups (mx_ups (mx_ups S3 (x + 15) (1, 256)) (x + 16) (1, 8)) (x + 17) (0, 3)) (x + 18) (1, 0)) (x + 19) (1, 0)) (x + 20) (1, 0)) (x + 21) (1, 0)) (x + 17) = some (0, 3) := by simp [mx_ups, Nat.add_assoc]
  refine mx_kI5v (k2 := 254) (n2 := 12762) d_Vh_init_76 (c_La_init (a := x + 17) (t := x + 22) hs4 (by omega)) ok_La_init rfl rfl ml_Vh_43 (by decide) (Nat.le_of_ble_eq_true rfl) (by omega) (by omega) ?_
  refine (show mx_E l E M_Vh_init 8 254 12762 _ _ _ (x + 23, (mx_ups (mx_ups (mx_ups (mx_ups (mx_ups (mx_ups (mx_ups (mx_ups S3 (x + 15) (1, 256)) (x + 16) (1, 8)) (x + 17) (0, 3)) (x + 18) (1, 0)) (x + 19) (1, 0)) (x + 20) (1, 0)) (x + 21) (1, 0)) (x + 22) (1, 64)), (mx_up (mx_z (mx_z (mx_z (mx_z (mx_z (mx_z (mx_z (mx_z I3 (x + 15)) (x + 16)) (x + 17)) (x + 18)) (x + 19)) (x + 20)) (x + 21)) (x + 22)) (x + 17) 0 (-1)), (mx_upP (mx_upP (mx_upP (mx_upP (mx_upP (mx_zP (mx_upP (mx_upP (mx_upP P3 (x) 10 (some ((x + 12)))) (x) 11 (some ((x + 15)))) (x) 12 (some ((x + 16)))) (x + 17)) (x + 17) 5 (some (x + 22))) (x + 17) 1 (some (x + 18))) (x + 17) 2 (some (x + 19))) (x + 17) 3 (some (x + 20))) (x + 17) 4 (some (x + 21))), J) _ from ?_)
  refine mx_E_ex (fun S4 I4 P4 => mx_kp x (x + 15) S3 S4 I3 I4 P3 P4 ∧ S4 x = some (0, 11) ∧ S4 (x + 15) = some (1, 256) ∧ S4 (x + 16) = some (1, 8) ∧ la_is S4 P4 I4 (x + 17) lw_D0 ∧ I4 x 6 = nI 0 ∧ P4 x 8 = some (x + 1) ∧ P4 x 9 = some (x + 9) ∧ P4 x 10 = some (x + 12) ∧ P4 x 11 = some (x + 15) ∧ P4 x 12 = some (x + 16)) (⟨fun c hc hcx => ⟨by simp only [mx_ups]; rw [if_neg (by omega), if_neg (by omega), if_neg (by omega), if_neg (by omega), if_neg (by omega), if_neg (by omega), if_neg (by omega), if_neg (by omega)], by rw [mx_up_ne (by omega), mx_z_ne (by omega), mx_z_ne (by omega), mx_z_ne (by omega), mx_z_ne (by omega), mx_z_ne (by omega), mx_z_ne (by omega), mx_z_ne (by omega), mx_z_ne (by omega)], by rw [mx_upP_ne (by omega), mx_upP_ne (by omega), mx_upP_ne (by omega), mx_upP_ne (by omega), mx_upP_ne (by omega), mx_zP_ne (by omega), mx_upP_ne hcx, mx_upP_ne hcx, mx_upP_ne hcx]⟩, by simp [mx_ups, mx_z, mx_up, mx_upP, mx_zP, Nat.add_assoc, hx3, hi3, hp3_8, hp3_9], by simp [mx_ups, mx_z, mx_up, mx_upP, mx_zP, Nat.add_assoc, hx3, hi3, hp3_8, hp3_9], by simp [mx_ups, mx_z, mx_up, mx_upP, mx_zP, Nat.add_assoc, hx3, hi3, hp3_8, hp3_9], ⟨⟨(by simp [mx_ups, mx_upP, Nat.add_assoc] <;> rfl), (by simp [mx_ups, mx_upP, Nat.add_assoc] <;> rfl), (by simp [mx_ups, mx_upP, Nat.add_assoc] <;> rfl), (by simp [mx_ups, mx_upP, Nat.add_assoc] <;> rfl), (by simp [mx_ups, mx_upP, Nat.add_assoc] <;> rfl), (by simp [mx_ups, mx_upP, Nat.add_assoc] <;> rfl), (by simp [mx_ups, mx_upP, Nat.add_assoc] <;> rfl), (by simp [mx_ups, mx_upP, Nat.add_assoc] <;> rfl), (by simp [mx_ups, mx_upP, Nat.add_assoc] <;> rfl), (by simp [mx_ups, mx_upP, Nat.add_assoc] <;> rfl), (by simp [mx_ups, mx_upP, Nat.add_assoc] <;> rfl), by show 0 ≤ 12; omega, by show 0 ≤ 400; omega⟩, ⟨by simp [mx_up]; rfl, Or.inr ⟨rfl, rfl⟩, fun j hj => absurd hj (Nat.not_lt_zero j), fun j hj => absurd hj (Nat.not_lt_zero j)⟩, fun fc j hj => absurd hj (Nat.not_lt_zero j)⟩, by simp [mx_ups, mx_z, mx_up, mx_upP, mx_zP, Nat.add_assoc, hx3, hi3, hp3_8, hp3_9], by simp [mx_ups, mx_z, mx_up, mx_upP, mx_zP, Nat.add_assoc, hx3, hi3, hp3_8, hp3_9], by simp [mx_ups, mx_z, mx_up, mx_upP, mx_zP, Nat.add_assoc, hx3, hi3, hp3_8, hp3_9], by simp [mx_ups, mx_z, mx_up, mx_upP, mx_zP, Nat.add_assoc, hx3, hi3, hp3_8, hp3_9], by simp [mx_ups, mx_z, mx_up, mx_upP, mx_zP, Nat.add_assoc, hx3, hi3, hp3_8, hp3_9], by simp [mx_ups, mx_z, mx_up, mx_upP, mx_zP, Nat.add_assoc, hx3, hi3, hp3_8, hp3_9]⟩) (fun S4 I4 P4 hF4 => ?_)
  obtain ⟨hk4, hx4, hA15, hA16, hla4, hi4, hp4_8, hp4_9, hp4_10, hp4_11, hp4_12⟩ := hF4
  refine mx_as1 d_Vh_init_79 ?_
  refine mx_al0 d_Vh_init_80 ?_
  refine mx_new (c := 6) (k2 := 253) (n2 := 12748) d_Vh_init_81 rfl cl_Vh_46 (by omega) (by show _ + 14 ≤ _; omega) ?_
  refine mx_dup d_Vh_init_84 rfl ?_
  refine mx_al1 d_Vh_init_85 ?_
  have hs5 : (mx_ups S4 (x + 23) (0, 6)) (x + 23) = some (0, 6) := by simp [mx_ups, Nat.add_assoc]
  refine mx_kI1R (k2 := 239) (n2 := 12119) d_Vh_init_86 (c_St_init (la := x + 17) hs5) ok_St_init rfl rfl ml_Vh_48 (by decide) (Nat.le_of_ble_eq_true rfl) (by omega) (by omega) (fun S5 I5 P5 hR5 => ?_)
  obtain ⟨hb5, hR5⟩ := hR5
  have hx5 : S5 x = some (0, 11) := (hb5 x (by omega)).1.trans (by simp [mx_ups, hx4, Nat.add_assoc])
  have hi5 : I5 x 6 = nI 0 := (congrFun (hb5 x (by omega)).2.1 6).trans (by simp [mx_z, mx_up, hi4, Nat.add_assoc])
  have hk5 : mx_kp x (x + 23) S4 S5 I4 I5 P4 P5 := fun c hc hcx => ⟨(hb5 c hc).1.trans (by simp only [mx_ups]; rw [if_neg (by omega)]), (hb5 c hc).2.1.trans (by rw [mx_z_ne (by omega)]), (hb5 c hc).2.2.trans (by rw [mx_zP_ne (by omega)])⟩
  have hp5_8 : P5 x 8 = some (x + 1) := (congrFun (hb5 x (by omega)).2.2 8).trans (by simp [mx_zP, mx_upP, Nat.add_assoc, hp4_8, hp4_9, hp4_10, hp4_11, hp4_12])
  have hp5_9 : P5 x 9 = some (x + 9) := (congrFun (hb5 x (by omega)).2.2 9).trans (by simp [mx_zP, mx_upP, Nat.add_assoc, hp4_8, hp4_9, hp4_10, hp4_11, hp4_12])
  have hp5_10 : P5 x 10 = some (x + 12) := (congrFun (hb5 x (by omega)).2.2 10).trans (by simp [mx_zP, mx_upP, Nat.add_assoc, hp4_8, hp4_9, hp4_10, hp4_11, hp4_12])
  have hp5_11 : P5 x 11 = some (x + 15) := (congrFun (hb5 x (by omega)).2.2 11).trans (by simp [mx_zP, mx_upP, Nat.add_assoc, hp4_8, hp4_9, hp4_10, hp4_11, hp4_12])
  have hp5_12 : P5 x 12 = some (x + 16) := (congrFun (hb5 x (by omega)).2.2 12).trans (by simp [mx_zP, mx_upP, Nat.add_assoc, hp4_8, hp4_9, hp4_10, hp4_11, hp4_12])
  refine mx_putRF d_Vh_init_89 fl_Vh_51 rfl (fun q h => by cases h; rfl) (by assumption) rfl rfl ?_
  refine mx_al0 d_Vh_init_92 ?_
  refine mx_new (c := 6) (k2 := 238) (n2 := 12105) d_Vh_init_93 rfl cl_Vh_46 (by omega) (by show _ + 14 ≤ _; omega) ?_
  refine mx_dup d_Vh_init_96 rfl ?_
  refine mx_al1 d_Vh_init_97 ?_
  have hs6 : (mx_ups S5 (x + 38) (0, 6)) (x + 38) = some (0, 6) := by simp [mx_ups, Nat.add_assoc]
  refine mx_kI1R (k2 := 224) (n2 := 11476) d_Vh_init_98 (c_St_init (la := x + 17) hs6) ok_St_init rfl rfl ml_Vh_48 (by decide) (Nat.le_of_ble_eq_true rfl) (by omega) (by omega) (fun S6 I6 P6 hR6 => ?_)
  obtain ⟨hb6, hR6⟩ := hR6
  have hx6 : S6 x = some (0, 11) := (hb6 x (by omega)).1.trans (by simp [mx_ups, hx5, Nat.add_assoc])
  have hi6 : I6 x 6 = nI 0 := (congrFun (hb6 x (by omega)).2.1 6).trans (by simp [mx_z, mx_up, hi5, Nat.add_assoc])
  have hk6 : mx_kp x (x + 38) S5 S6 I5 I6 P5 P6 := fun c hc hcx => ⟨(hb6 c hc).1.trans (by simp only [mx_ups]; rw [if_neg (by omega)]), (hb6 c hc).2.1.trans (by rw [mx_z_ne (by omega)]), (hb6 c hc).2.2.trans (by rw [mx_zP_ne (by omega), mx_upP_ne hcx])⟩
  have hp6_8 : P6 x 8 = some (x + 1) := (congrFun (hb6 x (by omega)).2.2 8).trans (by simp [mx_zP, mx_upP, Nat.add_assoc, hp5_8, hp5_9, hp5_10, hp5_11, hp5_12])
  have hp6_9 : P6 x 9 = some (x + 9) := (congrFun (hb6 x (by omega)).2.2 9).trans (by simp [mx_zP, mx_upP, Nat.add_assoc, hp5_8, hp5_9, hp5_10, hp5_11, hp5_12])
  have hp6_10 : P6 x 10 = some (x + 12) := (congrFun (hb6 x (by omega)).2.2 10).trans (by simp [mx_zP, mx_upP, Nat.add_assoc, hp5_8, hp5_9, hp5_10, hp5_11, hp5_12])
  have hp6_11 : P6 x 11 = some (x + 15) := (congrFun (hb6 x (by omega)).2.2 11).trans (by simp [mx_zP, mx_upP, Nat.add_assoc, hp5_8, hp5_9, hp5_10, hp5_11, hp5_12])
  have hp6_12 : P6 x 12 = some (x + 16) := (congrFun (hb6 x (by omega)).2.2 12).trans (by simp [mx_zP, mx_upP, Nat.add_assoc, hp5_8, hp5_9, hp5_10, hp5_11, hp5_12])
  have hp6_3 : P6 x 3 = some (x + 23) := (congrFun (hb6 x (by omega)).2.2 3).trans (by simp [mx_zP, mx_upP, Nat.add_assoc, hp5_8, hp5_9, hp5_10, hp5_11, hp5_12])
  refine mx_putRF d_Vh_init_101 fl_Vh_55 rfl (fun q h => by cases h; rfl) (by assumption) rfl rfl ?_
  refine mx_al0 d_Vh_init_104 ?_
  refine mx_new (c := 6) (k2 := 223) (n2 := 11462) d_Vh_init_105 rfl cl_Vh_46 (by omega) (by show _ + 14 ≤ _; omega) ?_
  refine mx_dup d_Vh_init_108 rfl ?_
  refine mx_al1 d_Vh_init_109 ?_
  have hs7 : (mx_ups S6 (x + 53) (0, 6)) (x + 53) = some (0, 6) := by simp [mx_ups, Nat.add_assoc]
  refine mx_kI1R (k2 := 209) (n2 := 10833) d_Vh_init_110 (c_St_init (la := x + 17) hs7) ok_St_init rfl rfl ml_Vh_48 (by decide) (Nat.le_of_ble_eq_true rfl) (by omega) (by omega) (fun S7 I7 P7 hR7 => ?_)
  obtain ⟨hb7, hR7⟩ := hR7
  have hx7 : S7 x = some (0, 11) := (hb7 x (by omega)).1.trans (by simp [mx_ups, hx6, Nat.add_assoc])
  have hi7 : I7 x 6 = nI 0 := (congrFun (hb7 x (by omega)).2.1 6).trans (by simp [mx_z, mx_up, hi6, Nat.add_assoc])
  have hk7 : mx_kp x (x + 53) S6 S7 I6 I7 P6 P7 := fun c hc hcx => ⟨(hb7 c hc).1.trans (by simp only [mx_ups]; rw [if_neg (by omega)]), (hb7 c hc).2.1.trans (by rw [mx_z_ne (by omega)]), (hb7 c hc).2.2.trans (by rw [mx_zP_ne (by omega), mx_upP_ne hcx])⟩
  have hp7_8 : P7 x 8 = some (x + 1) := (congrFun (hb7 x (by omega)).2.2 8).trans (by simp [mx_zP, mx_upP, Nat.add_assoc, hp6_8, hp6_9, hp6_10, hp6_11, hp6_12, hp6_3])
  have hp7_9 : P7 x 9 = some (x + 9) := (congrFun (hb7 x (by omega)).2.2 9).trans (by simp [mx_zP, mx_upP, Nat.add_assoc, hp6_8, hp6_9, hp6_10, hp6_11, hp6_12, hp6_3])
  have hp7_10 : P7 x 10 = some (x + 12) := (congrFun (hb7 x (by omega)).2.2 10).trans (by simp [mx_zP, mx_upP, Nat.add_assoc, hp6_8, hp6_9, hp6_10, hp6_11, hp6_12, hp6_3])
  have hp7_11 : P7 x 11 = some (x + 15) := (congrFun (hb7 x (by omega)).2.2 11).trans (by simp [mx_zP, mx_upP, Nat.add_assoc, hp6_8, hp6_9, hp6_10, hp6_11, hp6_12, hp6_3])
  have hp7_12 : P7 x 12 = some (x + 16) := (congrFun (hb7 x (by omega)).2.2 12).trans (by simp [mx_zP, mx_upP, Nat.add_assoc, hp6_8, hp6_9, hp6_10, hp6_11, hp6_12, hp6_3])
  have hp7_3 : P7 x 3 = some (x + 23) := (congrFun (hb7 x (by omega)).2.2 3).trans (by simp [mx_zP, mx_upP, Nat.add_assoc, hp6_8, hp6_9, hp6_10, hp6_11, hp6_12, hp6_3])
  have hp7_4 : P7 x 4 = some (x + 38) := (congrFun (hb7 x (by omega)).2.2 4).trans (by simp [mx_zP, mx_upP, Nat.add_assoc, hp6_8, hp6_9, hp6_10, hp6_11, hp6_12, hp6_3])
  refine mx_putRF d_Vh_init_113 fl_Vh_58 rfl (fun q h => by cases h; rfl) (by assumption) rfl rfl ?_
  refine mx_al0 d_Vh_init_116 ?_
  refine mx_new (c := 7) (k2 := 208) (n2 := 10830) d_Vh_init_117 rfl cl_Vh_61 (by omega) (by show _ + 3 ≤ _; omega) ?_
  refine mx_dup d_Vh_init_120 rfl ?_
  refine mx_al1 d_Vh_init_121 ?_
  have hs8 : (mx_ups S7 (x + 68) (0, 7)) (x + 68) = some (0, 7) := by simp [mx_ups, Nat.add_assoc]
  refine mx_kI1R (k2 := 27) (n2 := 3102) d_Vh_init_122 (c_Pt_init (la := x + 17) hs8) ok_Pt_init rfl rfl ml_Vh_63 (by decide) (Nat.le_of_ble_eq_true rfl) (by omega) (by omega) (fun S8 I8 P8 hR8 => ?_)
  have hb8 := hR8.1
  have hx8 : S8 x = some (0, 11) := (hb8 x (by omega)).1.trans (by simp [mx_ups, hx7, Nat.add_assoc])
  have hi8 : I8 x 6 = nI 0 := (congrFun (hb8 x (by omega)).2.1 6).trans (by simp [mx_z, mx_up, hi7, Nat.add_assoc])
  have hk8 : mx_kp x (x + 68) S7 S8 I7 I8 P7 P8 := fun c hc hcx => ⟨(hb8 c hc).1.trans (by simp only [mx_ups]; rw [if_neg (by omega)]), (hb8 c hc).2.1.trans (by rw [mx_z_ne (by omega)]), (hb8 c hc).2.2.trans (by rw [mx_zP_ne (by omega), mx_upP_ne hcx])⟩
  have hp8_8 : P8 x 8 = some (x + 1) := (congrFun (hb8 x (by omega)).2.2 8).trans (by simp [mx_zP, mx_upP, Nat.add_assoc, hp7_8, hp7_9, hp7_10, hp7_11, hp7_12, hp7_3, hp7_4])
  have hp8_9 : P8 x 9 = some (x + 9) := (congrFun (hb8 x (by omega)).2.2 9).trans (by simp [mx_zP, mx_upP, Nat.add_assoc, hp7_8, hp7_9, hp7_10, hp7_11, hp7_12, hp7_3, hp7_4])
  have hp8_10 : P8 x 10 = some (x + 12) := (congrFun (hb8 x (by omega)).2.2 10).trans (by simp [mx_zP, mx_upP, Nat.add_assoc, hp7_8, hp7_9, hp7_10, hp7_11, hp7_12, hp7_3, hp7_4])
  have hp8_11 : P8 x 11 = some (x + 15) := (congrFun (hb8 x (by omega)).2.2 11).trans (by simp [mx_zP, mx_upP, Nat.add_assoc, hp7_8, hp7_9, hp7_10, hp7_11, hp7_12, hp7_3, hp7_4])
  have hp8_12 : P8 x 12 = some (x + 16) := (congrFun (hb8 x (by omega)).2.2 12).trans (by simp [mx_zP, mx_upP, Nat.add_assoc, hp7_8, hp7_9, hp7_10, hp7_11, hp7_12, hp7_3, hp7_4])
  have hp8_3 : P8 x 3 = some (x + 23) := (congrFun (hb8 x (by omega)).2.2 3).trans (by simp [mx_zP, mx_upP, Nat.add_assoc, hp7_8, hp7_9, hp7_10, hp7_11, hp7_12, hp7_3, hp7_4])
  have hp8_4 : P8 x 4 = some (x + 38) := (congrFun (hb8 x (by omega)).2.2 4).trans (by simp [mx_zP, mx_upP, Nat.add_assoc, hp7_8, hp7_9, hp7_10, hp7_11, hp7_12, hp7_3, hp7_4])
  have hp8_5 : P8 x 5 = some (x + 53) := (congrFun (hb8 x (by omega)).2.2 5).trans (by simp [mx_zP, mx_upP, Nat.add_assoc, hp7_8, hp7_9, hp7_10, hp7_11, hp7_12, hp7_3, hp7_4])
  refine mx_putRF d_Vh_init_125 fl_Vh_64 rfl (fun q h => by cases h; rfl) (by assumption) rfl rfl ?_
  refine mx_new (c := 8) (k2 := 26) (n2 := 3092) d_Vh_init_128 rfl cl_Vh_68 (by omega) (by show _ + 10 ≤ _; omega) ?_
  refine mx_dup d_Vh_init_131 rfl ?_
  have hs9 : (mx_ups S8 (x + 250) (0, 8)) (x + 250) = some (0, 8) := by simp [mx_ups, Nat.add_assoc]
  refine mx_kI0RN (k2 := 21) (n2 := 1088) d_Vh_init_132 (c_Te_init hs9) ok_Te_init rfl rfl ml_Vh_70 (by decide) (Nat.le_of_ble_eq_true rfl) (by omega) (by omega) (fun S9 I9 P9 hR9 => ?_)
  obtain ⟨hb9, hR9⟩ := hR9
  have hx9 : S9 x = some (0, 11) := (hb9 x (by omega)).1.trans (by simp [mx_ups, hx8, Nat.add_assoc])
  have hi9 : I9 x 6 = nI 0 := (congrFun (hb9 x (by omega)).2.1 6).trans (by simp [mx_z, mx_up, hi8, Nat.add_assoc])
  have hk9 : mx_kp x (x + 250) S8 S9 I8 I9 P8 P9 := fun c hc hcx => ⟨(hb9 c hc).1.trans (by simp only [mx_ups]; rw [if_neg (by omega)]), (hb9 c hc).2.1.trans (by rw [mx_z_ne (by omega)]), (hb9 c hc).2.2.trans (by rw [mx_zP_ne (by omega), mx_upP_ne hcx])⟩
  have hp9_8 : P9 x 8 = some (x + 1) := (congrFun (hb9 x (by omega)).2.2 8).trans (by simp [mx_zP, mx_upP, Nat.add_assoc, hp8_8, hp8_9, hp8_10, hp8_11, hp8_12, hp8_3, hp8_4, hp8_5])
  have hp9_9 : P9 x 9 = some (x + 9) := (congrFun (hb9 x (by omega)).2.2 9).trans (by simp [mx_zP, mx_upP, Nat.add_assoc, hp8_8, hp8_9, hp8_10, hp8_11, hp8_12, hp8_3, hp8_4, hp8_5])
  have hp9_10 : P9 x 10 = some (x + 12) := (congrFun (hb9 x (by omega)).2.2 10).trans (by simp [mx_zP, mx_upP, Nat.add_assoc, hp8_8, hp8_9, hp8_10, hp8_11, hp8_12, hp8_3, hp8_4, hp8_5])
  have hp9_11 : P9 x 11 = some (x + 15) := (congrFun (hb9 x (by omega)).2.2 11).trans (by simp [mx_zP, mx_upP, Nat.add_assoc, hp8_8, hp8_9, hp8_10, hp8_11, hp8_12, hp8_3, hp8_4, hp8_5])
  have hp9_12 : P9 x 12 = some (x + 16) := (congrFun (hb9 x (by omega)).2.2 12).trans (by simp [mx_zP, mx_upP, Nat.add_assoc, hp8_8, hp8_9, hp8_10, hp8_11, hp8_12, hp8_3, hp8_4, hp8_5])
  have hp9_3 : P9 x 3 = some (x + 23) := (congrFun (hb9 x (by omega)).2.2 3).trans (by simp [mx_zP, mx_upP, Nat.add_assoc, hp8_8, hp8_9, hp8_10, hp8_11, hp8_12, hp8_3, hp8_4, hp8_5])
  have hp9_4 : P9 x 4 = some (x + 38) := (congrFun (hb9 x (by omega)).2.2 4).trans (by simp [mx_zP, mx_upP, Nat.add_assoc, hp8_8, hp8_9, hp8_10, hp8_11, hp8_12, hp8_3, hp8_4, hp8_5])
  have hp9_5 : P9 x 5 = some (x + 53) := (congrFun (hb9 x (by omega)).2.2 5).trans (by simp [mx_zP, mx_upP, Nat.add_assoc, hp8_8, hp8_9, hp8_10, hp8_11, hp8_12, hp8_3, hp8_4, hp8_5])
  have hp9_7 : P9 x 7 = some (x + 68) := (congrFun (hb9 x (by omega)).2.2 7).trans (by simp [mx_zP, mx_upP, Nat.add_assoc, hp8_8, hp8_9, hp8_10, hp8_11, hp8_12, hp8_3, hp8_4, hp8_5])
  refine mx_as2 d_Vh_init_135 ?_
  refine mx_al0 d_Vh_init_136 ?_
  refine mx_al2 d_Vh_init_137 ?_
  refine mx_putRF d_Vh_init_138 fl_Vh_71 rfl (fun q h => by cases h; rfl) (by assumption) rfl rfl ?_
  refine mx_al0 d_Vh_init_141 ?_
  refine mx_new (c := 9) (k2 := 20) (n2 := 1086) d_Vh_init_142 rfl cl_Vh_75 (by omega) (by show _ + 2 ≤ _; omega) ?_
  refine mx_dup d_Vh_init_145 rfl ?_
  refine mx_al2 d_Vh_init_146 ?_
  refine mx_new (c := 6) (k2 := 19) (n2 := 1072) d_Vh_init_147 rfl cl_Vh_46 (by omega) (by show _ + 14 ≤ _; omega) ?_
  refine mx_dup d_Vh_init_150 rfl ?_
  refine mx_al1 d_Vh_init_151 ?_
  have hs10 : (mx_ups (mx_ups S9 (x + 256) (0, 9)) (x + 257) (0, 6)) (x + 257) = some (0, 6) := by simp [mx_ups, Nat.add_assoc]
  refine mx_kI1R (k2 := 5) (n2 := 443) d_Vh_init_152 (c_St_init (la := x + 17) hs10) ok_St_init rfl rfl ml_Vh_48 (by decide) (Nat.le_of_ble_eq_true rfl) (by omega) (by omega) (fun S10 I10 P10 hR10 => ?_)
  obtain ⟨hb10, hR10⟩ := hR10
  have hx10 : S10 x = some (0, 11) := (hb10 x (by omega)).1.trans (by simp [mx_ups, hx9, Nat.add_assoc])
  have hi10 : I10 x 6 = nI 0 := (congrFun (hb10 x (by omega)).2.1 6).trans (by simp [mx_z, hi9, Nat.add_assoc])
  have hk10 : mx_kp x (x + 256) S9 S10 I9 I10 P9 P10 := fun c hc hcx => ⟨(hb10 c (by omega)).1.trans (by simp only [mx_ups]; rw [if_neg (by omega), if_neg (by omega)]), (hb10 c (by omega)).2.1.trans (by rw [mx_z_ne (by omega), mx_z_ne (by omega)]), (hb10 c (by omega)).2.2.trans (by rw [mx_zP_ne (by omega), mx_zP_ne (by omega), mx_upP_ne hcx])⟩
  have hg10 : S10 (x + 256) = some (0, 9) := (hb10 (x + 256) (by omega)).1.trans (by simp [mx_ups, Nat.add_assoc])
  have hp10_8 : P10 x 8 = some (x + 1) := (congrFun (hb10 x (by omega)).2.2 8).trans (by simp [mx_zP, mx_upP, Nat.add_assoc, hp9_8, hp9_9, hp9_10, hp9_11, hp9_12, hp9_3, hp9_4, hp9_5, hp9_7])
  have hp10_9 : P10 x 9 = some (x + 9) := (congrFun (hb10 x (by omega)).2.2 9).trans (by simp [mx_zP, mx_upP, Nat.add_assoc, hp9_8, hp9_9, hp9_10, hp9_11, hp9_12, hp9_3, hp9_4, hp9_5, hp9_7])
  have hp10_10 : P10 x 10 = some (x + 12) := (congrFun (hb10 x (by omega)).2.2 10).trans (by simp [mx_zP, mx_upP, Nat.add_assoc, hp9_8, hp9_9, hp9_10, hp9_11, hp9_12, hp9_3, hp9_4, hp9_5, hp9_7])
  have hp10_11 : P10 x 11 = some (x + 15) := (congrFun (hb10 x (by omega)).2.2 11).trans (by simp [mx_zP, mx_upP, Nat.add_assoc, hp9_8, hp9_9, hp9_10, hp9_11, hp9_12, hp9_3, hp9_4, hp9_5, hp9_7])
  have hp10_12 : P10 x 12 = some (x + 16) := (congrFun (hb10 x (by omega)).2.2 12).trans (by simp [mx_zP, mx_upP, Nat.add_assoc, hp9_8, hp9_9, hp9_10, hp9_11, hp9_12, hp9_3, hp9_4, hp9_5, hp9_7])
  have hp10_3 : P10 x 3 = some (x + 23) := (congrFun (hb10 x (by omega)).2.2 3).trans (by simp [mx_zP, mx_upP, Nat.add_assoc, hp9_8, hp9_9, hp9_10, hp9_11, hp9_12, hp9_3, hp9_4, hp9_5, hp9_7])
  have hp10_4 : P10 x 4 = some (x + 38) := (congrFun (hb10 x (by omega)).2.2 4).trans (by simp [mx_zP, mx_upP, Nat.add_assoc, hp9_8, hp9_9, hp9_10, hp9_11, hp9_12, hp9_3, hp9_4, hp9_5, hp9_7])
  have hp10_5 : P10 x 5 = some (x + 53) := (congrFun (hb10 x (by omega)).2.2 5).trans (by simp [mx_zP, mx_upP, Nat.add_assoc, hp9_8, hp9_9, hp9_10, hp9_11, hp9_12, hp9_3, hp9_4, hp9_5, hp9_7])
  have hp10_7 : P10 x 7 = some (x + 68) := (congrFun (hb10 x (by omega)).2.2 7).trans (by simp [mx_zP, mx_upP, Nat.add_assoc, hp9_8, hp9_9, hp9_10, hp9_11, hp9_12, hp9_3, hp9_4, hp9_5, hp9_7])
  have hp10_0 : P10 x 0 = some (x + 250) := (congrFun (hb10 x (by omega)).2.2 0).trans (by simp [mx_zP, mx_upP, Nat.add_assoc, hp9_8, hp9_9, hp9_10, hp9_11, hp9_12, hp9_3, hp9_4, hp9_5, hp9_7])
  refine mx_kI2R (k2 := 5) (n2 := 443) d_Vh_init_155 (c_Gr_initT (t := x + 272) hg10) ok_Gr_init rfl rfl ml_Vh_77 (by decide) (Nat.le_of_ble_eq_true rfl) (by omega) (by omega) (fun S11 I11 P11 hR11 => ?_)
  obtain ⟨hb11, hgP, hgS, hgI, hg0, hg1⟩ := hR11
  subst hgS
  subst hgI
  have hx11 := hx10
  have hi11 := hi10
  have hp11_8 : P11 x 8 = some (x + 1) := (congrFun (hgP x (by omega)) 8).trans hp10_8
  have hp11_9 : P11 x 9 = some (x + 9) := (congrFun (hgP x (by omega)) 9).trans hp10_9
  have hp11_10 : P11 x 10 = some (x + 12) := (congrFun (hgP x (by omega)) 10).trans hp10_10
  have hp11_11 : P11 x 11 = some (x + 15) := (congrFun (hgP x (by omega)) 11).trans hp10_11
  have hp11_12 : P11 x 12 = some (x + 16) := (congrFun (hgP x (by omega)) 12).trans hp10_12
  have hp11_3 : P11 x 3 = some (x + 23) := (congrFun (hgP x (by omega)) 3).trans hp10_3
  have hp11_4 : P11 x 4 = some (x + 38) := (congrFun (hgP x (by omega)) 4).trans hp10_4
  have hp11_5 : P11 x 5 = some (x + 53) := (congrFun (hgP x (by omega)) 5).trans hp10_5
  have hp11_7 : P11 x 7 = some (x + 68) := (congrFun (hgP x (by omega)) 7).trans hp10_7
  have hp11_0 : P11 x 0 = some (x + 250) := (congrFun (hgP x (by omega)) 0).trans hp10_0
  refine mx_putRF d_Vh_init_158 fl_Vh_80 rfl (fun q h => by cases h; rfl) (by assumption) rfl rfl ?_
  refine mx_al0 d_Vh_init_161 ?_
  refine mx_new (c := 10) (k2 := 4) (n2 := 436) d_Vh_init_162 rfl cl_Vh_84 (by omega) (by show _ + 7 ≤ _; omega) ?_
  refine mx_dup d_Vh_init_165 rfl ?_
  refine mx_al2 d_Vh_init_166 ?_
  have hs12 : (mx_ups S11 (x + 272) (0, 10)) (x + 272) = some (0, 10) := by simp [mx_ups, Nat.add_assoc]
  refine mx_kI1R (k2 := 0) (n2 := 0) d_Vh_init_167 (c_Lr_init hs12) ok_Lr_init rfl rfl ml_Vh_86 (by decide) (Nat.le_of_ble_eq_true rfl) (by omega) (by omega) (fun S12 I12 P12 hR12 => ?_)
  obtain ⟨hb12, hR12⟩ := hR12
  have hx12 : S12 x = some (0, 11) := (hb12 x (by omega)).1.trans (by simp [mx_ups, hx11, Nat.add_assoc])
  have hi12 : I12 x 6 = nI 0 := (congrFun (hb12 x (by omega)).2.1 6).trans (by simp [mx_z, mx_up, hi11, Nat.add_assoc])
  have hk12 : mx_kp x (x + 272) S11 S12 I11 I12 P11 P12 := fun c hc hcx => ⟨(hb12 c hc).1.trans (by simp only [mx_ups]; rw [if_neg (by omega)]), (hb12 c hc).2.1.trans (by rw [mx_z_ne (by omega)]), (hb12 c hc).2.2.trans (by rw [mx_zP_ne (by omega), mx_upP_ne hcx])⟩
  have hp12_8 : P12 x 8 = some (x + 1) := (congrFun (hb12 x (by omega)).2.2 8).trans (by simp [mx_zP, mx_upP, Nat.add_assoc, hp11_8, hp11_9, hp11_10, hp11_11, hp11_12, hp11_3, hp11_4, hp11_5, hp11_7, hp11_0])
  have hp12_9 : P12 x 9 = some (x + 9) := (congrFun (hb12 x (by omega)).2.2 9).trans (by simp [mx_zP, mx_upP, Nat.add_assoc, hp11_8, hp11_9, hp11_10, hp11_11, hp11_12, hp11_3, hp11_4, hp11_5, hp11_7, hp11_0])
  have hp12_10 : P12 x 10 = some (x + 12) := (congrFun (hb12 x (by omega)).2.2 10).trans (by simp [mx_zP, mx_upP, Nat.add_assoc, hp11_8, hp11_9, hp11_10, hp11_11, hp11_12, hp11_3, hp11_4, hp11_5, hp11_7, hp11_0])
  have hp12_11 : P12 x 11 = some (x + 15) := (congrFun (hb12 x (by omega)).2.2 11).trans (by simp [mx_zP, mx_upP, Nat.add_assoc, hp11_8, hp11_9, hp11_10, hp11_11, hp11_12, hp11_3, hp11_4, hp11_5, hp11_7, hp11_0])
  have hp12_12 : P12 x 12 = some (x + 16) := (congrFun (hb12 x (by omega)).2.2 12).trans (by simp [mx_zP, mx_upP, Nat.add_assoc, hp11_8, hp11_9, hp11_10, hp11_11, hp11_12, hp11_3, hp11_4, hp11_5, hp11_7, hp11_0])
  have hp12_3 : P12 x 3 = some (x + 23) := (congrFun (hb12 x (by omega)).2.2 3).trans (by simp [mx_zP, mx_upP, Nat.add_assoc, hp11_8, hp11_9, hp11_10, hp11_11, hp11_12, hp11_3, hp11_4, hp11_5, hp11_7, hp11_0])
  have hp12_4 : P12 x 4 = some (x + 38) := (congrFun (hb12 x (by omega)).2.2 4).trans (by simp [mx_zP, mx_upP, Nat.add_assoc, hp11_8, hp11_9, hp11_10, hp11_11, hp11_12, hp11_3, hp11_4, hp11_5, hp11_7, hp11_0])
  have hp12_5 : P12 x 5 = some (x + 53) := (congrFun (hb12 x (by omega)).2.2 5).trans (by simp [mx_zP, mx_upP, Nat.add_assoc, hp11_8, hp11_9, hp11_10, hp11_11, hp11_12, hp11_3, hp11_4, hp11_5, hp11_7, hp11_0])
  have hp12_7 : P12 x 7 = some (x + 68) := (congrFun (hb12 x (by omega)).2.2 7).trans (by simp [mx_zP, mx_upP, Nat.add_assoc, hp11_8, hp11_9, hp11_10, hp11_11, hp11_12, hp11_3, hp11_4, hp11_5, hp11_7, hp11_0])
  have hp12_0 : P12 x 0 = some (x + 250) := (congrFun (hb12 x (by omega)).2.2 0).trans (by simp [mx_zP, mx_upP, Nat.add_assoc, hp11_8, hp11_9, hp11_10, hp11_11, hp11_12, hp11_3, hp11_4, hp11_5, hp11_7, hp11_0])
  have hp12_1 : P12 x 1 = some (x + 256) := (congrFun (hb12 x (by omega)).2.2 1).trans (by simp [mx_zP, mx_upP, Nat.add_assoc, hp11_8, hp11_9, hp11_10, hp11_11, hp11_12, hp11_3, hp11_4, hp11_5, hp11_7, hp11_0])
  refine mx_putRF d_Vh_init_170 fl_Vh_89 rfl (fun q h => by cases h; rfl) (by assumption) rfl rfl ?_
  have kf : mx_kp x (x + 277) S12 S12 I12 I12 P12 (mx_upP P12 x 2 (some (x + 272))) := mx_kp.upPx
  have k11 := hk12.tr kf (by omega)
  have e10 : mx_sm (x + 257) (x + 272) S11 S12 I11 I12 P10 (mx_upP P12 x 2 (some (x + 272))) := fun c h1 h2 => ⟨(k11 c h2 (by omega)).1, (k11 c h2 (by omega)).2.1, (k11 c h2 (by omega)).2.2.trans (hgP c (by omega))⟩
  have k10 : mx_kp x (x + 256) S11 S12 I11 I12 P10 (mx_upP P12 x 2 (some (x + 272))) := fun c h1 h2 => ⟨(k11 c (by omega) h2).1, (k11 c (by omega) h2).2.1, (k11 c (by omega) h2).2.2.trans (hgP c (by omega))⟩
  have k9 := hk10.tr k10 (by omega)
  have k8 := hk9.tr k9 (by omega)
  have k7 := hk8.tr k8 (by omega)
  have k6 := hk7.tr k7 (by omega)
  have k5 := hk6.tr k6 (by omega)
  have k4 := hk5.tr k5 (by omega)
  have k3 := hk4.tr k4 (by omega)
  have k2 := hk3.tr k3 (by omega)
  have k1 := hk2.tr k2 (by omega)
  have k0 := hk1.tr k1 (by omega)
  have c1 : pa_ok S12 (mx_upP P12 x 2 (some (x + 272))) (x + 1) := by obtain ⟨q0, p1, s1, p2, s2, p3, s3, p4, s4, p5, s5, p6, s6, p7, s7, -⟩ := hR1; exact pa_ok.sm ⟨q0, p1, p2, p3, p4, p5, p6, p7, s1, s2, s3, s4, s5, s6, s7⟩ (k1.sm (by omega))
  have c2 : ma_ok S12 (mx_upP P12 x 2 (some (x + 272))) (x + 9) := by obtain ⟨q0, p1, s1, p2, s2, -⟩ := hR2; exact ma_ok.sm ⟨q0, p1, p2, s1, s2⟩ (k2.sm (by omega))
  have c3 : ga_ok S12 (mx_upP P12 x 2 (some (x + 272))) (x + 12) := by obtain ⟨q0, p1, s1, p2, s2, -⟩ := hR3; exact ga_ok.sm ⟨q0, p1, p2, s1, s2⟩ (k3.sm (by omega))
  have c9 : te_ok S12 (mx_upP P12 x 2 (some (x + 272))) (x + 250) := by obtain ⟨q0, p1, s1, p2, s2, p3, s3, p4, s4, p5, s5, -⟩ := hR9; exact te_ok.sm ⟨q0, p1, p2, p3, p4, p5, s1, s2, s3, s4, s5⟩ (k9.sm (by omega))
  have c12 : lr_ok S12 (mx_upP P12 x 2 (some (x + 272))) (x + 272) (x + 250) := by obtain ⟨q0, p1, s1, p2, s2, p3, s3, p4, s4, r0, -⟩ := hR12; exact lr_ok.sm ⟨q0, r0, p1, p2, p3, p4, s1, s2, s3, s4, by omega⟩ (kf.sm (by omega))
  have c4 := hla4.sm (k4.sm (by omega))
  have c5 := hR5.sm (k5.sm (by omega))
  have c6 := hR6.sm (k6.sm (by omega))
  have c7 := hR7.sm (k7.sm (by omega))
  have c8 := (pt_inv.ok hR8).sm (k8.sm (by omega))
  have c10 := hR10.sm e10
  have c11 : gx_ok S12 (mx_upP P12 x 2 (some (x + 272))) (x + 256) (x + 250) (x + 257) := ⟨(k11 (x + 256) (by omega) (by omega)).1.trans hg10, (congrFun (k11 (x + 256) (by omega) (by omega)).2.2 0).trans hg0, (congrFun (k11 (x + 256) (by omega) (by omega)).2.2 1).trans hg1, by omega, by omega⟩
  have cv : vh_ok S12 (mx_upP P12 x 2 (some (x + 272))) x := ⟨hx12, (by simp [mx_upP, hp12_0]), (by simp [mx_upP, hp12_1]), (by simp [mx_upP]), (by simp [mx_upP, hp12_3]), (by simp [mx_upP, hp12_4]), (by simp [mx_upP, hp12_5]), (by simp [mx_upP, hp12_7]), (by simp [mx_upP, hp12_8]), (by simp [mx_upP, hp12_9]), (by simp [mx_upP, hp12_10]), (by simp [mx_upP, hp12_11]), (by simp [mx_upP, hp12_12]), (k4 (x + 15) (by omega) (by omega)).1.trans hA15, (k4 (x + 16) (by omega) (by omega)).1.trans hA16, c8.1⟩
  have cz : I12 (x + 250) 1 = nI 0 ∧ I12 (x + 250) 2 = -1 ∧ ∀ k, I12 (x + 251) k = 0 := by obtain ⟨q0, p1, s1, p2, s2, p3, s3, p4, s4, p5, s5, z, i1, i2, -⟩ := hR9; exact ⟨(congrFun (k9 (x + 250) (by omega) (by omega)).2.1 1).trans i1, (congrFun (k9 (x + 250) (by omega) (by omega)).2.1 2).trans i2, fun k => (congrFun (k9 (x + 251) (by omega) (by omega)).2.1 k).trans (z 1 k (by omega) (by omega))⟩
  exact mx_vret d_Vh_init_173 rfl (mx_iR_i ⟨fun c hc => k0 c (by omega) (by omega), cv, hi12, c1, c2, c3, c4, c5, c6, c7, c8, (congrFun (k8 (x + 68) (by omega) (by omega)).2.1 1).trans hR8.2.2.2.2.1, (congrFun (k8 (x + 68) (by omega) (by omega)).2.1 2).trans hR8.2.2.2.2.2.1, c9, cz.1, cz.2.1, cz.2.2, c11, c10, c12⟩)
end BR86
