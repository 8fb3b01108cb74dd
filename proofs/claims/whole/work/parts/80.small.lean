/-! OBJECTS ARE MADE -/
/-- a constructor's end: the new top, and what R tells of the heap -/
def mx_iR (t2 : Nat) (J : mx_G) (R : mx_S → mx_I → mx_P → Prop) : mx_R → mx_H → Prop := fun r X => r = .inl none ∧ ∃ S I P, X = (t2, S, I, P, J) ∧ R S I P
theorem mx_iR_i {t2 : Nat} {S : mx_S} {I : mx_I} {P : mx_P} {J : mx_G} {R : mx_S → mx_I → mx_P → Prop} (h : R S I P) : mx_iR t2 J R (.inl none) (t2, S, I, P, J) := ⟨rfl, S, I, P, rfl, h⟩
/-- below a the heap is as it was -/
def mx_bel (a : Nat) (S S2 : mx_S) (I I2 : mx_I) (P P2 : mx_P) : Prop := ∀ c, c < a → S2 c = S c ∧ I2 c = I c ∧ P2 c = P c
section BL80
variable {l : Launch} {E : mx_Env} {t : Nat} {S S2 S3 : mx_S} {I I2 I3 : mx_I} {P P2 P3 : mx_P} {J : mx_G} {a b : Nat}
theorem mx_bel.rf : mx_bel a S S I I P P := fun _ _ => ⟨rfl, rfl, rfl⟩
theorem mx_bel.tr (h : mx_bel a S S2 I I2 P P2) (h2 : mx_bel b S2 S3 I2 I3 P2 P3) (hab : a ≤ b) : mx_bel a S S3 I I3 P P3 := fun c hc => ⟨(h2 c (by omega)).1.trans (h c hc).1, (h2 c (by omega)).2.1.trans (h c hc).2.1, (h2 c (by omega)).2.2.trans (h c hc).2.2⟩
theorem mx_bel.up {k : Nat} {v : Int32} (h : mx_bel a S S2 I I2 P P2) (hb : a ≤ b) : mx_bel a S S2 I (mx_up I2 b k v) P P2 := fun c hc => ⟨(h c hc).1, by rw [mx_up_ne (by omega)]; exact (h c hc).2.1, (h c hc).2.2⟩
theorem mx_bel.upP {k : Nat} {v : Option Nat} (h : mx_bel a S S2 I I2 P P2) (hb : a ≤ b) : mx_bel a S S2 I I2 P (mx_upP P2 b k v) := fun c hc => ⟨(h c hc).1, (h c hc).2.1, by rw [mx_upP_ne (by omega)]; exact (h c hc).2.2⟩
theorem mx_bel.nw {sh : mx_Sh} (h : mx_bel a S S2 I I2 P P2) (hb : a ≤ b) : mx_bel a S (mx_ups S2 b sh) I (mx_z I2 b) P P2 := fun c hc => ⟨by simp only [mx_ups]; rw [if_neg (by omega)]; exact (h c hc).1, by rw [mx_z_ne (by omega)]; exact (h c hc).2.1, (h c hc).2.2⟩
theorem mx_bel.nwo {sh : mx_Sh} (h : mx_bel a S S2 I I2 P P2) (hb : a ≤ b) : mx_bel a S (mx_ups S2 b sh) I (mx_z I2 b) P (mx_zP P2 b) := fun c hc => ⟨by simp only [mx_ups]; rw [if_neg (by omega)]; exact (h c hc).1, by rw [mx_z_ne (by omega)]; exact (h c hc).2.1, by rw [mx_zP_ne (by omega)]; exact (h c hc).2.2⟩
theorem c_Pa_init (hs : S a = some (0, 0))  : mx_C l E M_Pa_init 2 7 168 [.ref (a)] ((a + 1), S, I, P, J) (mx_iR (a + 8) J (fun S2 I2 P2 => mx_bel a S S2 I I2 P P2 ∧ S2 a = some (0, 0) ∧ P2 a 2 = some (a + 1) ∧ S2 (a + 1) = some (1, 64) ∧ P2 a 3 = some (a + 2) ∧ S2 (a + 2) = some (1, 64) ∧ P2 a 4 = some (a + 3) ∧ S2 (a + 3) = some (1, 8) ∧ P2 a 5 = some (a + 4) ∧ S2 (a + 4) = some (1, 8) ∧ P2 a 6 = some (a + 5) ∧ S2 (a + 5) = some (1, 8) ∧ P2 a 7 = some (a + 6) ∧ S2 (a + 6) = some (1, 8) ∧ P2 a 8 = some (a + 7) ∧ S2 (a + 7) = some (1, 8) ∧ (∀ j k, 1 ≤ j → j ≤ 7 → I2 (a + j) k = 0) ∧ (∀ k, I2 a k = I a k))) := by
  refine mx_C_of (ls0 := [some (.ref (a))]) (by decide +kernel) rfl rfl (Nat.le_of_ble_eq_true rfl) rfl ?_
  refine mx_al0 d_Pa_init_0 ?_
  refine mx_objInit d_Pa_init_1 oi_Pa_3 (by decide) (Nat.le_of_ble_eq_true rfl) ?_
  refine mx_al0 d_Pa_init_4 ?_
  refine mx_bip 64 d_Pa_init_5 (by decide) ?_
  refine mx_newI (N := 64) (k2 := 6) (n2 := 104) d_Pa_init_7 ac_int (nI_nn (by omega)) (nI_clamp (by omega)) (by omega) (by omega) (by omega) ?_
  have hs1 : (mx_ups S (a + 1) (1, 64)) a = some (0, 0) := by simp [mx_ups, hs]
  refine mx_putRF d_Pa_init_9 fl_Pa_9 rfl (fun q h => by cases h; rfl) (by assumption) rfl rfl ?_
  refine mx_al0 d_Pa_init_12 ?_
  refine mx_bip 64 d_Pa_init_13 (by decide) ?_
  refine mx_newI (N := 64) (k2 := 5) (n2 := 40) d_Pa_init_15 ac_int (nI_nn (by omega)) (nI_clamp (by omega)) (by omega) (by omega) (by omega) ?_
  have hs2 : (mx_ups (mx_ups S (a + 1) (1, 64)) (a + 2) (1, 64)) a = some (0, 0) := by simp [mx_ups, hs]
  refine mx_putRF d_Pa_init_17 fl_Pa_15 rfl (fun q h => by cases h; rfl) (by assumption) rfl rfl ?_
  refine mx_al0 d_Pa_init_20 ?_
  refine mx_bip 8 d_Pa_init_21 (by decide) ?_
  refine mx_newI (N := 8) (k2 := 4) (n2 := 32) d_Pa_init_23 ac_int (nI_nn (by omega)) (nI_clamp (by omega)) (by omega) (by omega) (by omega) ?_
  have hs3 : (mx_ups (mx_ups (mx_ups S (a + 1) (1, 64)) (a + 2) (1, 64)) (a + 3) (1, 8)) a = some (0, 0) := by simp [mx_ups, hs]
  refine mx_putRF d_Pa_init_25 fl_Pa_18 rfl (fun q h => by cases h; rfl) (by assumption) rfl rfl ?_
  refine mx_al0 d_Pa_init_28 ?_
  refine mx_bip 8 d_Pa_init_29 (by decide) ?_
  refine mx_newI (N := 8) (k2 := 3) (n2 := 24) d_Pa_init_31 ac_int (nI_nn (by omega)) (nI_clamp (by omega)) (by omega) (by omega) (by omega) ?_
  have hs4 : (mx_ups (mx_ups (mx_ups (mx_ups S (a + 1) (1, 64)) (a + 2) (1, 64)) (a + 3) (1, 8)) (a + 4) (1, 8)) a = some (0, 0) := by simp [mx_ups, hs]
  refine mx_putRF d_Pa_init_33 fl_Pa_21 rfl (fun q h => by cases h; rfl) (by assumption) rfl rfl ?_
  refine mx_al0 d_Pa_init_36 ?_
  refine mx_bip 8 d_Pa_init_37 (by decide) ?_
  refine mx_newI (N := 8) (k2 := 2) (n2 := 16) d_Pa_init_39 ac_int (nI_nn (by omega)) (nI_clamp (by omega)) (by omega) (by omega) (by omega) ?_
  have hs5 : (mx_ups (mx_ups (mx_ups (mx_ups (mx_ups S (a + 1) (1, 64)) (a + 2) (1, 64)) (a + 3) (1, 8)) (a + 4) (1, 8)) (a + 5) (1, 8)) a = some (0, 0) := by simp [mx_ups, hs]
  refine mx_putRF d_Pa_init_41 fl_Pa_24 rfl (fun q h => by cases h; rfl) (by assumption) rfl rfl ?_
  refine mx_al0 d_Pa_init_44 ?_
  refine mx_bip 8 d_Pa_init_45 (by decide) ?_
  refine mx_newI (N := 8) (k2 := 1) (n2 := 8) d_Pa_init_47 ac_int (nI_nn (by omega)) (nI_clamp (by omega)) (by omega) (by omega) (by omega) ?_
  have hs6 : (mx_ups (mx_ups (mx_ups (mx_ups (mx_ups (mx_ups S (a + 1) (1, 64)) (a + 2) (1, 64)) (a + 3) (1, 8)) (a + 4) (1, 8)) (a + 5) (1, 8)) (a + 6) (1, 8)) a = some (0, 0) := by simp [mx_ups, hs]
  refine mx_putRF d_Pa_init_49 fl_Pa_27 rfl (fun q h => by cases h; rfl) (by assumption) rfl rfl ?_
  refine mx_al0 d_Pa_init_52 ?_
  refine mx_bip 8 d_Pa_init_53 (by decide) ?_
  refine mx_newI (N := 8) (k2 := 0) (n2 := 0) d_Pa_init_55 ac_int (nI_nn (by omega)) (nI_clamp (by omega)) (by omega) (by omega) (by omega) ?_
  have hs7 : (mx_ups (mx_ups (mx_ups (mx_ups (mx_ups (mx_ups (mx_ups S (a + 1) (1, 64)) (a + 2) (1, 64)) (a + 3) (1, 8)) (a + 4) (1, 8)) (a + 5) (1, 8)) (a + 6) (1, 8)) (a + 7) (1, 8)) a = some (0, 0) := by simp [mx_ups, hs]
  refine mx_putRF d_Pa_init_57 fl_Pa_30 rfl (fun q h => by cases h; rfl) (by assumption) rfl rfl ?_
  exact mx_vret d_Pa_init_60 rfl (mx_iR_i ⟨((((((((((((((mx_bel.rf).nw (b := a + 1) (by omega)).upP (b := a) (by omega)).nw (b := a + 2) (by omega)).upP (b := a) (by omega)).nw (b := a + 3) (by omega)).upP (b := a) (by omega)).nw (b := a + 4) (by omega)).upP (b := a) (by omega)).nw (b := a + 5) (by omega)).upP (b := a) (by omega)).nw (b := a + 6) (by omega)).upP (b := a) (by omega)).nw (b := a + 7) (by omega)).upP (b := a) (by omega), (by simp [mx_ups, mx_upP, mx_up, mx_z, hs, Nat.add_assoc]), (by simp [mx_ups, mx_upP, mx_up, mx_z, hs, Nat.add_assoc]), (by simp [mx_ups, mx_upP, mx_up, mx_z, hs, Nat.add_assoc]), (by simp [mx_ups, mx_upP, mx_up, mx_z, hs, Nat.add_assoc]), (by simp [mx_ups, mx_upP, mx_up, mx_z, hs, Nat.add_assoc]), (by simp [mx_ups, mx_upP, mx_up, mx_z, hs, Nat.add_assoc]), (by simp [mx_ups, mx_upP, mx_up, mx_z, hs, Nat.add_assoc]), (by simp [mx_ups, mx_upP, mx_up, mx_z, hs, Nat.add_assoc]), (by simp [mx_ups, mx_upP, mx_up, mx_z, hs, Nat.add_assoc]), (by simp [mx_ups, mx_upP, mx_up, mx_z, hs, Nat.add_assoc]), (by simp [mx_ups, mx_upP, mx_up, mx_z, hs, Nat.add_assoc]), (by simp [mx_ups, mx_upP, mx_up, mx_z, hs, Nat.add_assoc]), (by simp [mx_ups, mx_upP, mx_up, mx_z, hs, Nat.add_assoc]), (by simp [mx_ups, mx_upP, mx_up, mx_z, hs, Nat.add_assoc]), (by simp [mx_ups, mx_upP, mx_up, mx_z, hs, Nat.add_assoc]), (fun j k h1 h2 => by rcases (show j = 1 ∨ j = 2 ∨ j = 3 ∨ j = 4 ∨ j = 5 ∨ j = 6 ∨ j = 7 by omega) with rfl | rfl | rfl | rfl | rfl | rfl | rfl <;> simp [mx_up, mx_z, Nat.add_assoc]), (fun k  => by simp [mx_up, mx_z, Nat.add_assoc])⟩)
theorem c_Ma_init (hs : S a = some (0, 1))  : mx_C l E M_Ma_init 2 2 2368 [.ref (a)] ((a + 1), S, I, P, J) (mx_iR (a + 3) J (fun S2 I2 P2 => mx_bel a S S2 I I2 P P2 ∧ S2 a = some (0, 1) ∧ P2 a 2 = some (a + 1) ∧ S2 (a + 1) = some (1, 64) ∧ P2 a 3 = some (a + 2) ∧ S2 (a + 2) = some (1, 2304) ∧ (∀ j k, 1 ≤ j → j ≤ 2 → I2 (a + j) k = 0) ∧ (∀ k, I2 a k = I a k))) := by
  refine mx_C_of (ls0 := [some (.ref (a))]) (by decide +kernel) rfl rfl (Nat.le_of_ble_eq_true rfl) rfl ?_
  refine mx_al0 d_Ma_init_0 ?_
  refine mx_objInit d_Ma_init_1 oi_Ma_3 (by decide) (Nat.le_of_ble_eq_true rfl) ?_
  refine mx_al0 d_Ma_init_4 ?_
  refine mx_bip 64 d_Ma_init_5 (by decide) ?_
  refine mx_newI (N := 64) (k2 := 1) (n2 := 2304) d_Ma_init_7 ac_int (nI_nn (by omega)) (nI_clamp (by omega)) (by omega) (by omega) (by omega) ?_
  have hs1 : (mx_ups S (a + 1) (1, 64)) a = some (0, 1) := by simp [mx_ups, hs]
  refine mx_putRF d_Ma_init_9 fl_Ma_9 rfl (fun q h => by cases h; rfl) (by assumption) rfl rfl ?_
  refine mx_al0 d_Ma_init_12 ?_
  refine mx_sip 2304 d_Ma_init_13 (by decide) ?_
  refine mx_newI (N := 2304) (k2 := 0) (n2 := 0) d_Ma_init_16 ac_int (nI_nn (by omega)) (nI_clamp (by omega)) (by omega) (by omega) (by omega) ?_
  have hs2 : (mx_ups (mx_ups S (a + 1) (1, 64)) (a + 2) (1, 2304)) a = some (0, 1) := by simp [mx_ups, hs]
  refine mx_putRF d_Ma_init_18 fl_Ma_15 rfl (fun q h => by cases h; rfl) (by assumption) rfl rfl ?_
  exact mx_vret d_Ma_init_21 rfl (mx_iR_i ⟨((((mx_bel.rf).nw (b := a + 1) (by omega)).upP (b := a) (by omega)).nw (b := a + 2) (by omega)).upP (b := a) (by omega), (by simp [mx_ups, mx_upP, mx_up, mx_z, hs, Nat.add_assoc]), (by simp [mx_ups, mx_upP, mx_up, mx_z, hs, Nat.add_assoc]), (by simp [mx_ups, mx_upP, mx_up, mx_z, hs, Nat.add_assoc]), (by simp [mx_ups, mx_upP, mx_up, mx_z, hs, Nat.add_assoc]), (by simp [mx_ups, mx_upP, mx_up, mx_z, hs, Nat.add_assoc]), (fun j k h1 h2 => by rcases (show j = 1 ∨ j = 2 by omega) with rfl | rfl <;> simp [mx_up, mx_z, Nat.add_assoc]), (fun k  => by simp [mx_up, mx_z, Nat.add_assoc])⟩)
theorem c_Ga_init (hs : S a = some (0, 2))  : mx_C l E M_Ga_init 2 2 1458 [.ref (a)] ((a + 1), S, I, P, J) (mx_iR (a + 3) J (fun S2 I2 P2 => mx_bel a S S2 I I2 P P2 ∧ S2 a = some (0, 2) ∧ P2 a 1 = some (a + 1) ∧ S2 (a + 1) = some (1, 729) ∧ P2 a 2 = some (a + 2) ∧ S2 (a + 2) = some (1, 729) ∧ (∀ j k, 1 ≤ j → j ≤ 2 → I2 (a + j) k = 0) ∧ I2 a 0 = nI 0 ∧ (∀ k, k ≠ 0 → I2 a k = I a k))) := by
  refine mx_C_of (ls0 := [some (.ref (a))]) (by decide +kernel) rfl rfl (Nat.le_of_ble_eq_true rfl) rfl ?_
  refine mx_al0 d_Ga_init_0 ?_
  refine mx_objInit d_Ga_init_1 oi_Ga_3 (by decide) (Nat.le_of_ble_eq_true rfl) ?_
  refine mx_al0 d_Ga_init_4 ?_
  refine mx_in_0 d_Ga_init_5 ?_
  refine mx_putI d_Ga_init_6 fl_Ga_9 (by assumption) ?_
  refine mx_al0 d_Ga_init_9 ?_
  refine mx_sip 729 d_Ga_init_10 (by decide) ?_
  refine mx_newI (N := 729) (k2 := 1) (n2 := 729) d_Ga_init_13 ac_int (nI_nn (by omega)) (nI_clamp (by omega)) (by omega) (by omega) (by omega) ?_
  have hs1 : (mx_ups S (a + 1) (1, 729)) a = some (0, 2) := by simp [mx_ups, hs]
  refine mx_putRF d_Ga_init_15 fl_Ga_15 rfl (fun q h => by cases h; rfl) (by assumption) rfl rfl ?_
  refine mx_al0 d_Ga_init_18 ?_
  refine mx_sip 729 d_Ga_init_19 (by decide) ?_
  refine mx_newI (N := 729) (k2 := 0) (n2 := 0) d_Ga_init_22 ac_int (nI_nn (by omega)) (nI_clamp (by omega)) (by omega) (by omega) (by omega) ?_
  have hs2 : (mx_ups (mx_ups S (a + 1) (1, 729)) (a + 2) (1, 729)) a = some (0, 2) := by simp [mx_ups, hs]
  refine mx_putRF d_Ga_init_24 fl_Ga_19 rfl (fun q h => by cases h; rfl) (by assumption) rfl rfl ?_
  exact mx_vret d_Ga_init_27 rfl (mx_iR_i ⟨(((((mx_bel.rf).up (b := a) (by omega)).nw (b := a + 1) (by omega)).upP (b := a) (by omega)).nw (b := a + 2) (by omega)).upP (b := a) (by omega), (by simp [mx_ups, mx_upP, mx_up, mx_z, hs, Nat.add_assoc]), (by simp [mx_ups, mx_upP, mx_up, mx_z, hs, Nat.add_assoc]), (by simp [mx_ups, mx_upP, mx_up, mx_z, hs, Nat.add_assoc]), (by simp [mx_ups, mx_upP, mx_up, mx_z, hs, Nat.add_assoc]), (by simp [mx_ups, mx_upP, mx_up, mx_z, hs, Nat.add_assoc]), (fun j k h1 h2 => by rcases (show j = 1 ∨ j = 2 by omega) with rfl | rfl <;> simp [mx_up, mx_z, Nat.add_assoc]), (by simp [mx_ups, mx_upP, mx_up, mx_z, hs, Nat.add_assoc]), (fun k h0 => by simp [mx_up, mx_z, Nat.add_assoc, h0])⟩)
theorem c_Lo_init (hs : S a = some (0, 5))  : mx_C l E M_Lo_init 2 1 360 [.ref (a)] ((a + 1), S, I, P, J) (mx_iR (a + 2) J (fun S2 I2 P2 => mx_bel a S S2 I I2 P P2 ∧ S2 a = some (0, 5) ∧ P2 a 2 = some (a + 1) ∧ S2 (a + 1) = some (1, 360) ∧ (∀ j k, 1 ≤ j → j ≤ 1 → I2 (a + j) k = 0) ∧ I2 a 0 = nI 0 ∧ I2 a 1 = nI 0 ∧ (∀ k, k ≠ 0 → k ≠ 1 → I2 a k = I a k))) := by
  refine mx_C_of (ls0 := [some (.ref (a))]) (by decide +kernel) rfl rfl (Nat.le_of_ble_eq_true rfl) rfl ?_
  refine mx_al0 d_Lo_init_0 ?_
  refine mx_objInit d_Lo_init_1 oi_Lo_3 (by decide) (Nat.le_of_ble_eq_true rfl) ?_
  refine mx_al0 d_Lo_init_4 ?_
  refine mx_in_0 d_Lo_init_5 ?_
  refine mx_putI d_Lo_init_6 fl_Lo_9 (by assumption) ?_
  refine mx_al0 d_Lo_init_9 ?_
  refine mx_in_0 d_Lo_init_10 ?_
  refine mx_putI d_Lo_init_11 fl_Lo_15 (by assumption) ?_
  refine mx_al0 d_Lo_init_14 ?_
  refine mx_sip 360 d_Lo_init_15 (by decide) ?_
  refine mx_newI (N := 360) (k2 := 0) (n2 := 0) d_Lo_init_18 ac_int (nI_nn (by omega)) (nI_clamp (by omega)) (by omega) (by omega) (by omega) ?_
  have hs1 : (mx_ups S (a + 1) (1, 360)) a = some (0, 5) := by simp [mx_ups, hs]
  refine mx_putRF d_Lo_init_20 fl_Lo_18 rfl (fun q h => by cases h; rfl) (by assumption) rfl rfl ?_
  exact mx_vret d_Lo_init_23 rfl (mx_iR_i ⟨((((mx_bel.rf).up (b := a) (by omega)).up (b := a) (by omega)).nw (b := a + 1) (by omega)).upP (b := a) (by omega), (by simp [mx_ups, mx_upP, mx_up, mx_z, hs, Nat.add_assoc]), (by simp [mx_ups, mx_upP, mx_up, mx_z, hs, Nat.add_assoc]), (by simp [mx_ups, mx_upP, mx_up, mx_z, hs, Nat.add_assoc]), (fun j k h1 h2 => by rcases (show j = 1 by omega) with rfl <;> simp [mx_up, mx_z, Nat.add_assoc]), (by simp [mx_ups, mx_upP, mx_up, mx_z, hs, Nat.add_assoc]), (by simp [mx_ups, mx_upP, mx_up, mx_z, hs, Nat.add_assoc]), (fun k h0 h1 => by simp [mx_up, mx_z, Nat.add_assoc, h0, h1])⟩)
theorem c_Te_init (hs : S a = some (0, 8))  : mx_C l E M_Te_init 2 5 2004 [.ref (a)] ((a + 1), S, I, P, J) (mx_iR (a + 6) J (fun S2 I2 P2 => mx_bel a S S2 I I2 P P2 ∧ S2 a = some (0, 8) ∧ P2 a 0 = some (a + 1) ∧ S2 (a + 1) = some (1, 400) ∧ P2 a 3 = some (a + 2) ∧ S2 (a + 2) = some (1, 401) ∧ P2 a 4 = some (a + 3) ∧ S2 (a + 3) = some (1, 401) ∧ P2 a 5 = some (a + 4) ∧ S2 (a + 4) = some (1, 401) ∧ P2 a 6 = some (a + 5) ∧ S2 (a + 5) = some (1, 401) ∧ (∀ j k, 1 ≤ j → j ≤ 5 → I2 (a + j) k = 0) ∧ I2 a 1 = nI 0 ∧ I2 a 2 = -1 ∧ (∀ k, k ≠ 1 → k ≠ 2 → I2 a k = I a k))) := by
  refine mx_C_of (ls0 := [some (.ref (a))]) (by decide +kernel) rfl rfl (Nat.le_of_ble_eq_true rfl) rfl ?_
  refine mx_al0 d_Te_init_0 ?_
  refine mx_objInit d_Te_init_1 oi_Te_3 (by decide) (Nat.le_of_ble_eq_true rfl) ?_
  refine mx_al0 d_Te_init_4 ?_
  refine mx_sip 400 d_Te_init_5 (by decide) ?_
  refine mx_newI (N := 400) (k2 := 4) (n2 := 1604) d_Te_init_8 ac_int (nI_nn (by omega)) (nI_clamp (by omega)) (by omega) (by omega) (by omega) ?_
  have hs1 : (mx_ups S (a + 1) (1, 400)) a = some (0, 8) := by simp [mx_ups, hs]
  refine mx_putRF d_Te_init_10 fl_Te_9 rfl (fun q h => by cases h; rfl) (by assumption) rfl rfl ?_
  refine mx_al0 d_Te_init_13 ?_
  refine mx_in_0 d_Te_init_14 ?_
  refine mx_putI d_Te_init_15 fl_Te_15 (by assumption) ?_
  refine mx_al0 d_Te_init_18 ?_
  refine mx_ic_m1 d_Te_init_19 ?_
  refine mx_putI d_Te_init_20 fl_Te_19 (by assumption) ?_
  refine mx_al0 d_Te_init_23 ?_
  refine mx_sip 401 d_Te_init_24 (by decide) ?_
  refine mx_newI (N := 401) (k2 := 3) (n2 := 1203) d_Te_init_27 ac_int (nI_nn (by omega)) (nI_clamp (by omega)) (by omega) (by omega) (by omega) ?_
  have hs2 : (mx_ups (mx_ups S (a + 1) (1, 400)) (a + 2) (1, 401)) a = some (0, 8) := by simp [mx_ups, hs]
  refine mx_putRF d_Te_init_29 fl_Te_22 rfl (fun q h => by cases h; rfl) (by assumption) rfl rfl ?_
  refine mx_al0 d_Te_init_32 ?_
  refine mx_sip 401 d_Te_init_33 (by decide) ?_
  refine mx_newI (N := 401) (k2 := 2) (n2 := 802) d_Te_init_36 ac_int (nI_nn (by omega)) (nI_clamp (by omega)) (by omega) (by omega) (by omega) ?_
  have hs3 : (mx_ups (mx_ups (mx_ups S (a + 1) (1, 400)) (a + 2) (1, 401)) (a + 3) (1, 401)) a = some (0, 8) := by simp [mx_ups, hs]
  refine mx_putRF d_Te_init_38 fl_Te_25 rfl (fun q h => by cases h; rfl) (by assumption) rfl rfl ?_
  refine mx_al0 d_Te_init_41 ?_
  refine mx_sip 401 d_Te_init_42 (by decide) ?_
  refine mx_newI (N := 401) (k2 := 1) (n2 := 401) d_Te_init_45 ac_int (nI_nn (by omega)) (nI_clamp (by omega)) (by omega) (by omega) (by omega) ?_
  have hs4 : (mx_ups (mx_ups (mx_ups (mx_ups S (a + 1) (1, 400)) (a + 2) (1, 401)) (a + 3) (1, 401)) (a + 4) (1, 401)) a = some (0, 8) := by simp [mx_ups, hs]
  refine mx_putRF d_Te_init_47 fl_Te_28 rfl (fun q h => by cases h; rfl) (by assumption) rfl rfl ?_
  refine mx_al0 d_Te_init_50 ?_
  refine mx_sip 401 d_Te_init_51 (by decide) ?_
  refine mx_newI (N := 401) (k2 := 0) (n2 := 0) d_Te_init_54 ac_int (nI_nn (by omega)) (nI_clamp (by omega)) (by omega) (by omega) (by omega) ?_
  have hs5 : (mx_ups (mx_ups (mx_ups (mx_ups (mx_ups S (a + 1) (1, 400)) (a + 2) (1, 401)) (a + 3) (1, 401)) (a + 4) (1, 401)) (a + 5) (1, 401)) a = some (0, 8) := by simp [mx_ups, hs]
  refine mx_putRF d_Te_init_56 fl_Te_31 rfl (fun q h => by cases h; rfl) (by assumption) rfl rfl ?_
  exact mx_vret d_Te_init_59 rfl (mx_iR_i ⟨((((((((((((mx_bel.rf).nw (b := a + 1) (by omega)).upP (b := a) (by omega)).up (b := a) (by omega)).up (b := a) (by omega)).nw (b := a + 2) (by omega)).upP (b := a) (by omega)).nw (b := a + 3) (by omega)).upP (b := a) (by omega)).nw (b := a + 4) (by omega)).upP (b := a) (by omega)).nw (b := a + 5) (by omega)).upP (b := a) (by omega), (by simp [mx_ups, mx_upP, mx_up, mx_z, hs, Nat.add_assoc]), (by simp [mx_ups, mx_upP, mx_up, mx_z, hs, Nat.add_assoc]), (by simp [mx_ups, mx_upP, mx_up, mx_z, hs, Nat.add_assoc]), (by simp [mx_ups, mx_upP, mx_up, mx_z, hs, Nat.add_assoc]), (by simp [mx_ups, mx_upP, mx_up, mx_z, hs, Nat.add_assoc]), (by simp [mx_ups, mx_upP, mx_up, mx_z, hs, Nat.add_assoc]), (by simp [mx_ups, mx_upP, mx_up, mx_z, hs, Nat.add_assoc]), (by simp [mx_ups, mx_upP, mx_up, mx_z, hs, Nat.add_assoc]), (by simp [mx_ups, mx_upP, mx_up, mx_z, hs, Nat.add_assoc]), (by simp [mx_ups, mx_upP, mx_up, mx_z, hs, Nat.add_assoc]), (by simp [mx_ups, mx_upP, mx_up, mx_z, hs, Nat.add_assoc]), (fun j k h1 h2 => by rcases (show j = 1 ∨ j = 2 ∨ j = 3 ∨ j = 4 ∨ j = 5 by omega) with rfl | rfl | rfl | rfl | rfl <;> simp [mx_up, mx_z, Nat.add_assoc]), (by simp [mx_ups, mx_upP, mx_up, mx_z, hs, Nat.add_assoc]), (by simp [mx_ups, mx_upP, mx_up, mx_z, hs, Nat.add_assoc]), (fun k h0 h1 => by simp [mx_up, mx_z, Nat.add_assoc, h0, h1])⟩)
theorem c_Gr_init {r1 r2 : Nat} (hs : S a = some (0, 9))  : mx_C l E M_Gr_init 2 0 0 [.ref (a), .ref (r1), .ref (r2)] ((a + 1), S, I, P, J) (mx_iR (a + 1) J (fun S2 I2 P2 => mx_bel a S S2 I I2 P P2 ∧ S2 a = some (0, 9) ∧ P2 a 0 = some r1 ∧ P2 a 1 = some r2 ∧ (∀ k, I2 a k = I a k))) := by
  refine mx_C_of (ls0 := [some (.ref (a)), some (.ref (r1)), some (.ref (r2))]) (by decide +kernel) rfl rfl (Nat.le_of_ble_eq_true rfl) rfl ?_
  refine mx_al0 d_Gr_init_0 ?_
  refine mx_objInit d_Gr_init_1 oi_Gr_3 (by decide) (Nat.le_of_ble_eq_true rfl) ?_
  refine mx_al0 d_Gr_init_4 ?_
  refine mx_al1 d_Gr_init_5 ?_
  refine mx_putRF d_Gr_init_6 fl_Gr_9 rfl (fun q h => by cases h; rfl) (by assumption) rfl rfl ?_
  refine mx_al0 d_Gr_init_9 ?_
  refine mx_al2 d_Gr_init_10 ?_
  refine mx_putRF d_Gr_init_11 fl_Gr_15 rfl (fun q h => by cases h; rfl) (by assumption) rfl rfl ?_
  exact mx_vret d_Gr_init_14 rfl (mx_iR_i ⟨((mx_bel.rf).upP (b := a) (by omega)).upP (b := a) (by omega), (by simp [mx_ups, mx_upP, mx_up, mx_z, hs, Nat.add_assoc]), (by simp [mx_ups, mx_upP, mx_up, mx_z, hs, Nat.add_assoc]), (by simp [mx_ups, mx_upP, mx_up, mx_z, hs, Nat.add_assoc]), (fun k  => by simp [mx_up, mx_z, Nat.add_assoc])⟩)
theorem c_Lr_init {r1 : Nat} (hs : S a = some (0, 10))  : mx_C l E M_Lr_init 2 4 436 [.ref (a), .ref (r1)] ((a + 1), S, I, P, J) (mx_iR (a + 5) J (fun S2 I2 P2 => mx_bel a S S2 I I2 P P2 ∧ S2 a = some (0, 10) ∧ P2 a 2 = some (a + 1) ∧ S2 (a + 1) = some (1, 12) ∧ P2 a 3 = some (a + 2) ∧ S2 (a + 2) = some (1, 12) ∧ P2 a 4 = some (a + 3) ∧ S2 (a + 3) = some (1, 12) ∧ P2 a 5 = some (a + 4) ∧ S2 (a + 4) = some (1, 400) ∧ P2 a 0 = some r1 ∧ (∀ j k, 1 ≤ j → j ≤ 4 → I2 (a + j) k = 0) ∧ (∀ k, I2 a k = I a k))) := by
  refine mx_C_of (ls0 := [some (.ref (a)), some (.ref (r1))]) (by decide +kernel) rfl rfl (Nat.le_of_ble_eq_true rfl) rfl ?_
  refine mx_al0 d_Lr_init_0 ?_
  refine mx_objInit d_Lr_init_1 oi_Lr_3 (by decide) (Nat.le_of_ble_eq_true rfl) ?_
  refine mx_al0 d_Lr_init_4 ?_
  refine mx_bip 12 d_Lr_init_5 (by decide) ?_
  refine mx_newI (N := 12) (k2 := 3) (n2 := 424) d_Lr_init_7 ac_int (nI_nn (by omega)) (nI_clamp (by omega)) (by omega) (by omega) (by omega) ?_
  have hs1 : (mx_ups S (a + 1) (1, 12)) a = some (0, 10) := by simp [mx_ups, hs]
  refine mx_putRF d_Lr_init_9 fl_Lr_9 rfl (fun q h => by cases h; rfl) (by assumption) rfl rfl ?_
  refine mx_al0 d_Lr_init_12 ?_
  refine mx_bip 12 d_Lr_init_13 (by decide) ?_
  refine mx_newI (N := 12) (k2 := 2) (n2 := 412) d_Lr_init_15 ac_int (nI_nn (by omega)) (nI_clamp (by omega)) (by omega) (by omega) (by omega) ?_
  have hs2 : (mx_ups (mx_ups S (a + 1) (1, 12)) (a + 2) (1, 12)) a = some (0, 10) := by simp [mx_ups, hs]
  refine mx_putRF d_Lr_init_17 fl_Lr_15 rfl (fun q h => by cases h; rfl) (by assumption) rfl rfl ?_
  refine mx_al0 d_Lr_init_20 ?_
  refine mx_bip 12 d_Lr_init_21 (by decide) ?_
  refine mx_newI (N := 12) (k2 := 1) (n2 := 400) d_Lr_init_23 ac_int (nI_nn (by omega)) (nI_clamp (by omega)) (by omega) (by omega) (by omega) ?_
  have hs3 : (mx_ups (mx_ups (mx_ups S (a + 1) (1, 12)) (a + 2) (1, 12)) (a + 3) (1, 12)) a = some (0, 10) := by simp [mx_ups, hs]
  refine mx_putRF d_Lr_init_25 fl_Lr_18 rfl (fun q h => by cases h; rfl) (by assumption) rfl rfl ?_
  refine mx_al0 d_Lr_init_28 ?_
  refine mx_sip 400 d_Lr_init_29 (by decide) ?_
  refine mx_newI (N := 400) (k2 := 0) (n2 := 0) d_Lr_init_32 ac_int (nI_nn (by omega)) (nI_clamp (by omega)) (by omega) (by omega) (by omega) ?_
  have hs4 : (mx_ups (mx_ups (mx_ups (mx_ups S (a + 1) (1, 12)) (a + 2) (1, 12)) (a + 3) (1, 12)) (a + 4) (1, 400)) a = some (0, 10) := by simp [mx_ups, hs]
  refine mx_putRF d_Lr_init_34 fl_Lr_21 rfl (fun q h => by cases h; rfl) (by assumption) rfl rfl ?_
  refine mx_al0 d_Lr_init_37 ?_
  refine mx_al1 d_Lr_init_38 ?_
  refine mx_putRF d_Lr_init_39 fl_Lr_24 rfl (fun q h => by cases h; rfl) (by assumption) rfl rfl ?_
  exact mx_vret d_Lr_init_42 rfl (mx_iR_i ⟨(((((((((mx_bel.rf).nw (b := a + 1) (by omega)).upP (b := a) (by omega)).nw (b := a + 2) (by omega)).upP (b := a) (by omega)).nw (b := a + 3) (by omega)).upP (b := a) (by omega)).nw (b := a + 4) (by omega)).upP (b := a) (by omega)).upP (b := a) (by omega), (by simp [mx_ups, mx_upP, mx_up, mx_z, hs, Nat.add_assoc]), (by simp [mx_ups, mx_upP, mx_up, mx_z, hs, Nat.add_assoc]), (by simp [mx_ups, mx_upP, mx_up, mx_z, hs, Nat.add_assoc]), (by simp [mx_ups, mx_upP, mx_up, mx_z, hs, Nat.add_assoc]), (by simp [mx_ups, mx_upP, mx_up, mx_z, hs, Nat.add_assoc]), (by simp [mx_ups, mx_upP, mx_up, mx_z, hs, Nat.add_assoc]), (by simp [mx_ups, mx_upP, mx_up, mx_z, hs, Nat.add_assoc]), (by simp [mx_ups, mx_upP, mx_up, mx_z, hs, Nat.add_assoc]), (by simp [mx_ups, mx_upP, mx_up, mx_z, hs, Nat.add_assoc]), (by simp [mx_ups, mx_upP, mx_up, mx_z, hs, Nat.add_assoc]), (fun j k h1 h2 => by rcases (show j = 1 ∨ j = 2 ∨ j = 3 ∨ j = 4 by omega) with rfl | rfl | rfl | rfl <;> simp [mx_up, mx_z, Nat.add_assoc]), (fun k  => by simp [mx_up, mx_z, Nat.add_assoc])⟩)
end BL80
