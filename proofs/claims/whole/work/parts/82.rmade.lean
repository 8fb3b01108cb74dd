/-! THE REFERENCE IS MADE -/
section BN82
variable {l : Launch} {E : mx_Env} {t : Nat} {S : mx_S} {I K : mx_I} {P : mx_P} {J : mx_G} {mo k : Nat}
/-- the row of a new object, ranks and bookings written up to j -/
def m0_up (j : Nat) : Nat → Int32 := fun k => if k = 1 then -1 else if k = 10 then nI 1 else if 67 ≤ k ∧ k < 67 + j then nI 5 else if 131 ≤ k ∧ k < 131 + j then nI 5 else if 195 ≤ k ∧ k < 195 + j then -1 else 0
def m0_lo (I K : mx_I) (mo j : Nat) : Prop := (∀ c, c ≠ mo + 1 → K c = I c) ∧ ∀ k, K (mo + 1) k = m0_up j k
theorem m0_s {j : Nat} (hj : j < 64) {k : Nat} : updI (updI (updI (m0_up j) (67 + j) (nI 5)) (131 + j) (nI 5)) (195 + j) (-1) k = m0_up (j + 1) k := by
  unfold updI m0_up

  by_cases c1 : k = 195 + j
  · rw [if_pos c1, if_neg (by omega), if_neg (by omega), if_neg (by omega), if_neg (by omega), if_pos (by omega)]
  · rw [if_neg c1]
    by_cases c2 : k = 131 + j
    · rw [if_pos c2, if_neg (by omega), if_neg (by omega), if_neg (by omega), if_pos (by omega)]
    · rw [if_neg c2]
      by_cases c3 : k = 67 + j
      · rw [if_pos c3, if_neg (by omega), if_neg (by omega), if_pos (by omega)]
      · rw [if_neg c3]
        by_cases d1 : k = 1
        · rw [if_pos d1, if_pos d1]
        · rw [if_neg d1, if_neg d1]
          by_cases d2 : k = 10
          · rw [if_pos d2, if_pos d2]
          · rw [if_neg d2, if_neg d2]
            by_cases d3 : 67 ≤ k ∧ k < 67 + j
            · rw [if_pos d3, if_pos (by omega)]
            · rw [if_neg d3, if_neg (show ¬ (67 ≤ k ∧ k < 67 + (j + 1)) by omega)]
              by_cases d4 : 131 ≤ k ∧ k < 131 + j
              · rw [if_pos d4, if_pos (by omega)]
              · rw [if_neg d4, if_neg (show ¬ (131 ≤ k ∧ k < 131 + (j + 1)) by omega)]
                by_cases d5 : 195 ≤ k ∧ k < 195 + j
                · rw [if_pos d5, if_pos (by omega)]
                · rw [if_neg d5, if_neg (show ¬ (195 ≤ k ∧ k < 195 + (j + 1)) by omega)]
theorem m0_lo.st {j : Nat} (h : m0_lo I K mo j) (hj : j < 64) : m0_lo I (mx_up (mx_up (mx_up K (mo + 1) (67 + j) (nI 5)) (mo + 1) (131 + j) (nI 5)) (mo + 1) (195 + j) (-1)) mo (j + 1) := by
  refine ⟨fun c hc => by rw [mx_up_ne hc, mx_up_ne hc, mx_up_ne hc]; exact h.1 c hc, fun k => ?_⟩
  rw [mu_row, mu_row, mu_row, show K (mo + 1) = m0_up j from funext h.2]
  exact m0_s hj
theorem m0_lo.z {I1 : mx_I} (h : ∀ k, I1 (mo + 1) k = 0) : m0_lo I1 (mx_up (mx_up I1 (mo + 1) 1 (-1)) (mo + 1) 10 (nI 1)) mo 0 := by
  refine ⟨fun c hc => by rw [mx_up_ne hc, mx_up_ne hc], fun k => ?_⟩
  rw [mu_row, mu_row]
  unfold updI m0_up

  by_cases d1 : k = 1
  · rw [if_neg (by omega), if_pos d1, if_pos d1]
  · by_cases d2 : k = 10
    · rw [if_pos d2, if_neg d1, if_pos d2]
    · rw [if_neg d2, if_neg d1, if_neg d1, if_neg d2, if_neg (by omega), if_neg (by omega), if_neg (by omega)]; exact h k
/-- the reference as it is made -/
def mo_new (S2 : mx_S) (I2 : mx_I) (P2 : mx_P) (mo : Nat) : Prop := mo_ok S2 P2 mo ∧ I2 mo 12 = -1 ∧ I2 (mo + 1) = m0_up 64 ∧ ∀ j k, 2 ≤ j → j ≤ 13 → I2 (mo + j) k = 0
theorem c_Mo_init (hs : S mo = some (0, 12))  : mx_C l E M_Mo_init 2 13 19476 [.ref (mo)] ((mo + 1), S, I, P, J) (mx_iR (mo + 14) J (fun S2 I2 P2 => mx_bel mo S S2 I I2 P P2 ∧ (∀ k, k ≠ 12 → I2 mo k = I mo k) ∧ mo_new S2 I2 P2 mo)) := by
  refine mx_C_of (ls0 := [some (.ref (mo)), none]) (by decide +kernel) rfl rfl (Nat.le_of_ble_eq_true rfl) rfl ?_
  refine mx_al0 d_Mo_init_0 ?_
  refine mx_objInit d_Mo_init_1 oi_Mo_1 (by decide) (Nat.le_of_ble_eq_true rfl) ?_
  refine mx_al0 d_Mo_init_4 ?_
  refine mx_sip 1019 d_Mo_init_5 (by decide) ?_
  refine mx_newI (N := 1019) (k2 := 12) (n2 := 18457) d_Mo_init_8 ac_int (nI_nn (by omega)) (nI_clamp (by omega)) (by omega) (by omega) (by omega) ?_
  have hs1 : (mx_ups S (mo + 1) (1, 1019)) mo = some (0, 12) := by simp [mx_ups, hs, Nat.add_assoc]
  refine mx_putRF d_Mo_init_10 fl_Mo_7 rfl (fun q h => by cases h; rfl) (by assumption) rfl rfl ?_
  refine mx_al0 d_Mo_init_13 ?_
  refine mx_sip 1019 d_Mo_init_14 (by decide) ?_
  refine mx_newI (N := 1019) (k2 := 11) (n2 := 17438) d_Mo_init_17 ac_int (nI_nn (by omega)) (nI_clamp (by omega)) (by omega) (by omega) (by omega) ?_
  have hs2 : (mx_ups (mx_ups S (mo + 1) (1, 1019)) (mo + 2) (1, 1019)) mo = some (0, 12) := by simp [mx_ups, hs, Nat.add_assoc]
  refine mx_putRF d_Mo_init_19 fl_Mo_13 rfl (fun q h => by cases h; rfl) (by assumption) rfl rfl ?_
  refine mx_al0 d_Mo_init_22 ?_
  refine mx_sip 619 d_Mo_init_23 (by decide) ?_
  refine mx_newI (N := 619) (k2 := 10) (n2 := 16819) d_Mo_init_26 ac_int (nI_nn (by omega)) (nI_clamp (by omega)) (by omega) (by omega) (by omega) ?_
  have hs3 : (mx_ups (mx_ups (mx_ups S (mo + 1) (1, 1019)) (mo + 2) (1, 1019)) (mo + 3) (1, 619)) mo = some (0, 12) := by simp [mx_ups, hs, Nat.add_assoc]
  refine mx_putRF d_Mo_init_28 fl_Mo_16 rfl (fun q h => by cases h; rfl) (by assumption) rfl rfl ?_
  refine mx_al0 d_Mo_init_31 ?_
  refine mx_sip 7428 d_Mo_init_32 (by decide) ?_
  refine mx_newI (N := 7428) (k2 := 9) (n2 := 9391) d_Mo_init_35 ac_int (nI_nn (by omega)) (nI_clamp (by omega)) (by omega) (by omega) (by omega) ?_
  have hs4 : (mx_ups (mx_ups (mx_ups (mx_ups S (mo + 1) (1, 1019)) (mo + 2) (1, 1019)) (mo + 3) (1, 619)) (mo + 4) (1, 7428)) mo = some (0, 12) := by simp [mx_ups, hs, Nat.add_assoc]
  refine mx_putRF d_Mo_init_37 fl_Mo_19 rfl (fun q h => by cases h; rfl) (by assumption) rfl rfl ?_
  refine mx_al0 d_Mo_init_40 ?_
  refine mx_sip 400 d_Mo_init_41 (by decide) ?_
  refine mx_newI (N := 400) (k2 := 8) (n2 := 8991) d_Mo_init_44 ac_int (nI_nn (by omega)) (nI_clamp (by omega)) (by omega) (by omega) (by omega) ?_
  have hs5 : (mx_ups (mx_ups (mx_ups (mx_ups (mx_ups S (mo + 1) (1, 1019)) (mo + 2) (1, 1019)) (mo + 3) (1, 619)) (mo + 4) (1, 7428)) (mo + 5) (1, 400)) mo = some (0, 12) := by simp [mx_ups, hs, Nat.add_assoc]
  refine mx_putRF d_Mo_init_46 fl_Mo_22 rfl (fun q h => by cases h; rfl) (by assumption) rfl rfl ?_
  refine mx_al0 d_Mo_init_49 ?_
  refine mx_ic_m1 d_Mo_init_50 ?_
  refine mx_putI d_Mo_init_51 fl_Mo_25 (by assumption) ?_
  refine mx_al0 d_Mo_init_54 ?_
  refine mx_bip 7 d_Mo_init_55 (by decide) ?_
  refine mx_newI (N := 7) (k2 := 7) (n2 := 8984) d_Mo_init_57 ac_int (nI_nn (by omega)) (nI_clamp (by omega)) (by omega) (by omega) (by omega) ?_
  have hs6 : (mx_ups (mx_ups (mx_ups (mx_ups (mx_ups (mx_ups S (mo + 1) (1, 1019)) (mo + 2) (1, 1019)) (mo + 3) (1, 619)) (mo + 4) (1, 7428)) (mo + 5) (1, 400)) (mo + 6) (1, 7)) mo = some (0, 12) := by simp [mx_ups, hs, Nat.add_assoc]
  refine mx_putRF d_Mo_init_59 fl_Mo_29 rfl (fun q h => by cases h; rfl) (by assumption) rfl rfl ?_
  refine mx_al0 d_Mo_init_62 ?_
  refine mx_bip 8 d_Mo_init_63 (by decide) ?_
  refine mx_newI (N := 8) (k2 := 6) (n2 := 8976) d_Mo_init_65 ac_int (nI_nn (by omega)) (nI_clamp (by omega)) (by omega) (by omega) (by omega) ?_
  have hs7 : (mx_ups (mx_ups (mx_ups (mx_ups (mx_ups (mx_ups (mx_ups S (mo + 1) (1, 1019)) (mo + 2) (1, 1019)) (mo + 3) (1, 619)) (mo + 4) (1, 7428)) (mo + 5) (1, 400)) (mo + 6) (1, 7)) (mo + 7) (1, 8)) mo = some (0, 12) := by simp [mx_ups, hs, Nat.add_assoc]
  refine mx_putRF d_Mo_init_67 fl_Mo_32 rfl (fun q h => by cases h; rfl) (by assumption) rfl rfl ?_
  refine mx_al0 d_Mo_init_70 ?_
  refine mx_bip 8 d_Mo_init_71 (by decide) ?_
  refine mx_newI (N := 8) (k2 := 5) (n2 := 8968) d_Mo_init_73 ac_int (nI_nn (by omega)) (nI_clamp (by omega)) (by omega) (by omega) (by omega) ?_
  have hs8 : (mx_ups (mx_ups (mx_ups (mx_ups (mx_ups (mx_ups (mx_ups (mx_ups S (mo + 1) (1, 1019)) (mo + 2) (1, 1019)) (mo + 3) (1, 619)) (mo + 4) (1, 7428)) (mo + 5) (1, 400)) (mo + 6) (1, 7)) (mo + 7) (1, 8)) (mo + 8) (1, 8)) mo = some (0, 12) := by simp [mx_ups, hs, Nat.add_assoc]
  refine mx_putRF d_Mo_init_75 fl_Mo_35 rfl (fun q h => by cases h; rfl) (by assumption) rfl rfl ?_
  refine mx_al0 d_Mo_init_78 ?_
  refine mx_bip 8 d_Mo_init_79 (by decide) ?_
  refine mx_newI (N := 8) (k2 := 4) (n2 := 8960) d_Mo_init_81 ac_int (nI_nn (by omega)) (nI_clamp (by omega)) (by omega) (by omega) (by omega) ?_
  have hs9 : (mx_ups (mx_ups (mx_ups (mx_ups (mx_ups (mx_ups (mx_ups (mx_ups (mx_ups S (mo + 1) (1, 1019)) (mo + 2) (1, 1019)) (mo + 3) (1, 619)) (mo + 4) (1, 7428)) (mo + 5) (1, 400)) (mo + 6) (1, 7)) (mo + 7) (1, 8)) (mo + 8) (1, 8)) (mo + 9) (1, 8)) mo = some (0, 12) := by simp [mx_ups, hs, Nat.add_assoc]
  refine mx_putRF d_Mo_init_83 fl_Mo_38 rfl (fun q h => by cases h; rfl) (by assumption) rfl rfl ?_
  refine mx_al0 d_Mo_init_86 ?_
  refine mx_sip 256 d_Mo_init_87 (by decide) ?_
  refine mx_newI (N := 256) (k2 := 3) (n2 := 8704) d_Mo_init_90 ac_int (nI_nn (by omega)) (nI_clamp (by omega)) (by omega) (by omega) (by omega) ?_
  have hs10 : (mx_ups (mx_ups (mx_ups (mx_ups (mx_ups (mx_ups (mx_ups (mx_ups (mx_ups (mx_ups S (mo + 1) (1, 1019)) (mo + 2) (1, 1019)) (mo + 3) (1, 619)) (mo + 4) (1, 7428)) (mo + 5) (1, 400)) (mo + 6) (1, 7)) (mo + 7) (1, 8)) (mo + 8) (1, 8)) (mo + 9) (1, 8)) (mo + 10) (1, 256)) mo = some (0, 12) := by simp [mx_ups, hs, Nat.add_assoc]
  refine mx_putRF d_Mo_init_92 fl_Mo_41 rfl (fun q h => by cases h; rfl) (by assumption) rfl rfl ?_
  refine mx_al0 d_Mo_init_95 ?_
  refine mx_sip 2304 d_Mo_init_96 (by decide) ?_
  refine mx_newI (N := 2304) (k2 := 2) (n2 := 6400) d_Mo_init_99 ac_int (nI_nn (by omega)) (nI_clamp (by omega)) (by omega) (by omega) (by omega) ?_
  have hs11 : (mx_ups (mx_ups (mx_ups (mx_ups (mx_ups (mx_ups (mx_ups (mx_ups (mx_ups (mx_ups (mx_ups S (mo + 1) (1, 1019)) (mo + 2) (1, 1019)) (mo + 3) (1, 619)) (mo + 4) (1, 7428)) (mo + 5) (1, 400)) (mo + 6) (1, 7)) (mo + 7) (1, 8)) (mo + 8) (1, 8)) (mo + 9) (1, 8)) (mo + 10) (1, 256)) (mo + 11) (1, 2304)) mo = some (0, 12) := by simp [mx_ups, hs, Nat.add_assoc]
  refine mx_putRF d_Mo_init_101 fl_Mo_44 rfl (fun q h => by cases h; rfl) (by assumption) rfl rfl ?_
  refine mx_al0 d_Mo_init_104 ?_
  refine mx_sip 4096 d_Mo_init_105 (by decide) ?_
  refine mx_newZ (N := 4096) (k2 := 1) (n2 := 2304) d_Mo_init_108 ac_boolean (nI_nn (by omega)) (nI_clamp (by omega)) (by omega) (by omega) (by omega) ?_
  have hs12 : (mx_ups (mx_ups (mx_ups (mx_ups (mx_ups (mx_ups (mx_ups (mx_ups (mx_ups (mx_ups (mx_ups (mx_ups S (mo + 1) (1, 1019)) (mo + 2) (1, 1019)) (mo + 3) (1, 619)) (mo + 4) (1, 7428)) (mo + 5) (1, 400)) (mo + 6) (1, 7)) (mo + 7) (1, 8)) (mo + 8) (1, 8)) (mo + 9) (1, 8)) (mo + 10) (1, 256)) (mo + 11) (1, 2304)) (mo + 12) (2, 4096)) mo = some (0, 12) := by simp [mx_ups, hs, Nat.add_assoc]
  refine mx_putRF d_Mo_init_110 fl_Mo_47 rfl (fun q h => by cases h; rfl) (by assumption) rfl rfl ?_
  refine mx_al0 d_Mo_init_113 ?_
  refine mx_sip 2304 d_Mo_init_114 (by decide) ?_
  refine mx_newZ (N := 2304) (k2 := 0) (n2 := 0) d_Mo_init_117 ac_boolean (nI_nn (by omega)) (nI_clamp (by omega)) (by omega) (by omega) (by omega) ?_
  have hs13 : (mx_ups (mx_ups (mx_ups (mx_ups (mx_ups (mx_ups (mx_ups (mx_ups (mx_ups (mx_ups (mx_ups (mx_ups (mx_ups S (mo + 1) (1, 1019)) (mo + 2) (1, 1019)) (mo + 3) (1, 619)) (mo + 4) (1, 7428)) (mo + 5) (1, 400)) (mo + 6) (1, 7)) (mo + 7) (1, 8)) (mo + 8) (1, 8)) (mo + 9) (1, 8)) (mo + 10) (1, 256)) (mo + 11) (1, 2304)) (mo + 12) (2, 4096)) (mo + 13) (2, 2304)) mo = some (0, 12) := by simp [mx_ups, hs, Nat.add_assoc]
  refine mx_putRF d_Mo_init_119 fl_Mo_51 rfl (fun q h => by cases h; rfl) (by assumption) rfl rfl ?_
  have hbel : mx_bel mo S (mx_ups (mx_ups (mx_ups (mx_ups (mx_ups (mx_ups (mx_ups (mx_ups (mx_ups (mx_ups (mx_ups (mx_ups (mx_ups S (mo + 1) (1, 1019)) (mo + 2) (1, 1019)) (mo + 3) (1, 619)) (mo + 4) (1, 7428)) (mo + 5) (1, 400)) (mo + 6) (1, 7)) (mo + 7) (1, 8)) (mo + 8) (1, 8)) (mo + 9) (1, 8)) (mo + 10) (1, 256)) (mo + 11) (1, 2304)) (mo + 12) (2, 4096)) (mo + 13) (2, 2304)) I (mx_z (mx_z (mx_z (mx_z (mx_z (mx_z (mx_z (mx_z (mx_up (mx_z (mx_z (mx_z (mx_z (mx_z I (mo + 1)) (mo + 2)) (mo + 3)) (mo + 4)) (mo + 5)) (mo) 12 (-1)) (mo + 6)) (mo + 7)) (mo + 8)) (mo + 9)) (mo + 10)) (mo + 11)) (mo + 12)) (mo + 13)) P (mx_upP (mx_upP (mx_upP (mx_upP (mx_upP (mx_upP (mx_upP (mx_upP (mx_upP (mx_upP (mx_upP (mx_upP (mx_upP P (mo) 1 (some (mo + 1))) (mo) 2 (some (mo + 2))) (mo) 4 (some (mo + 3))) (mo) 5 (some (mo + 4))) (mo) 7 (some (mo + 5))) (mo) 14 (some (mo + 6))) (mo) 21 (some (mo + 7))) (mo) 22 (some (mo + 8))) (mo) 23 (some (mo + 9))) (mo) 24 (some (mo + 10))) (mo) 25 (some (mo + 11))) (mo) 26 (some (mo + 12))) (mo) 27 (some (mo + 13))) := (((((((((((((((((((((((((((mx_bel.rf).nw (b := mo + 1) (by omega)).upP (b := mo) (by omega)).nw (b := mo + 2) (by omega)).upP (b := mo) (by omega)).nw (b := mo + 3) (by omega)).upP (b := mo) (by omega)).nw (b := mo + 4) (by omega)).upP (b := mo) (by omega)).nw (b := mo + 5) (by omega)).upP (b := mo) (by omega)).up (b := mo) (by omega)).nw (b := mo + 6) (by omega)).upP (b := mo) (by omega)).nw (b := mo + 7) (by omega)).upP (b := mo) (by omega)).nw (b := mo + 8) (by omega)).upP (b := mo) (by omega)).nw (b := mo + 9) (by omega)).upP (b := mo) (by omega)).nw (b := mo + 10) (by omega)).upP (b := mo) (by omega)).nw (b := mo + 11) (by omega)).upP (b := mo) (by omega)).nw (b := mo + 12) (by omega)).upP (b := mo) (by omega)).nw (b := mo + 13) (by omega)).upP (b := mo) (by omega)
  have hok : mo_ok (mx_ups (mx_ups (mx_ups (mx_ups (mx_ups (mx_ups (mx_ups (mx_ups (mx_ups (mx_ups (mx_ups (mx_ups (mx_ups S (mo + 1) (1, 1019)) (mo + 2) (1, 1019)) (mo + 3) (1, 619)) (mo + 4) (1, 7428)) (mo + 5) (1, 400)) (mo + 6) (1, 7)) (mo + 7) (1, 8)) (mo + 8) (1, 8)) (mo + 9) (1, 8)) (mo + 10) (1, 256)) (mo + 11) (1, 2304)) (mo + 12) (2, 4096)) (mo + 13) (2, 2304)) (mx_upP (mx_upP (mx_upP (mx_upP (mx_upP (mx_upP (mx_upP (mx_upP (mx_upP (mx_upP (mx_upP (mx_upP (mx_upP P (mo) 1 (some (mo + 1))) (mo) 2 (some (mo + 2))) (mo) 4 (some (mo + 3))) (mo) 5 (some (mo + 4))) (mo) 7 (some (mo + 5))) (mo) 14 (some (mo + 6))) (mo) 21 (some (mo + 7))) (mo) 22 (some (mo + 8))) (mo) 23 (some (mo + 9))) (mo) 24 (some (mo + 10))) (mo) 25 (some (mo + 11))) (mo) 26 (some (mo + 12))) (mo) 27 (some (mo + 13))) mo := by refine ⟨?_, ?_, ?_, ?_, ?_, ?_, ?_, ?_, ?_, ?_, ?_, ?_, ?_, ?_, ?_, ?_, ?_, ?_, ?_, ?_, ?_, ?_, ?_, ?_, ?_, ?_, ?_⟩ <;> simp [mx_ups, mx_upP, hs, Nat.add_assoc]
  obtain ⟨hM0, hMp1, hMp2, hMp4, hMp5, hMp7, hMp14, hMp21, hMp22, hMp23, hMp24, hMp25, hMp26, hMp27, hMs1, hMs2, hMs3, hMs4, hMs5, hMs6, hMs7, hMs8, hMs9, hMs10, hMs11, hMs12, hMs13⟩ := id hok
  refine mx_al0 d_Mo_init_122 ?_
  refine mx_getR d_Mo_init_123 fl_Mo_7 (by assumption) (by assumption) ?_
  refine mx_in_1 d_Mo_init_126 ?_
  refine mx_ic_m1 d_Mo_init_127 ?_
  refine mx_iast d_Mo_init_128 (by assumption) (nI_inb (by omega) (by omega)) ?_
  rw [nI_clamp (by omega)]
  refine mx_al0 d_Mo_init_129 ?_
  refine mx_getR d_Mo_init_130 fl_Mo_7 (by assumption) (by assumption) ?_
  refine mx_bip 10 d_Mo_init_133 (by decide) ?_
  refine mx_in_1 d_Mo_init_135 ?_
  refine mx_iast d_Mo_init_136 (by assumption) (nI_inb (by omega) (by omega)) ?_
  rw [nI_clamp (by omega)]
  refine mx_in_0 d_Mo_init_137 ?_
  refine mx_is1 d_Mo_init_138 ?_
  refine mx_loopX (α := (mx_I)) (N := 64) (a0 := (mx_up (mx_up (mx_z (mx_z (mx_z (mx_z (mx_z (mx_z (mx_z (mx_z (mx_up (mx_z (mx_z (mx_z (mx_z (mx_z I (mo + 1)) (mo + 2)) (mo + 3)) (mo + 4)) (mo + 5)) (mo) 12 ((-1))) (mo + 6)) (mo + 7)) (mo + 8)) (mo + 9)) (mo + 10)) (mo + 11)) (mo + 12)) (mo + 13)) (mo + 1) (1) ((-1))) (mo + 1) (10) (nI (1)))) (fun k9 z9 => m0_lo (mx_z (mx_z (mx_z (mx_z (mx_z (mx_z (mx_z (mx_z (mx_up (mx_z (mx_z (mx_z (mx_z (mx_z I (mo + 1)) (mo + 2)) (mo + 3)) (mo + 4)) (mo + 5)) (mo) 12 (-1)) (mo + 6)) (mo + 7)) (mo + 8)) (mo + 9)) (mo + 10)) (mo + 11)) (mo + 12)) (mo + 13)) z9 mo k9) (ls := fun k9 z9 => [some (.ref (mo)), some (.int (nI (k9)))]) (X := fun k9 z9 => ((mo + 14), (mx_ups (mx_ups (mx_ups (mx_ups (mx_ups (mx_ups (mx_ups (mx_ups (mx_ups (mx_ups (mx_ups (mx_ups (mx_ups S (mo + 1) (1, 1019)) (mo + 2) (1, 1019)) (mo + 3) (1, 619)) (mo + 4) (1, 7428)) (mo + 5) (1, 400)) (mo + 6) (1, 7)) (mo + 7) (1, 8)) (mo + 8) (1, 8)) (mo + 9) (1, 8)) (mo + 10) (1, 256)) (mo + 11) (1, 2304)) (mo + 12) (2, 4096)) (mo + 13) (2, 2304)), z9, (mx_upP (mx_upP (mx_upP (mx_upP (mx_upP (mx_upP (mx_upP (mx_upP (mx_upP (mx_upP (mx_upP (mx_upP (mx_upP P (mo) 1 (some ((mo + 1)))) (mo) 2 (some ((mo + 2)))) (mo) 4 (some ((mo + 3)))) (mo) 5 (some ((mo + 4)))) (mo) 7 (some ((mo + 5)))) (mo) 14 (some ((mo + 6)))) (mo) 21 (some ((mo + 7)))) (mo) 22 (some ((mo + 8)))) (mo) 23 (some ((mo + 9)))) (mo) 24 (some ((mo + 10)))) (mo) 25 (some ((mo + 11)))) (mo) 26 (some ((mo + 12)))) (mo) 27 (some ((mo + 13)))), J)) (m0_lo.z (fun k => by simp [mx_up, mx_z, Nat.add_assoc])) (fun k9 hk9 z9 hinv ih => ?_) (fun z9 hinv => ?_)
  · skip
    obtain ⟨K, hz9⟩ : ∃ q, q = z9 := ⟨_, rfl⟩
    subst hz9
    try dsimp only at hinv ih ⊢
    refine mx_il1 d_Mo_init_139 ?_
    refine mx_bip 64 d_Mo_init_140 (by decide) ?_
    refine mx_icN_ge 183 d_Mo_init_142 (by decide) (by omega) (by omega) (fun c_142 => absurd c_142 (by omega)) (fun c_142 => ?_)
    refine mx_al0 d_Mo_init_145 ?_
    refine mx_getR d_Mo_init_146 fl_Mo_7 (by assumption) (by assumption) ?_
    refine mx_bip 67 d_Mo_init_149 (by decide) ?_
    refine mx_il1 d_Mo_init_151 ?_
    refine mx_iaddN d_Mo_init_152 ?_
    refine mx_in_5 d_Mo_init_153 ?_
    refine mx_iast d_Mo_init_154 (by assumption) (nI_inb (by omega) (by omega)) ?_
    rw [nI_clamp (by omega)]
    refine mx_al0 d_Mo_init_155 ?_
    refine mx_getR d_Mo_init_156 fl_Mo_7 (by assumption) (by assumption) ?_
    refine mx_sip 131 d_Mo_init_159 (by decide) ?_
    refine mx_il1 d_Mo_init_162 ?_
    refine mx_iaddN d_Mo_init_163 ?_
    refine mx_in_5 d_Mo_init_164 ?_
    refine mx_iast d_Mo_init_165 (by assumption) (nI_inb (by omega) (by omega)) ?_
    rw [nI_clamp (by omega)]
    refine mx_al0 d_Mo_init_166 ?_
    refine mx_getR d_Mo_init_167 fl_Mo_7 (by assumption) (by assumption) ?_
    refine mx_sip 195 d_Mo_init_170 (by decide) ?_
    refine mx_il1 d_Mo_init_173 ?_
    refine mx_iaddN d_Mo_init_174 ?_
    refine mx_ic_m1 d_Mo_init_175 ?_
    refine mx_iast d_Mo_init_176 (by assumption) (nI_inb (by omega) (by omega)) ?_
    rw [nI_clamp (by omega)]
    refine mx_iN1 d_Mo_init_177 ?_
    refine mx_goto 139 d_Mo_init_180 (by decide) ?_
    exact ih (mx_up (mx_up (mx_up K (mo + 1) (67 + k9) (nI (5))) (mo + 1) (131 + k9) (nI (5))) (mo + 1) (195 + k9) ((-1))) (hinv.st hk9)
  · skip
    obtain ⟨K, hz9⟩ : ∃ q, q = z9 := ⟨_, rfl⟩
    subst hz9
    try dsimp only at hinv ⊢
    refine mx_il1 d_Mo_init_139 ?_
    refine mx_bip 64 d_Mo_init_140 (by decide) ?_
    refine mx_icN_ge 183 d_Mo_init_142 (by decide) (by omega) (by omega) (fun c_142 => ?_) (fun c_142 => absurd c_142 (by omega))
    exact mx_vret d_Mo_init_183 rfl (mx_iR_i ⟨fun c hc => ⟨(hbel c hc).1, (hinv.1 c (by omega)).trans (hbel c hc).2.1, (hbel c hc).2.2⟩, (fun k hk => by rw [hinv.1 mo (by omega)]; simp [mx_up, mx_z, Nat.add_assoc, hk]), hok, (by rw [hinv.1 mo (by omega)]; simp [mx_up, mx_z, Nat.add_assoc]), funext hinv.2, (fun j k h1 h2 => by rw [hinv.1 _ (by omega)]; rcases (show j = 2 ∨ j = 3 ∨ j = 4 ∨ j = 5 ∨ j = 6 ∨ j = 7 ∨ j = 8 ∨ j = 9 ∨ j = 10 ∨ j = 11 ∨ j = 12 ∨ j = 13 by omega) with rfl | rfl | rfl | rfl | rfl | rfl | rfl | rfl | rfl | rfl | rfl | rfl <;> simp [mx_up, mx_z, Nat.add_assoc])⟩)
end BN82
