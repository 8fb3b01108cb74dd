/-! THE REFERENCE: where its rows lie -/
def mo_ok (S : mx_S) (P : mx_P) (mo : Nat) : Prop := S mo = some (0, 12) ∧ P mo 1 = some (mo + 1) ∧ P mo 2 = some (mo + 2) ∧ P mo 4 = some (mo + 3) ∧ P mo 5 = some (mo + 4) ∧ P mo 7 = some (mo + 5) ∧ P mo 14 = some (mo + 6) ∧ P mo 21 = some (mo + 7) ∧ P mo 22 = some (mo + 8) ∧ P mo 23 = some (mo + 9) ∧ P mo 24 = some (mo + 10) ∧ P mo 25 = some (mo + 11) ∧ P mo 26 = some (mo + 12) ∧ P mo 27 = some (mo + 13) ∧ S (mo + 1) = some (1, 1019) ∧ S (mo + 2) = some (1, 1019) ∧ S (mo + 3) = some (1, 619) ∧ S (mo + 4) = some (1, 7428) ∧ S (mo + 5) = some (1, 400) ∧ S (mo + 6) = some (1, 7) ∧ S (mo + 7) = some (1, 8) ∧ S (mo + 8) = some (1, 8) ∧ S (mo + 9) = some (1, 8) ∧ S (mo + 10) = some (1, 256) ∧ S (mo + 11) = some (1, 2304) ∧ S (mo + 12) = some (2, 4096) ∧ S (mo + 13) = some (2, 2304)
section B11
variable {l : Launch} {E : mx_Env} {t : Nat} {S : mx_S} {I : mx_I} {P : mx_P} {J : mx_G} {mo : Nat}
theorem c_Mo_isIn {x a b : Int32} : mx_C l E M_Mo_isIn 0 0 0 [.int (x), .int (a), .int (b)] (t, S, I, P, J) (mx_ri (bI (decide (a ≤ x) && decide (x ≤ b))) (t, S, I, P, J)) := by
  refine mx_C_of (ls0 := [some (.int (x)), some (.int (a)), some (.int (b))]) (by decide +kernel) rfl rfl (Nat.le_of_ble_eq_true rfl) rfl ?_
  refine mx_il0 d_Mo_isIn_0 ?_
  refine mx_il1 d_Mo_isIn_1 ?_
  refine mx_icmp_lt 14 d_Mo_isIn_2 (by decide) (fun c_2 => ?_) (fun c_2 => ?_)
  · skip
    refine mx_in_0 d_Mo_isIn_14 ?_
    exact mx_zret d_Mo_isIn_15 rfl (by first | exact Or.inl rfl | exact Or.inr rfl) (mx_ri_of (by first | (simp [bI, Int32.not_lt.mp c_2, Int32.not_lt.mp c_7]; done) | (simp [bI, Int32.not_le.mpr c_2]; done) | simp [bI, Int32.not_le.mpr c_7]))
  · skip
    refine mx_il0 d_Mo_isIn_5 ?_
    refine mx_il2 d_Mo_isIn_6 ?_
    refine mx_icmp_gt 14 d_Mo_isIn_7 (by decide) (fun c_7 => ?_) (fun c_7 => ?_)
    · skip
      refine mx_in_0 d_Mo_isIn_14 ?_
      exact mx_zret d_Mo_isIn_15 rfl (by first | exact Or.inl rfl | exact Or.inr rfl) (mx_ri_of (by first | (simp [bI, Int32.not_lt.mp c_2, Int32.not_lt.mp c_7]; done) | (simp [bI, Int32.not_le.mpr c_2]; done) | simp [bI, Int32.not_le.mpr c_7]))
    · skip
      refine mx_in_1 d_Mo_isIn_10 ?_
      refine mx_goto 15 d_Mo_isIn_11 (by decide) ?_
      exact mx_zret d_Mo_isIn_15 rfl (by first | exact Or.inl rfl | exact Or.inr rfl) (mx_ri_of (by first | (simp [bI, Int32.not_lt.mp c_2, Int32.not_lt.mp c_7]; done) | (simp [bI, Int32.not_le.mpr c_2]; done) | simp [bI, Int32.not_le.mpr c_7]))
theorem c_Mo_lesser {x y : Int32} : mx_C l E M_Mo_lesser 0 0 0 [.int (x), .int (y)] (t, S, I, P, J) (mx_ri (if y ≤ x then y else x) (t, S, I, P, J)) := by
  refine mx_C_of (ls0 := [some (.int (x)), some (.int (y))]) (by decide +kernel) rfl rfl (Nat.le_of_ble_eq_true rfl) rfl ?_
  refine mx_il0 d_Mo_lesser_0 ?_
  refine mx_il1 d_Mo_lesser_1 ?_
  refine mx_icmp_ge 9 d_Mo_lesser_2 (by decide) (fun c_2 => ?_) (fun c_2 => ?_)
  · skip
    refine mx_il1 d_Mo_lesser_9 ?_
    exact mx_iret d_Mo_lesser_10 rfl (mx_ri_of (by simp [bI, *]))
  · skip
    refine mx_il0 d_Mo_lesser_5 ?_
    refine mx_goto 10 d_Mo_lesser_6 (by decide) ?_
    exact mx_iret d_Mo_lesser_10 rfl (mx_ri_of (by simp [bI, *]))
theorem c_Mo_greater {x y : Int32} : mx_C l E M_Mo_greater 0 0 0 [.int (x), .int (y)] (t, S, I, P, J) (mx_ri (if x ≤ y then y else x) (t, S, I, P, J)) := by
  refine mx_C_of (ls0 := [some (.int (x)), some (.int (y))]) (by decide +kernel) rfl rfl (Nat.le_of_ble_eq_true rfl) rfl ?_
  refine mx_il0 d_Mo_greater_0 ?_
  refine mx_il1 d_Mo_greater_1 ?_
  refine mx_icmp_le 9 d_Mo_greater_2 (by decide) (fun c_2 => ?_) (fun c_2 => ?_)
  · skip
    refine mx_il1 d_Mo_greater_9 ?_
    exact mx_iret d_Mo_greater_10 rfl (mx_ri_of (by simp [bI, *]))
  · skip
    refine mx_il0 d_Mo_greater_5 ?_
    refine mx_goto 10 d_Mo_greater_6 (by decide) ?_
    exact mx_iret d_Mo_greater_10 rfl (mx_ri_of (by simp [bI, *]))
theorem vs_isOf_iff {x : Int32} {j : Nat} (hj : j < 32) : (x >>> (nI j &&& 31)) &&& nI 1 = nI 1 ↔ bt x j = true := by
  have h0 : bt (x >>> (nI j &&& 31)) 0 = bt x j := by rw [b_sshr j hj x (by omega)]; simp [hj]
  constructor
  · intro h
    have h1 := congrArg (fun z => bt z 0) h
    simp only [b_and] at h1
    rw [h0, show bt (nI 1) 0 = true by decide] at h1
    simpa using h1
  · intro h
    apply b_ext
    intro i hi
    rw [b_and]
    by_cases hz : i = 0
    · subst hz; rw [h0, h]; rfl
    · have : ∀ i, i < 32 → i ≠ 0 → bt (nI 1) i = false := by decide +kernel
      rw [this i hi hz]; simp
theorem vs_isOf_t {x : Int32} {j : Nat} (hj : j < 32) (h : (x >>> (nI j &&& 31)) &&& nI 1 = nI 1) : bt x j = true := (vs_isOf_iff hj).mp h
theorem vs_isOf_f {x : Int32} {j : Nat} (hj : j < 32) (h : ¬ (x >>> (nI j &&& 31)) &&& nI 1 = nI 1) : bt x j = false := by
  cases hb : bt x j
  · rfl
  · exact absurd ((vs_isOf_iff hj).mpr hb) h
theorem c_Mo_isOf {x : Int32} {j : Nat} (hj : j < 32) : mx_C l E M_Mo_isOf 0 0 0 [.int (x), .int (nI (j))] (t, S, I, P, J) (mx_ri (bI (bt x j)) (t, S, I, P, J)) := by
  refine mx_C_of (ls0 := [some (.int (x)), some (.int (nI (j)))]) (by decide +kernel) rfl rfl (Nat.le_of_ble_eq_true rfl) rfl ?_
  refine mx_il0 d_Mo_isOf_0 ?_
  refine mx_il1 d_Mo_isOf_1 ?_
  refine mx_ishr d_Mo_isOf_2 ?_
  refine mx_in_1 d_Mo_isOf_3 ?_
  refine mx_iand d_Mo_isOf_4 ?_
  refine mx_in_1 d_Mo_isOf_5 ?_
  refine mx_icmp_ne 13 d_Mo_isOf_6 (by decide) (fun c_6 => ?_) (fun c_6 => ?_)
  · skip
    have hb : bt x j = false := vs_isOf_f hj c_6
    refine mx_in_0 d_Mo_isOf_13 ?_
    exact mx_zret d_Mo_isOf_14 rfl (by first | exact Or.inl rfl | exact Or.inr rfl) (mx_ri_of (by rw [hb]; rfl))
  · skip
    have hb : bt x j = true := vs_isOf_t hj c_6
    refine mx_in_1 d_Mo_isOf_9 ?_
    refine mx_goto 14 d_Mo_isOf_10 (by decide) ?_
    exact mx_zret d_Mo_isOf_14 rfl (by first | exact Or.inl rfl | exact Or.inr rfl) (mx_ri_of (by rw [hb]; rfl))
theorem vs_bit1 {x : Int32} {j : Nat} (hj : j < 32) : (x >>> (nI j &&& 31)) &&& nI 1 = nI (if bt x j then 1 else 0) := by
  cases hb : bt x j
  · apply b_ext
    intro i hi
    rw [b_and]
    by_cases hz : i = 0
    · subst hz; rw [b_sshr j hj x (by omega)]; simp [hj, hb]; decide
    · have : ∀ i, i < 32 → i ≠ 0 → bt (nI 1) i = false := by decide +kernel
      rw [this i hi hz]
      have h2 : ∀ i, i < 32 → bt (nI 0) i = false := by decide +kernel
      simp [h2 i hi]
  · exact (vs_isOf_iff hj).mpr hb
theorem c_Mo_bits {x : Int32} : mx_C l E M_Mo_bits 0 0 0 [.int (x)] (t, S, I, P, J) (mx_ri (nI (fb_ct (bt x) 31)) (t, S, I, P, J)) := by
  refine mx_C_of (ls0 := [some (.int (x)), none, none]) (by decide +kernel) rfl rfl (Nat.le_of_ble_eq_true rfl) rfl ?_
  refine mx_in_0 d_Mo_bits_0 ?_
  refine mx_is1 d_Mo_bits_1 ?_
  refine mx_in_0 d_Mo_bits_2 ?_
  refine mx_is2 d_Mo_bits_3 ?_
  refine mx_loop (N := 31) (ls := fun j => [some (.int (x)), some (.int (nI (fb_ct (bt x) j))), some (.int (nI (j)))]) (X := fun j => (t, S, I, P, J)) (fun j hj ih => ?_) ?_
  · try dsimp only
    refine mx_il2 d_Mo_bits_4 ?_
    refine mx_bip 31 d_Mo_bits_5 (by decide) ?_
    refine mx_icN_ge 24 d_Mo_bits_7 (by decide) (by omega) (by omega) (fun c_7 => absurd c_7 (by omega)) (fun c_7 => ?_)
    refine mx_il1 d_Mo_bits_10 ?_
    refine mx_il0 d_Mo_bits_11 ?_
    refine mx_il2 d_Mo_bits_12 ?_
    refine mx_ishr d_Mo_bits_13 ?_
    refine mx_in_1 d_Mo_bits_14 ?_
    refine mx_iand d_Mo_bits_15 ?_
    refine mx_ti (y := nI (if bt x j then 1 else 0)) (vs_bit1 (by omega)) ?_
    refine mx_iaddN d_Mo_bits_16 ?_
    refine mx_is1 d_Mo_bits_17 ?_
    refine mx_iN2 d_Mo_bits_18 ?_
    refine mx_goto 4 d_Mo_bits_21 (by decide) ?_
    have e1 : nI (fb_ct (bt x) j + if bt x j then 1 else 0) = nI (fb_ct (bt x) (j + 1)) := by first | rfl | simp [vf_s, *]
    rw [e1]
    exact ih
  · try dsimp only
    refine mx_il2 d_Mo_bits_4 ?_
    refine mx_bip 31 d_Mo_bits_5 (by decide) ?_
    refine mx_icN_ge 24 d_Mo_bits_7 (by decide) (by omega) (by omega) (fun c_7 => ?_) (fun c_7 => absurd c_7 (by omega))
    refine mx_il1 d_Mo_bits_24 ?_
    exact mx_iret d_Mo_bits_25 rfl (mx_ri_of (by rfl))
theorem c_Mo_of (hM : mo_ok S P mo) {h k : Nat} (hh : h < 8) (hk : k < 4) : mx_C l E M_Mo_of 1 0 0 [.ref (mo), .int (nI (h)), .int (nI (k))] (t, S, I, P, J) (mx_ri (I (mo + 1) (11 + 4 * h + k)) (t, S, I, P, J)) := by
  obtain ⟨hM0, hMp1, hMp2, hMp4, hMp5, hMp7, hMp14, hMp21, hMp22, hMp23, hMp24, hMp25, hMp26, hMp27, hMs1, hMs2, hMs3, hMs4, hMs5, hMs6, hMs7, hMs8, hMs9, hMs10, hMs11, hMs12, hMs13⟩ := id hM
  refine mx_C_of (ls0 := [some (.ref (mo)), some (.int (nI (h))), some (.int (nI (k)))]) (by decide +kernel) rfl rfl (Nat.le_of_ble_eq_true rfl) rfl ?_
  refine mx_al0 d_Mo_of_0 ?_
  refine mx_getR d_Mo_of_1 fl_Mo_7 (by assumption) (by assumption) ?_
  refine mx_bip 11 d_Mo_of_4 (by decide) ?_
  refine mx_in_4 d_Mo_of_6 ?_
  refine mx_il1 d_Mo_of_7 ?_
  refine mx_imulN d_Mo_of_8 ?_
  refine mx_iaddN d_Mo_of_9 ?_
  refine mx_il2 d_Mo_of_10 ?_
  refine mx_iaddN d_Mo_of_11 ?_
  refine mx_iald d_Mo_of_12 (by assumption) (nI_inb (by omega) (by omega)) ?_
  refine mx_ti (y := I (mo + 1) (11 + 4 * h + k)) (by rw [nI_clamp (by omega)]) ?_
  exact mx_iret d_Mo_of_13 rfl (mx_ri_of (by rfl))
theorem c_Mo_ofGuest (hM : mo_ok S P mo) {g k : Nat} (hg : g < 8) (hk : k < 3) : mx_C l E M_Mo_ofGuest 1 0 0 [.ref (mo), .int (nI (g)), .int (nI (k))] (t, S, I, P, J) (mx_ri (I (mo + 1) (43 + 3 * g + k)) (t, S, I, P, J)) := by
  obtain ⟨hM0, hMp1, hMp2, hMp4, hMp5, hMp7, hMp14, hMp21, hMp22, hMp23, hMp24, hMp25, hMp26, hMp27, hMs1, hMs2, hMs3, hMs4, hMs5, hMs6, hMs7, hMs8, hMs9, hMs10, hMs11, hMs12, hMs13⟩ := id hM
  refine mx_C_of (ls0 := [some (.ref (mo)), some (.int (nI (g))), some (.int (nI (k)))]) (by decide +kernel) rfl rfl (Nat.le_of_ble_eq_true rfl) rfl ?_
  refine mx_al0 d_Mo_ofGuest_0 ?_
  refine mx_getR d_Mo_ofGuest_1 fl_Mo_7 (by assumption) (by assumption) ?_
  refine mx_bip 43 d_Mo_ofGuest_4 (by decide) ?_
  refine mx_in_3 d_Mo_ofGuest_6 ?_
  refine mx_il1 d_Mo_ofGuest_7 ?_
  refine mx_imulN d_Mo_ofGuest_8 ?_
  refine mx_iaddN d_Mo_ofGuest_9 ?_
  refine mx_il2 d_Mo_ofGuest_10 ?_
  refine mx_iaddN d_Mo_ofGuest_11 ?_
  refine mx_iald d_Mo_ofGuest_12 (by assumption) (nI_inb (by omega) (by omega)) ?_
  refine mx_ti (y := I (mo + 1) (43 + 3 * g + k)) (by rw [nI_clamp (by omega)]) ?_
  exact mx_iret d_Mo_ofGuest_13 rfl (mx_ri_of (by rfl))
theorem c_Mo_rankOf (hM : mo_ok S P mo) {h g : Nat} (hh : h < 8) (hg : g < 8) : mx_C l E M_Mo_rankOf 1 0 0 [.ref (mo), .int (nI (h)), .int (nI (g))] (t, S, I, P, J) (mx_ri (I (mo + 1) (67 + 8 * h + g)) (t, S, I, P, J)) := by
  obtain ⟨hM0, hMp1, hMp2, hMp4, hMp5, hMp7, hMp14, hMp21, hMp22, hMp23, hMp24, hMp25, hMp26, hMp27, hMs1, hMs2, hMs3, hMs4, hMs5, hMs6, hMs7, hMs8, hMs9, hMs10, hMs11, hMs12, hMs13⟩ := id hM
  refine mx_C_of (ls0 := [some (.ref (mo)), some (.int (nI (h))), some (.int (nI (g)))]) (by decide +kernel) rfl rfl (Nat.le_of_ble_eq_true rfl) rfl ?_
  refine mx_al0 d_Mo_rankOf_0 ?_
  refine mx_getR d_Mo_rankOf_1 fl_Mo_7 (by assumption) (by assumption) ?_
  refine mx_bip 67 d_Mo_rankOf_4 (by decide) ?_
  refine mx_bip 8 d_Mo_rankOf_6 (by decide) ?_
  refine mx_il1 d_Mo_rankOf_8 ?_
  refine mx_imulN d_Mo_rankOf_9 ?_
  refine mx_iaddN d_Mo_rankOf_10 ?_
  refine mx_il2 d_Mo_rankOf_11 ?_
  refine mx_iaddN d_Mo_rankOf_12 ?_
  refine mx_iald d_Mo_rankOf_13 (by assumption) (nI_inb (by omega) (by omega)) ?_
  refine mx_ti (y := I (mo + 1) (67 + 8 * h + g)) (by rw [nI_clamp (by omega)]) ?_
  exact mx_iret d_Mo_rankOf_14 rfl (mx_ri_of (by rfl))
theorem c_Mo_lovedOf (hM : mo_ok S P mo) {h g : Nat} (hh : h < 8) (hg : g < 8) : mx_C l E M_Mo_lovedOf 1 0 0 [.ref (mo), .int (nI (h)), .int (nI (g))] (t, S, I, P, J) (mx_ri (I (mo + 1) (131 + 8 * g + h)) (t, S, I, P, J)) := by
  obtain ⟨hM0, hMp1, hMp2, hMp4, hMp5, hMp7, hMp14, hMp21, hMp22, hMp23, hMp24, hMp25, hMp26, hMp27, hMs1, hMs2, hMs3, hMs4, hMs5, hMs6, hMs7, hMs8, hMs9, hMs10, hMs11, hMs12, hMs13⟩ := id hM
  refine mx_C_of (ls0 := [some (.ref (mo)), some (.int (nI (h))), some (.int (nI (g)))]) (by decide +kernel) rfl rfl (Nat.le_of_ble_eq_true rfl) rfl ?_
  refine mx_al0 d_Mo_lovedOf_0 ?_
  refine mx_getR d_Mo_lovedOf_1 fl_Mo_7 (by assumption) (by assumption) ?_
  refine mx_sip 131 d_Mo_lovedOf_4 (by decide) ?_
  refine mx_bip 8 d_Mo_lovedOf_7 (by decide) ?_
  refine mx_il2 d_Mo_lovedOf_9 ?_
  refine mx_imulN d_Mo_lovedOf_10 ?_
  refine mx_iaddN d_Mo_lovedOf_11 ?_
  refine mx_il1 d_Mo_lovedOf_12 ?_
  refine mx_iaddN d_Mo_lovedOf_13 ?_
  refine mx_iald d_Mo_lovedOf_14 (by assumption) (nI_inb (by omega) (by omega)) ?_
  refine mx_ti (y := I (mo + 1) (131 + 8 * g + h)) (by rw [nI_clamp (by omega)]) ?_
  exact mx_iret d_Mo_lovedOf_15 rfl (mx_ri_of (by rfl))
theorem c_Mo_bookedIn (hM : mo_ok S P mo) {h q : Nat} (hh : h < 8) (hq : q < 8) : mx_C l E M_Mo_bookedIn 1 0 0 [.ref (mo), .int (nI (h)), .int (nI (q))] (t, S, I, P, J) (mx_ri (I (mo + 1) (195 + 8 * h + q)) (t, S, I, P, J)) := by
  obtain ⟨hM0, hMp1, hMp2, hMp4, hMp5, hMp7, hMp14, hMp21, hMp22, hMp23, hMp24, hMp25, hMp26, hMp27, hMs1, hMs2, hMs3, hMs4, hMs5, hMs6, hMs7, hMs8, hMs9, hMs10, hMs11, hMs12, hMs13⟩ := id hM
  refine mx_C_of (ls0 := [some (.ref (mo)), some (.int (nI (h))), some (.int (nI (q)))]) (by decide +kernel) rfl rfl (Nat.le_of_ble_eq_true rfl) rfl ?_
  refine mx_al0 d_Mo_bookedIn_0 ?_
  refine mx_getR d_Mo_bookedIn_1 fl_Mo_7 (by assumption) (by assumption) ?_
  refine mx_sip 195 d_Mo_bookedIn_4 (by decide) ?_
  refine mx_bip 8 d_Mo_bookedIn_7 (by decide) ?_
  refine mx_il1 d_Mo_bookedIn_9 ?_
  refine mx_imulN d_Mo_bookedIn_10 ?_
  refine mx_iaddN d_Mo_bookedIn_11 ?_
  refine mx_il2 d_Mo_bookedIn_12 ?_
  refine mx_iaddN d_Mo_bookedIn_13 ?_
  refine mx_iald d_Mo_bookedIn_14 (by assumption) (nI_inb (by omega) (by omega)) ?_
  refine mx_ti (y := I (mo + 1) (195 + 8 * h + q)) (by rw [nI_clamp (by omega)]) ?_
  exact mx_iret d_Mo_bookedIn_15 rfl (mx_ri_of (by rfl))
theorem c_Mo_put (hM : mo_ok S P mo) {h k : Nat} {v : Int32} (hh : h < 8) (hk : k < 4) : mx_C l E M_Mo_put 1 0 0 [.ref (mo), .int (nI (h)), .int (nI (k)), .int (v)] (t, S, I, P, J) (mx_rv (t, S, mx_up I (mo + 1) (11 + 4 * h + k) v, P, J)) := by
  obtain ⟨hM0, hMp1, hMp2, hMp4, hMp5, hMp7, hMp14, hMp21, hMp22, hMp23, hMp24, hMp25, hMp26, hMp27, hMs1, hMs2, hMs3, hMs4, hMs5, hMs6, hMs7, hMs8, hMs9, hMs10, hMs11, hMs12, hMs13⟩ := id hM
  refine mx_C_of (ls0 := [some (.ref (mo)), some (.int (nI (h))), some (.int (nI (k))), some (.int (v))]) (by decide +kernel) rfl rfl (Nat.le_of_ble_eq_true rfl) rfl ?_
  refine mx_al0 d_Mo_put_0 ?_
  refine mx_getR d_Mo_put_1 fl_Mo_7 (by assumption) (by assumption) ?_
  refine mx_bip 11 d_Mo_put_4 (by decide) ?_
  refine mx_in_4 d_Mo_put_6 ?_
  refine mx_il1 d_Mo_put_7 ?_
  refine mx_imulN d_Mo_put_8 ?_
  refine mx_iaddN d_Mo_put_9 ?_
  refine mx_il2 d_Mo_put_10 ?_
  refine mx_iaddN d_Mo_put_11 ?_
  refine mx_il3 d_Mo_put_12 ?_
  refine mx_iast d_Mo_put_13 (by assumption) (nI_inb (by omega) (by omega)) ?_
  rw [nI_clamp (by omega)]
  exact mx_vret d_Mo_put_14 rfl (mx_rv_of (by rfl))
/-- x is one of the numbers 0 to n - 1 -/
def vs_isN (x : Int32) (n : Nat) : Bool := decide (0 ≤ x) && decide (x < nI n)
theorem vs_isN_of {x : Int32} {n : Nat} (hn : n < 1000) (h : vs_isN x n = true) : ∃ k, k < n ∧ x = nI k := by
  simp only [vs_isN, Bool.and_eq_true, decide_eq_true_eq] at h
  obtain ⟨j, hj, rfl⟩ := nI_of (x := x) (Int32.not_lt.mpr h.1)
  exact ⟨j, (nI_ltI hj (by omega)).mp h.2, rfl⟩
theorem vs_isN_k {k n : Nat} (hn : n < 1000) (h : k < n) : vs_isN (nI k) n = true := by
  simp only [vs_isN, Bool.and_eq_true, decide_eq_true_eq]
  exact ⟨nI_pos' (by omega), (nI_ltI (by omega) (by omega)).mpr h⟩
theorem vs_isN_le {x : Int32} {n : Nat} (hn : n ≤ 8) : (decide (nI 0 ≤ x) && decide (x ≤ nI n - nI 1)) = vs_isN x n := by
  unfold vs_isN
  have h0 : (nI 0 : Int32) = 0 := rfl
  rw [h0]
  by_cases h : 0 ≤ x
  · obtain ⟨j, hj, rfl⟩ := nI_of (x := x) (Int32.not_lt.mpr h)
    cases n with
    | zero =>
      have h1 : ¬ nI j ≤ nI 0 - nI 1 := by
        rw [show nI 0 - nI 1 = (-1 : Int32) by decide, Int32.le_iff_toInt_le, nI_toInt hj]
        have : (-1 : Int32).toInt = -1 := by decide
        omega
      have h2 : ¬ nI j < nI 0 := fun z => by have := (nI_ltI hj (by omega)).mp z; omega
      simp [h1, h2]
    | succ n =>
      rw [nI_sub (by omega), show n + 1 - 1 = n by omega]
      have h1 : (nI j ≤ nI n) ↔ nI j < nI (n + 1) := by
        rw [nI_leI hj (by omega), nI_ltI hj (by omega)]; omega
      simp only [h1]
  · simp [h]
theorem c_Mo_isHost (hM : mo_ok S P mo) {H : Nat} (hH : I (mo + 1) 3 = nI H) (hH8 : H ≤ 8) {x : Int32} : mx_C l E M_Mo_isHost 1 0 0 [.ref (mo), .int (x)] (t, S, I, P, J) (mx_ri (bI (vs_isN x H)) (t, S, I, P, J)) := by
  obtain ⟨hM0, hMp1, hMp2, hMp4, hMp5, hMp7, hMp14, hMp21, hMp22, hMp23, hMp24, hMp25, hMp26, hMp27, hMs1, hMs2, hMs3, hMs4, hMs5, hMs6, hMs7, hMs8, hMs9, hMs10, hMs11, hMs12, hMs13⟩ := id hM
  refine mx_C_of (ls0 := [some (.ref (mo)), some (.int (x))]) (by decide +kernel) rfl rfl (Nat.le_of_ble_eq_true rfl) rfl ?_
  refine mx_il1 d_Mo_isHost_0 ?_
  refine mx_in_0 d_Mo_isHost_1 ?_
  refine mx_al0 d_Mo_isHost_2 ?_
  refine mx_getR d_Mo_isHost_3 fl_Mo_7 (by assumption) (by assumption) ?_
  refine mx_in_3 d_Mo_isHost_6 ?_
  refine mx_iald d_Mo_isHost_7 (by assumption) (nI_inb (by omega) (by omega)) ?_
  refine mx_ti (y := I (mo + 1) (3)) (by rw [nI_clamp (by omega)]) ?_
  refine mx_ti (y := nI (H)) (hH) ?_
  refine mx_in_1 d_Mo_isHost_8 ?_
  refine mx_isub d_Mo_isHost_9 ?_
  refine mx_cS3i d_Mo_isHost_10 (c_Mo_isIn) ok_Mo_isIn ml_Mo_57 (by decide) (Nat.le_of_ble_eq_true rfl) ?_
  exact mx_zret d_Mo_isHost_13 rfl (bI_01 _) (mx_ri_of (by rw [vs_isN_le hH8]))
theorem c_Mo_isGuest (hM : mo_ok S P mo) {G : Nat} (hG : I (mo + 1) 4 = nI G) (hG8 : G ≤ 8) {x : Int32} : mx_C l E M_Mo_isGuest 1 0 0 [.ref (mo), .int (x)] (t, S, I, P, J) (mx_ri (bI (vs_isN x G)) (t, S, I, P, J)) := by
  obtain ⟨hM0, hMp1, hMp2, hMp4, hMp5, hMp7, hMp14, hMp21, hMp22, hMp23, hMp24, hMp25, hMp26, hMp27, hMs1, hMs2, hMs3, hMs4, hMs5, hMs6, hMs7, hMs8, hMs9, hMs10, hMs11, hMs12, hMs13⟩ := id hM
  refine mx_C_of (ls0 := [some (.ref (mo)), some (.int (x))]) (by decide +kernel) rfl rfl (Nat.le_of_ble_eq_true rfl) rfl ?_
  refine mx_il1 d_Mo_isGuest_0 ?_
  refine mx_in_0 d_Mo_isGuest_1 ?_
  refine mx_al0 d_Mo_isGuest_2 ?_
  refine mx_getR d_Mo_isGuest_3 fl_Mo_7 (by assumption) (by assumption) ?_
  refine mx_in_4 d_Mo_isGuest_6 ?_
  refine mx_iald d_Mo_isGuest_7 (by assumption) (nI_inb (by omega) (by omega)) ?_
  refine mx_ti (y := I (mo + 1) (4)) (by rw [nI_clamp (by omega)]) ?_
  refine mx_ti (y := nI (G)) (hG) ?_
  refine mx_in_1 d_Mo_isGuest_8 ?_
  refine mx_isub d_Mo_isGuest_9 ?_
  refine mx_cS3i d_Mo_isGuest_10 (c_Mo_isIn) ok_Mo_isIn ml_Mo_57 (by decide) (Nat.le_of_ble_eq_true rfl) ?_
  exact mx_zret d_Mo_isGuest_13 rfl (bI_01 _) (mx_ri_of (by rw [vs_isN_le hG8]))
theorem c_Mo_isQuarter {x : Int32} : mx_C l E M_Mo_isQuarter 1 0 0 [.int (x)] (t, S, I, P, J) (mx_ri (bI (vs_isN x 8)) (t, S, I, P, J)) := by
  refine mx_C_of (ls0 := [some (.int (x))]) (by decide +kernel) rfl rfl (Nat.le_of_ble_eq_true rfl) rfl ?_
  refine mx_il0 d_Mo_isQuarter_0 ?_
  refine mx_in_0 d_Mo_isQuarter_1 ?_
  refine mx_bip 7 d_Mo_isQuarter_2 (by decide) ?_
  refine mx_cS3i d_Mo_isQuarter_4 (c_Mo_isIn) ok_Mo_isIn ml_Mo_57 (by decide) (Nat.le_of_ble_eq_true rfl) ?_
  exact mx_zret d_Mo_isQuarter_7 rfl (bI_01 _) (mx_ri_of (by rw [← vs_isN_le (n := 8) (by omega), nI_sub (by omega)]))
def vs_pass (m : Nat → Int32) (x : Int32) : Bool := decide (x &&& m 7 = m 7) && decide (x &&& m 8 = 0)
theorem c_Mo_passes (hM : mo_ok S P mo) {x : Int32} : mx_C l E M_Mo_passes 1 0 0 [.ref (mo), .int (x)] (t, S, I, P, J) (mx_ri (bI (vs_pass (I (mo + 1)) x)) (t, S, I, P, J)) := by
  obtain ⟨hM0, hMp1, hMp2, hMp4, hMp5, hMp7, hMp14, hMp21, hMp22, hMp23, hMp24, hMp25, hMp26, hMp27, hMs1, hMs2, hMs3, hMs4, hMs5, hMs6, hMs7, hMs8, hMs9, hMs10, hMs11, hMs12, hMs13⟩ := id hM
  refine mx_C_of (ls0 := [some (.ref (mo)), some (.int (x))]) (by decide +kernel) rfl rfl (Nat.le_of_ble_eq_true rfl) rfl ?_
  refine mx_il1 d_Mo_passes_0 ?_
  refine mx_al0 d_Mo_passes_1 ?_
  refine mx_getR d_Mo_passes_2 fl_Mo_7 (by assumption) (by assumption) ?_
  refine mx_bip 7 d_Mo_passes_5 (by decide) ?_
  refine mx_iald d_Mo_passes_7 (by assumption) (nI_inb (by omega) (by omega)) ?_
  refine mx_ti (y := I (mo + 1) (7)) (by rw [nI_clamp (by omega)]) ?_
  refine mx_iand d_Mo_passes_8 ?_
  refine mx_al0 d_Mo_passes_9 ?_
  refine mx_getR d_Mo_passes_10 fl_Mo_7 (by assumption) (by assumption) ?_
  refine mx_bip 7 d_Mo_passes_13 (by decide) ?_
  refine mx_iald d_Mo_passes_15 (by assumption) (nI_inb (by omega) (by omega)) ?_
  refine mx_ti (y := I (mo + 1) (7)) (by rw [nI_clamp (by omega)]) ?_
  refine mx_icmp_ne 35 d_Mo_passes_16 (by decide) (fun c_16 => ?_) (fun c_16 => ?_)
  · skip
    refine mx_in_0 d_Mo_passes_35 ?_
    exact mx_zret d_Mo_passes_36 rfl (by first | exact Or.inl rfl | exact Or.inr rfl) (mx_ri_of (by simp [bI, vs_pass, *]))
  · skip
    refine mx_il1 d_Mo_passes_19 ?_
    refine mx_al0 d_Mo_passes_20 ?_
    refine mx_getR d_Mo_passes_21 fl_Mo_7 (by assumption) (by assumption) ?_
    refine mx_bip 8 d_Mo_passes_24 (by decide) ?_
    refine mx_iald d_Mo_passes_26 (by assumption) (nI_inb (by omega) (by omega)) ?_
    refine mx_ti (y := I (mo + 1) (8)) (by rw [nI_clamp (by omega)]) ?_
    refine mx_iand d_Mo_passes_27 ?_
    refine mx_if_ne 35 d_Mo_passes_28 (by decide) (fun c_28 => ?_) (fun c_28 => ?_)
    · skip
      refine mx_in_0 d_Mo_passes_35 ?_
      exact mx_zret d_Mo_passes_36 rfl (by first | exact Or.inl rfl | exact Or.inr rfl) (mx_ri_of (by simp [bI, vs_pass, *]))
    · skip
      refine mx_in_1 d_Mo_passes_31 ?_
      refine mx_goto 36 d_Mo_passes_32 (by decide) ?_
      exact mx_zret d_Mo_passes_36 rfl (by first | exact Or.inl rfl | exact Or.inr rfl) (mx_ri_of (by simp [bI, vs_pass, *]))
def vs_may (m : Nat → Int32) (h g : Nat) : Bool := decide (0 < m (67 + 8 * h + g)) && decide (0 < m (131 + 8 * g + h))
theorem c_Mo_mayMeet (hM : mo_ok S P mo) {h g : Nat} (hh : h < 8) (hg : g < 8) : mx_C l E M_Mo_mayMeet 2 0 0 [.ref (mo), .int (nI (h)), .int (nI (g))] (t, S, I, P, J) (mx_ri (bI (vs_may (I (mo + 1)) h g)) (t, S, I, P, J)) := by
  obtain ⟨hM0, hMp1, hMp2, hMp4, hMp5, hMp7, hMp14, hMp21, hMp22, hMp23, hMp24, hMp25, hMp26, hMp27, hMs1, hMs2, hMs3, hMs4, hMs5, hMs6, hMs7, hMs8, hMs9, hMs10, hMs11, hMs12, hMs13⟩ := id hM
  refine mx_C_of (ls0 := [some (.ref (mo)), some (.int (nI (h))), some (.int (nI (g)))]) (by decide +kernel) rfl rfl (Nat.le_of_ble_eq_true rfl) rfl ?_
  refine mx_al0 d_Mo_mayMeet_0 ?_
  refine mx_il1 d_Mo_mayMeet_1 ?_
  refine mx_il2 d_Mo_mayMeet_2 ?_
  refine mx_cV2i d_Mo_mayMeet_3 (c_Mo_rankOf hM (h := h) (g := g) (by omega) (by omega)) ok_Mo_rankOf ml_Mo_61 (by assumption) ⟨rfl, rfl⟩ (by decide) (Nat.le_of_ble_eq_true rfl) ?_
  refine mx_if_le 22 d_Mo_mayMeet_6 (by decide) (fun c_6 => ?_) (fun c_6 => ?_)
  · skip
    refine mx_in_0 d_Mo_mayMeet_22 ?_
    exact mx_zret d_Mo_mayMeet_23 rfl (by first | exact Or.inl rfl | exact Or.inr rfl) (mx_ri_of (by first | (simp [bI, vs_may, Int32.not_le.mp c_6, Int32.not_le.mp c_15]; done) | (simp [bI, vs_may, Int32.not_lt.mpr c_6]; done) | simp [bI, vs_may, Int32.not_lt.mpr c_15]))
  · skip
    refine mx_al0 d_Mo_mayMeet_9 ?_
    refine mx_il1 d_Mo_mayMeet_10 ?_
    refine mx_il2 d_Mo_mayMeet_11 ?_
    refine mx_cV2i d_Mo_mayMeet_12 (c_Mo_lovedOf hM (h := h) (g := g) (by omega) (by omega)) ok_Mo_lovedOf ml_Mo_65 (by assumption) ⟨rfl, rfl⟩ (by decide) (Nat.le_of_ble_eq_true rfl) ?_
    refine mx_if_le 22 d_Mo_mayMeet_15 (by decide) (fun c_15 => ?_) (fun c_15 => ?_)
    · skip
      refine mx_in_0 d_Mo_mayMeet_22 ?_
      exact mx_zret d_Mo_mayMeet_23 rfl (by first | exact Or.inl rfl | exact Or.inr rfl) (mx_ri_of (by first | (simp [bI, vs_may, Int32.not_le.mp c_6, Int32.not_le.mp c_15]; done) | (simp [bI, vs_may, Int32.not_lt.mpr c_6]; done) | simp [bI, vs_may, Int32.not_lt.mpr c_15]))
    · skip
      refine mx_in_1 d_Mo_mayMeet_18 ?_
      refine mx_goto 23 d_Mo_mayMeet_19 (by decide) ?_
      exact mx_zret d_Mo_mayMeet_23 rfl (by first | exact Or.inl rfl | exact Or.inr rfl) (mx_ri_of (by first | (simp [bI, vs_may, Int32.not_le.mp c_6, Int32.not_le.mp c_15]; done) | (simp [bI, vs_may, Int32.not_lt.mpr c_6]; done) | simp [bI, vs_may, Int32.not_lt.mpr c_15]))
def vs_can (m : Nat → Int32) (h g q : Nat) : Bool := bt (m (11 + 4 * h + 1) &&& m (43 + 3 * g + 1)) q && vs_may m h g
theorem c_Mo_canMeet (hM : mo_ok S P mo) {h g q : Nat} (hh : h < 8) (hg : g < 8) (hq : q < 8) : mx_C l E M_Mo_canMeet 3 0 0 [.ref (mo), .int (nI (h)), .int (nI (g)), .int (nI (q))] (t, S, I, P, J) (mx_ri (bI (vs_can (I (mo + 1)) h g q)) (t, S, I, P, J)) := by
  obtain ⟨hM0, hMp1, hMp2, hMp4, hMp5, hMp7, hMp14, hMp21, hMp22, hMp23, hMp24, hMp25, hMp26, hMp27, hMs1, hMs2, hMs3, hMs4, hMs5, hMs6, hMs7, hMs8, hMs9, hMs10, hMs11, hMs12, hMs13⟩ := id hM
  refine mx_C_of (ls0 := [some (.ref (mo)), some (.int (nI (h))), some (.int (nI (g))), some (.int (nI (q)))]) (by decide +kernel) rfl rfl (Nat.le_of_ble_eq_true rfl) rfl ?_
  refine mx_al0 d_Mo_canMeet_0 ?_
  refine mx_il1 d_Mo_canMeet_1 ?_
  refine mx_in_1 d_Mo_canMeet_2 ?_
  refine mx_cV2i d_Mo_canMeet_3 (c_Mo_of hM (h := h) (k := 1) (by omega) (by omega)) ok_Mo_of ml_Mo_68 (by assumption) ⟨rfl, rfl⟩ (by decide) (Nat.le_of_ble_eq_true rfl) ?_
  refine mx_al0 d_Mo_canMeet_6 ?_
  refine mx_il2 d_Mo_canMeet_7 ?_
  refine mx_in_1 d_Mo_canMeet_8 ?_
  refine mx_cV2i d_Mo_canMeet_9 (c_Mo_ofGuest hM (g := g) (k := 1) (by omega) (by omega)) ok_Mo_ofGuest ml_Mo_71 (by assumption) ⟨rfl, rfl⟩ (by decide) (Nat.le_of_ble_eq_true rfl) ?_
  refine mx_iand d_Mo_canMeet_12 ?_
  refine mx_il3 d_Mo_canMeet_13 ?_
  refine mx_cS2i d_Mo_canMeet_14 (c_Mo_isOf (j := q) (by omega)) ok_Mo_isOf ml_Mo_74 (by decide) (Nat.le_of_ble_eq_true rfl) ?_
  refine mx_ifB_eq 33 d_Mo_canMeet_17 (by decide) (fun c_17 => ?_) (fun c_17 => ?_)
  · skip
    refine mx_in_0 d_Mo_canMeet_33 ?_
    exact mx_zret d_Mo_canMeet_34 rfl (by first | exact Or.inl rfl | exact Or.inr rfl) (mx_ri_of (by simp [bI, vs_can, *]))
  · skip
    refine mx_al0 d_Mo_canMeet_20 ?_
    refine mx_il1 d_Mo_canMeet_21 ?_
    refine mx_il2 d_Mo_canMeet_22 ?_
    refine mx_cV2i d_Mo_canMeet_23 (c_Mo_mayMeet hM (h := h) (g := g) (by omega) (by omega)) ok_Mo_mayMeet ml_Mo_78 (by assumption) ⟨rfl, rfl⟩ (by decide) (Nat.le_of_ble_eq_true rfl) ?_
    refine mx_ifB_eq 33 d_Mo_canMeet_26 (by decide) (fun c_26 => ?_) (fun c_26 => ?_)
    · skip
      refine mx_in_0 d_Mo_canMeet_33 ?_
      exact mx_zret d_Mo_canMeet_34 rfl (by first | exact Or.inl rfl | exact Or.inr rfl) (mx_ri_of (by simp [bI, vs_can, *]))
    · skip
      refine mx_in_1 d_Mo_canMeet_29 ?_
      refine mx_goto 34 d_Mo_canMeet_30 (by decide) ?_
      exact mx_zret d_Mo_canMeet_34 rfl (by first | exact Or.inl rfl | exact Or.inr rfl) (mx_ri_of (by simp [bI, vs_can, *]))
def vs_freeK (m : Nat → Int32) (h n : Nat) : Int32 := vf n (fun q s => if m (195 + 8 * h + q) = -1 then s else s &&& (nI 1 <<< (nI q &&& 31) ^^^ (-1))) (m (11 + 4 * h + 1))
theorem c_Mo_freeOf (hM : mo_ok S P mo) {h : Nat} (hh : h < 8) : mx_C l E M_Mo_freeOf 2 0 0 [.ref (mo), .int (nI (h))] (t, S, I, P, J) (mx_ri (vs_freeK (I (mo + 1)) h 8) (t, S, I, P, J)) := by
  obtain ⟨hM0, hMp1, hMp2, hMp4, hMp5, hMp7, hMp14, hMp21, hMp22, hMp23, hMp24, hMp25, hMp26, hMp27, hMs1, hMs2, hMs3, hMs4, hMs5, hMs6, hMs7, hMs8, hMs9, hMs10, hMs11, hMs12, hMs13⟩ := id hM
  refine mx_C_of (ls0 := [some (.ref (mo)), some (.int (nI (h))), none, none]) (by decide +kernel) rfl rfl (Nat.le_of_ble_eq_true rfl) rfl ?_
  refine mx_al0 d_Mo_freeOf_0 ?_
  refine mx_il1 d_Mo_freeOf_1 ?_
  refine mx_in_1 d_Mo_freeOf_2 ?_
  refine mx_cV2i d_Mo_freeOf_3 (c_Mo_of hM (h := h) (k := 1) (by omega) (by omega)) ok_Mo_of ml_Mo_68 (by assumption) ⟨rfl, rfl⟩ (by decide) (Nat.le_of_ble_eq_true rfl) ?_
  refine mx_is2 d_Mo_freeOf_6 ?_
  refine mx_in_0 d_Mo_freeOf_7 ?_
  refine mx_is3 d_Mo_freeOf_8 ?_
  refine mx_loop (N := 8) (ls := fun q => [some (.ref (mo)), some (.int (nI (h))), some (.int (vs_freeK (I (mo + 1)) h q)), some (.int (nI (q)))]) (X := fun q => (t, S, I, P, J)) (fun q hq ih => ?_) ?_
  · try dsimp only
    refine mx_il3 d_Mo_freeOf_9 ?_
    refine mx_bip 8 d_Mo_freeOf_10 (by decide) ?_
    refine mx_icN_ge 43 d_Mo_freeOf_12 (by decide) (by omega) (by omega) (fun c_12 => absurd c_12 (by omega)) (fun c_12 => ?_)
    refine mx_il2 d_Mo_freeOf_15 ?_
    refine mx_al0 d_Mo_freeOf_16 ?_
    refine mx_il1 d_Mo_freeOf_17 ?_
    refine mx_il3 d_Mo_freeOf_18 ?_
    refine mx_cV2i d_Mo_freeOf_19 (c_Mo_bookedIn hM (h := h) (q := q) (by omega) (by omega)) ok_Mo_bookedIn ml_Mo_271 (by assumption) ⟨rfl, rfl⟩ (by decide) (Nat.le_of_ble_eq_true rfl) ?_
    refine mx_ic_m1 d_Mo_freeOf_22 ?_
    refine mx_icmp_ne 30 d_Mo_freeOf_23 (by decide) (fun c_23 => ?_) (fun c_23 => ?_)
    · skip
      refine mx_in_1 d_Mo_freeOf_30 ?_
      refine mx_il3 d_Mo_freeOf_31 ?_
      refine mx_ishl d_Mo_freeOf_32 ?_
      refine mx_ic_m1 d_Mo_freeOf_33 ?_
      refine mx_ixor d_Mo_freeOf_34 ?_
      refine mx_iand d_Mo_freeOf_35 ?_
      refine mx_is2 d_Mo_freeOf_36 ?_
      refine mx_iN3 d_Mo_freeOf_37 ?_
      refine mx_goto 9 d_Mo_freeOf_40 (by decide) ?_
      have e2 : (vs_freeK (I (mo + 1)) h q &&& ((nI (1) <<< (nI (q) &&& 31)) ^^^ (-1))) = vs_freeK (I (mo + 1)) h (q + 1) := by simp [vs_freeK, vf_s, *]
      rw [e2]
      exact ih
    · skip
      refine mx_il2 d_Mo_freeOf_26 ?_
      refine mx_goto 35 d_Mo_freeOf_27 (by decide) ?_
      refine mx_iand d_Mo_freeOf_35 ?_
      refine mx_is2 d_Mo_freeOf_36 ?_
      refine mx_iN3 d_Mo_freeOf_37 ?_
      refine mx_goto 9 d_Mo_freeOf_40 (by decide) ?_
      have e2 : (vs_freeK (I (mo + 1)) h q &&& vs_freeK (I (mo + 1)) h q) = vs_freeK (I (mo + 1)) h (q + 1) := by simp [vs_freeK, vf_s, *]
      rw [e2]
      exact ih
  · try dsimp only
    refine mx_il3 d_Mo_freeOf_9 ?_
    refine mx_bip 8 d_Mo_freeOf_10 (by decide) ?_
    refine mx_icN_ge 43 d_Mo_freeOf_12 (by decide) (by omega) (by omega) (fun c_12 => ?_) (fun c_12 => absurd c_12 (by omega))
    refine mx_il2 d_Mo_freeOf_43 ?_
    exact mx_iret d_Mo_freeOf_44 rfl (mx_ri_of (by rfl))
def vs_seesK (m : Nat → Int32) (h n : Nat) : Int32 := vf n (fun q s => if m (195 + 8 * h + q) = -1 then s else s ||| (nI 1 <<< (m (195 + 8 * h + q) &&& 31))) 0
theorem c_Mo_seesOf (hM : mo_ok S P mo) {h : Nat} (hh : h < 8) : mx_C l E M_Mo_seesOf 2 0 0 [.ref (mo), .int (nI (h))] (t, S, I, P, J) (mx_ri (vs_seesK (I (mo + 1)) h 8) (t, S, I, P, J)) := by
  obtain ⟨hM0, hMp1, hMp2, hMp4, hMp5, hMp7, hMp14, hMp21, hMp22, hMp23, hMp24, hMp25, hMp26, hMp27, hMs1, hMs2, hMs3, hMs4, hMs5, hMs6, hMs7, hMs8, hMs9, hMs10, hMs11, hMs12, hMs13⟩ := id hM
  refine mx_C_of (ls0 := [some (.ref (mo)), some (.int (nI (h))), none, none]) (by decide +kernel) rfl rfl (Nat.le_of_ble_eq_true rfl) rfl ?_
  refine mx_in_0 d_Mo_seesOf_0 ?_
  refine mx_is2 d_Mo_seesOf_1 ?_
  refine mx_in_0 d_Mo_seesOf_2 ?_
  refine mx_is3 d_Mo_seesOf_3 ?_
  refine mx_loop (N := 8) (ls := fun q => [some (.ref (mo)), some (.int (nI (h))), some (.int (vs_seesK (I (mo + 1)) h q)), some (.int (nI (q)))]) (X := fun q => (t, S, I, P, J)) (fun q hq ih => ?_) ?_
  · try dsimp only
    refine mx_il3 d_Mo_seesOf_4 ?_
    refine mx_bip 8 d_Mo_seesOf_5 (by decide) ?_
    refine mx_icN_ge 41 d_Mo_seesOf_7 (by decide) (by omega) (by omega) (fun c_7 => absurd c_7 (by omega)) (fun c_7 => ?_)
    refine mx_il2 d_Mo_seesOf_10 ?_
    refine mx_al0 d_Mo_seesOf_11 ?_
    refine mx_il1 d_Mo_seesOf_12 ?_
    refine mx_il3 d_Mo_seesOf_13 ?_
    refine mx_cV2i d_Mo_seesOf_14 (c_Mo_bookedIn hM (h := h) (q := q) (by omega) (by omega)) ok_Mo_bookedIn ml_Mo_271 (by assumption) ⟨rfl, rfl⟩ (by decide) (Nat.le_of_ble_eq_true rfl) ?_
    refine mx_ic_m1 d_Mo_seesOf_17 ?_
    refine mx_icmp_ne 25 d_Mo_seesOf_18 (by decide) (fun c_18 => ?_) (fun c_18 => ?_)
    · skip
      refine mx_in_1 d_Mo_seesOf_25 ?_
      refine mx_al0 d_Mo_seesOf_26 ?_
      refine mx_il1 d_Mo_seesOf_27 ?_
      refine mx_il3 d_Mo_seesOf_28 ?_
      refine mx_cV2i d_Mo_seesOf_29 (c_Mo_bookedIn hM (h := h) (q := q) (by omega) (by omega)) ok_Mo_bookedIn ml_Mo_271 (by assumption) ⟨rfl, rfl⟩ (by decide) (Nat.le_of_ble_eq_true rfl) ?_
      refine mx_ishl d_Mo_seesOf_32 ?_
      refine mx_ior d_Mo_seesOf_33 ?_
      refine mx_is2 d_Mo_seesOf_34 ?_
      refine mx_iN3 d_Mo_seesOf_35 ?_
      refine mx_goto 4 d_Mo_seesOf_38 (by decide) ?_
      have e2 : (vs_seesK (I (mo + 1)) h q ||| (nI (1) <<< ((I (mo + 1) (195 + 8 * (h) + q)) &&& 31))) = vs_seesK (I (mo + 1)) h (q + 1) := by simp [vs_seesK, vf_s, mx_lit, *]
      rw [e2]
      exact ih
    · skip
      refine mx_in_0 d_Mo_seesOf_21 ?_
      refine mx_goto 33 d_Mo_seesOf_22 (by decide) ?_
      refine mx_ior d_Mo_seesOf_33 ?_
      refine mx_is2 d_Mo_seesOf_34 ?_
      refine mx_iN3 d_Mo_seesOf_35 ?_
      refine mx_goto 4 d_Mo_seesOf_38 (by decide) ?_
      have e2 : (vs_seesK (I (mo + 1)) h q ||| nI (0)) = vs_seesK (I (mo + 1)) h (q + 1) := by simp [vs_seesK, vf_s, mx_lit, *]
      rw [e2]
      exact ih
  · try dsimp only
    refine mx_il3 d_Mo_seesOf_4 ?_
    refine mx_bip 8 d_Mo_seesOf_5 (by decide) ?_
    refine mx_icN_ge 41 d_Mo_seesOf_7 (by decide) (by omega) (by omega) (fun c_7 => ?_) (fun c_7 => absurd c_7 (by omega))
    refine mx_il2 d_Mo_seesOf_41 ?_
    exact mx_iret d_Mo_seesOf_42 rfl (mx_ri_of (by rfl))
def vs_busyQ (m : Nat → Int32) (x : Int32) (h n : Nat) (a : Int32) : Int32 := vf n (fun q s => if m (195 + 8 * h + q) = x then s ||| (nI 1 <<< (nI q &&& 31)) else s) a
def vs_busyK (m : Nat → Int32) (x : Int32) (n : Nat) : Int32 := vf n (fun h s => vs_busyQ m x h 8 s) 0
theorem c_Mo_busyOf (hM : mo_ok S P mo) {H : Nat} (hH : I (mo + 1) 3 = nI H) (hH8 : H ≤ 8) {x : Int32} : mx_C l E M_Mo_busyOf 2 0 0 [.ref (mo), .int (x)] (t, S, I, P, J) (mx_ri (vs_busyK (I (mo + 1)) x H) (t, S, I, P, J)) := by
  obtain ⟨hM0, hMp1, hMp2, hMp4, hMp5, hMp7, hMp14, hMp21, hMp22, hMp23, hMp24, hMp25, hMp26, hMp27, hMs1, hMs2, hMs3, hMs4, hMs5, hMs6, hMs7, hMs8, hMs9, hMs10, hMs11, hMs12, hMs13⟩ := id hM
  refine mx_C_of (ls0 := [some (.ref (mo)), some (.int (x)), none, none, none]) (by decide +kernel) rfl rfl (Nat.le_of_ble_eq_true rfl) rfl ?_
  refine mx_in_0 d_Mo_busyOf_0 ?_
  refine mx_is2 d_Mo_busyOf_1 ?_
  refine mx_in_0 d_Mo_busyOf_2 ?_
  refine mx_is3 d_Mo_busyOf_3 ?_
  refine mx_loop (N := H) (ls := fun h => [some (.ref (mo)), some (.int (x)), some (.int (vs_busyK (I (mo + 1)) x h)), some (.int (nI (h))), none]) (X := fun h => (t, S, I, P, J)) (fun h hh ih => ?_) ?_
  · try dsimp only
    refine mx_il3 d_Mo_busyOf_4 ?_
    refine mx_al0 d_Mo_busyOf_5 ?_
    refine mx_getR d_Mo_busyOf_6 fl_Mo_7 (by assumption) (by assumption) ?_
    refine mx_in_3 d_Mo_busyOf_9 ?_
    refine mx_iald d_Mo_busyOf_10 (by assumption) (nI_inb (by omega) (by omega)) ?_
    refine mx_ti (y := I (mo + 1) (3)) (by rw [nI_clamp (by omega)]) ?_
    refine mx_ti (y := nI (H)) (hH) ?_
    refine mx_icN_ge 58 d_Mo_busyOf_11 (by decide) (by omega) (by omega) (fun c_11 => absurd c_11 (by omega)) (fun c_11 => ?_)
    refine mx_in_0 d_Mo_busyOf_14 ?_
    refine mx_is4 d_Mo_busyOf_15 ?_
    refine mx_loop (N := 8) (ls := fun q => [some (.ref (mo)), some (.int (x)), some (.int (vs_busyQ (I (mo + 1)) x h q (vs_busyK (I (mo + 1)) x h))), some (.int (nI (h))), some (.int (nI (q)))]) (X := fun q => (t, S, I, P, J)) (fun q hq ih => ?_) ?_
    · try dsimp only
      refine mx_il4 d_Mo_busyOf_17 ?_
      refine mx_bip 8 d_Mo_busyOf_19 (by decide) ?_
      refine mx_icN_ge 52 d_Mo_busyOf_21 (by decide) (by omega) (by omega) (fun c_21 => absurd c_21 (by omega)) (fun c_21 => ?_)
      refine mx_il2 d_Mo_busyOf_24 ?_
      refine mx_al0 d_Mo_busyOf_25 ?_
      refine mx_il3 d_Mo_busyOf_26 ?_
      refine mx_il4 d_Mo_busyOf_27 ?_
      refine mx_cV2i d_Mo_busyOf_29 (c_Mo_bookedIn hM (h := h) (q := q) (by omega) (by omega)) ok_Mo_bookedIn ml_Mo_271 (by assumption) ⟨rfl, rfl⟩ (by decide) (Nat.le_of_ble_eq_true rfl) ?_
      refine mx_il1 d_Mo_busyOf_32 ?_
      refine mx_icmp_ne 43 d_Mo_busyOf_33 (by decide) (fun c_33 => ?_) (fun c_33 => ?_)
      · skip
        refine mx_in_0 d_Mo_busyOf_43 ?_
        refine mx_ior d_Mo_busyOf_44 ?_
        refine mx_is2 d_Mo_busyOf_45 ?_
        refine mx_iN4 d_Mo_busyOf_46 ?_
        refine mx_goto 17 d_Mo_busyOf_49 (by decide) ?_
        have e2 : (vs_busyQ (I (mo + 1)) x h q (vs_busyK (I (mo + 1)) x h) ||| nI (0)) = vs_busyQ (I (mo + 1)) x h (q + 1) (vs_busyK (I (mo + 1)) x h) := by simp [vs_busyQ, vf_s, mx_lit, *]
        rw [e2]
        exact ih
      · skip
        refine mx_in_1 d_Mo_busyOf_36 ?_
        refine mx_il4 d_Mo_busyOf_37 ?_
        refine mx_ishl d_Mo_busyOf_39 ?_
        refine mx_goto 44 d_Mo_busyOf_40 (by decide) ?_
        refine mx_ior d_Mo_busyOf_44 ?_
        refine mx_is2 d_Mo_busyOf_45 ?_
        refine mx_iN4 d_Mo_busyOf_46 ?_
        refine mx_goto 17 d_Mo_busyOf_49 (by decide) ?_
        have e2 : (vs_busyQ (I (mo + 1)) x h q (vs_busyK (I (mo + 1)) x h) ||| (nI (1) <<< (nI (q) &&& 31))) = vs_busyQ (I (mo + 1)) x h (q + 1) (vs_busyK (I (mo + 1)) x h) := by simp [vs_busyQ, vf_s, mx_lit, *]
        rw [e2]
        exact ih
    · try dsimp only
      refine mx_il4 d_Mo_busyOf_17 ?_
      refine mx_bip 8 d_Mo_busyOf_19 (by decide) ?_
      refine mx_icN_ge 52 d_Mo_busyOf_21 (by decide) (by omega) (by omega) (fun c_21 => ?_) (fun c_21 => absurd c_21 (by omega))
      refine mx_iN3 d_Mo_busyOf_52 ?_
      refine mx_goto 4 d_Mo_busyOf_55 (by decide) ?_
      refine mx_dn4 ?_
      have e2 : vs_busyQ (I (mo + 1)) x h 8 (vs_busyK (I (mo + 1)) x h) = vs_busyK (I (mo + 1)) x (h + 1) := by rfl
      rw [e2]
      exact ih
  · try dsimp only
    refine mx_il3 d_Mo_busyOf_4 ?_
    refine mx_al0 d_Mo_busyOf_5 ?_
    refine mx_getR d_Mo_busyOf_6 fl_Mo_7 (by assumption) (by assumption) ?_
    refine mx_in_3 d_Mo_busyOf_9 ?_
    refine mx_iald d_Mo_busyOf_10 (by assumption) (nI_inb (by omega) (by omega)) ?_
    refine mx_ti (y := I (mo + 1) (3)) (by rw [nI_clamp (by omega)]) ?_
    refine mx_ti (y := nI (H)) (hH) ?_
    refine mx_icN_ge 58 d_Mo_busyOf_11 (by decide) (by omega) (by omega) (fun c_11 => ?_) (fun c_11 => absurd c_11 (by omega))
    refine mx_il2 d_Mo_busyOf_58 ?_
    exact mx_iret d_Mo_busyOf_59 rfl (mx_ri_of (by rfl))
def vs_likedK (m : Nat → Int32) (g n : Nat) : Int32 := vf n (fun h s => s + m (67 + 8 * h + g)) 0
theorem c_Mo_likedOf (hM : mo_ok S P mo) {H : Nat} (hH : I (mo + 1) 3 = nI H) (hH8 : H ≤ 8) {g : Nat} (hg : g < 8) : mx_C l E M_Mo_likedOf 2 0 0 [.ref (mo), .int (nI (g))] (t, S, I, P, J) (mx_ri (vs_likedK (I (mo + 1)) g H) (t, S, I, P, J)) := by
  obtain ⟨hM0, hMp1, hMp2, hMp4, hMp5, hMp7, hMp14, hMp21, hMp22, hMp23, hMp24, hMp25, hMp26, hMp27, hMs1, hMs2, hMs3, hMs4, hMs5, hMs6, hMs7, hMs8, hMs9, hMs10, hMs11, hMs12, hMs13⟩ := id hM
  refine mx_C_of (ls0 := [some (.ref (mo)), some (.int (nI (g))), none, none]) (by decide +kernel) rfl rfl (Nat.le_of_ble_eq_true rfl) rfl ?_
  refine mx_in_0 d_Mo_likedOf_0 ?_
  refine mx_is2 d_Mo_likedOf_1 ?_
  refine mx_in_0 d_Mo_likedOf_2 ?_
  refine mx_is3 d_Mo_likedOf_3 ?_
  refine mx_loop (N := H) (ls := fun h => [some (.ref (mo)), some (.int (nI (g))), some (.int (vs_likedK (I (mo + 1)) g h)), some (.int (nI (h)))]) (X := fun h => (t, S, I, P, J)) (fun h hh ih => ?_) ?_
  · try dsimp only
    refine mx_il3 d_Mo_likedOf_4 ?_
    refine mx_al0 d_Mo_likedOf_5 ?_
    refine mx_getR d_Mo_likedOf_6 fl_Mo_7 (by assumption) (by assumption) ?_
    refine mx_in_3 d_Mo_likedOf_9 ?_
    refine mx_iald d_Mo_likedOf_10 (by assumption) (nI_inb (by omega) (by omega)) ?_
    refine mx_ti (y := I (mo + 1) (3)) (by rw [nI_clamp (by omega)]) ?_
    refine mx_ti (y := nI (H)) (hH) ?_
    refine mx_icN_ge 29 d_Mo_likedOf_11 (by decide) (by omega) (by omega) (fun c_11 => absurd c_11 (by omega)) (fun c_11 => ?_)
    refine mx_il2 d_Mo_likedOf_14 ?_
    refine mx_al0 d_Mo_likedOf_15 ?_
    refine mx_il3 d_Mo_likedOf_16 ?_
    refine mx_il1 d_Mo_likedOf_17 ?_
    refine mx_cV2i d_Mo_likedOf_18 (c_Mo_rankOf hM (h := h) (g := g) (by omega) (by omega)) ok_Mo_rankOf ml_Mo_61 (by assumption) ⟨rfl, rfl⟩ (by decide) (Nat.le_of_ble_eq_true rfl) ?_
    refine mx_iadd d_Mo_likedOf_21 ?_
    refine mx_is2 d_Mo_likedOf_22 ?_
    refine mx_iN3 d_Mo_likedOf_23 ?_
    refine mx_goto 4 d_Mo_likedOf_26 (by decide) ?_
    have e2 : (vs_likedK (I (mo + 1)) g h + (I (mo + 1) (67 + 8 * (h) + g))) = vs_likedK (I (mo + 1)) g (h + 1) := by rfl
    rw [e2]
    exact ih
  · try dsimp only
    refine mx_il3 d_Mo_likedOf_4 ?_
    refine mx_al0 d_Mo_likedOf_5 ?_
    refine mx_getR d_Mo_likedOf_6 fl_Mo_7 (by assumption) (by assumption) ?_
    refine mx_in_3 d_Mo_likedOf_9 ?_
    refine mx_iald d_Mo_likedOf_10 (by assumption) (nI_inb (by omega) (by omega)) ?_
    refine mx_ti (y := I (mo + 1) (3)) (by rw [nI_clamp (by omega)]) ?_
    refine mx_ti (y := nI (H)) (hH) ?_
    refine mx_icN_ge 29 d_Mo_likedOf_11 (by decide) (by omega) (by omega) (fun c_11 => ?_) (fun c_11 => absurd c_11 (by omega))
    refine mx_il2 d_Mo_likedOf_29 ?_
    exact mx_iret d_Mo_likedOf_30 rfl (mx_ri_of (by rfl))
def vs_gladK (m : Nat → Int32) (n : Nat) : Int32 := vf n (fun h s => s + m (11 + 4 * h + 2)) 0
theorem c_Mo_gladness (hM : mo_ok S P mo) {H : Nat} (hH : I (mo + 1) 3 = nI H) (hH8 : H ≤ 8) : mx_C l E M_Mo_gladness 2 0 0 [.ref (mo)] (t, S, I, P, J) (mx_ri (vs_gladK (I (mo + 1)) H) (t, S, I, P, J)) := by
  obtain ⟨hM0, hMp1, hMp2, hMp4, hMp5, hMp7, hMp14, hMp21, hMp22, hMp23, hMp24, hMp25, hMp26, hMp27, hMs1, hMs2, hMs3, hMs4, hMs5, hMs6, hMs7, hMs8, hMs9, hMs10, hMs11, hMs12, hMs13⟩ := id hM
  refine mx_C_of (ls0 := [some (.ref (mo)), none, none]) (by decide +kernel) rfl rfl (Nat.le_of_ble_eq_true rfl) rfl ?_
  refine mx_in_0 d_Mo_gladness_0 ?_
  refine mx_is1 d_Mo_gladness_1 ?_
  refine mx_in_0 d_Mo_gladness_2 ?_
  refine mx_is2 d_Mo_gladness_3 ?_
  refine mx_loop (N := H) (ls := fun h => [some (.ref (mo)), some (.int (vs_gladK (I (mo + 1)) h)), some (.int (nI (h)))]) (X := fun h => (t, S, I, P, J)) (fun h hh ih => ?_) ?_
  · try dsimp only
    refine mx_il2 d_Mo_gladness_4 ?_
    refine mx_al0 d_Mo_gladness_5 ?_
    refine mx_getR d_Mo_gladness_6 fl_Mo_7 (by assumption) (by assumption) ?_
    refine mx_in_3 d_Mo_gladness_9 ?_
    refine mx_iald d_Mo_gladness_10 (by assumption) (nI_inb (by omega) (by omega)) ?_
    refine mx_ti (y := I (mo + 1) (3)) (by rw [nI_clamp (by omega)]) ?_
    refine mx_ti (y := nI (H)) (hH) ?_
    refine mx_icN_ge 29 d_Mo_gladness_11 (by decide) (by omega) (by omega) (fun c_11 => absurd c_11 (by omega)) (fun c_11 => ?_)
    refine mx_il1 d_Mo_gladness_14 ?_
    refine mx_al0 d_Mo_gladness_15 ?_
    refine mx_il2 d_Mo_gladness_16 ?_
    refine mx_in_2 d_Mo_gladness_17 ?_
    refine mx_cV2i d_Mo_gladness_18 (c_Mo_of hM (h := h) (k := 2) (by omega) (by omega)) ok_Mo_of ml_Mo_68 (by assumption) ⟨rfl, rfl⟩ (by decide) (Nat.le_of_ble_eq_true rfl) ?_
    refine mx_iadd d_Mo_gladness_21 ?_
    refine mx_is1 d_Mo_gladness_22 ?_
    refine mx_iN2 d_Mo_gladness_23 ?_
    refine mx_goto 4 d_Mo_gladness_26 (by decide) ?_
    have e1 : (vs_gladK (I (mo + 1)) h + (I (mo + 1) (11 + 4 * (h) + 2))) = vs_gladK (I (mo + 1)) (h + 1) := by rfl
    rw [e1]
    exact ih
  · try dsimp only
    refine mx_il2 d_Mo_gladness_4 ?_
    refine mx_al0 d_Mo_gladness_5 ?_
    refine mx_getR d_Mo_gladness_6 fl_Mo_7 (by assumption) (by assumption) ?_
    refine mx_in_3 d_Mo_gladness_9 ?_
    refine mx_iald d_Mo_gladness_10 (by assumption) (nI_inb (by omega) (by omega)) ?_
    refine mx_ti (y := I (mo + 1) (3)) (by rw [nI_clamp (by omega)]) ?_
    refine mx_ti (y := nI (H)) (hH) ?_
    refine mx_icN_ge 29 d_Mo_gladness_11 (by decide) (by omega) (by omega) (fun c_11 => ?_) (fun c_11 => absurd c_11 (by omega))
    refine mx_il1 d_Mo_gladness_29 ?_
    exact mx_iret d_Mo_gladness_30 rfl (mx_ri_of (by rfl))
end B11
