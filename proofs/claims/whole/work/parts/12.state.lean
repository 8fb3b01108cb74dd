/-! THE CLASS: People, Log, State against the reference's row -/
theorem bt_has {x : Int32} {j : Nat} (hj : j < 32) : bI (vs_has x j) = bI (bt x j) := by rw [vs_has_bt hj]
def pe_ok (S : mx_S) (P : mx_P) (pe : Nat) : Prop := S pe = some (0, 4) ∧ P pe 2 = some (pe + 1) ∧ P pe 3 = some (pe + 2) ∧ P pe 4 = some (pe + 3) ∧ P pe 5 = some (pe + 4) ∧ P pe 6 = some (pe + 5) ∧ P pe 7 = some (pe + 6) ∧ P pe 8 = some (pe + 7) ∧ S (pe + 1) = some (1, 8) ∧ S (pe + 2) = some (1, 8) ∧ S (pe + 3) = some (1, 8) ∧ S (pe + 4) = some (1, 8) ∧ S (pe + 5) = some (1, 8) ∧ S (pe + 6) = some (1, 64) ∧ S (pe + 7) = some (1, 64)
def lo_ok (S : mx_S) (P : mx_P) (lo : Nat) : Prop := S lo = some (0, 5) ∧ P lo 2 = some (lo + 1) ∧ S (lo + 1) = some (1, 360)
def st_ok (S : mx_S) (P : mx_P) (s : Nat) : Prop := S s = some (0, 6) ∧ P s 0 = some (s + 1) ∧ P s 1 = some (s + 9) ∧ P s 10 = some (s + 11) ∧ P s 11 = some (s + 12) ∧ P s 12 = some (s + 13) ∧ P s 13 = some (s + 14) ∧ S (s + 11) = some (1, 8) ∧ S (s + 12) = some (1, 8) ∧ S (s + 13) = some (1, 64) ∧ S (s + 14) = some (1, 9) ∧ pe_ok S P (s + 1) ∧ lo_ok S P (s + 9)
/-- the people at pe are those of the row m -/
def pe_rel (I : mx_I) (pe : Nat) (m : Nat → Int32) : Prop := I pe 0 = m 3 ∧ I pe 1 = m 4 ∧ (∀ h, h < 8 → I (pe + 1) h = m (11 + 4 * h + 0)) ∧ (∀ h, h < 8 → I (pe + 2) h = m (11 + 4 * h + 1)) ∧ (∀ g, g < 8 → I (pe + 3) g = m (43 + 3 * g + 0)) ∧ (∀ g, g < 8 → I (pe + 4) g = m (43 + 3 * g + 1)) ∧ (∀ g, g < 8 → I (pe + 5) g = m (43 + 3 * g + 2)) ∧ (∀ h g, h < 8 → g < 8 → I (pe + 6) (8 * h + g) = m (67 + 8 * h + g)) ∧ (∀ h g, h < 8 → g < 8 → I (pe + 7) (8 * h + g) = m (131 + 8 * g + h))
/-- the state at s, but for its log and law -/
def st_rel (I : mx_I) (s : Nat) (m : Nat → Int32) : Prop := pe_rel I (s + 1) m ∧ I s 3 = m 0 ∧ I s 4 = m 5 ∧ I s 5 = m 6 ∧ I s 6 = m 7 ∧ I s 7 = m 8 ∧ I s 8 = m 10 ∧ (∀ h, h < 8 → I (s + 11) h = m (11 + 4 * h + 2)) ∧ (∀ h, h < 8 → I (s + 12) h = m (11 + 4 * h + 3)) ∧ (∀ h q, h < 8 → q < 8 → I (s + 13) (8 * h + q) = m (195 + 8 * h + q))
/-- ranks are none below 0 -/
def rk_ok (m : Nat → Int32) : Prop := (∀ h g, h < 8 → g < 8 → 0 ≤ m (67 + 8 * h + g)) ∧ (∀ h g, h < 8 → g < 8 → 0 ≤ m (131 + 8 * g + h))
section C12
variable {l : Launch} {E : mx_Env} {t : Nat} {S : mx_S} {I : mx_I} {P : mx_P} {J : mx_G} {m : Nat → Int32} {pe s : Nat}
theorem c_Pe_rank1 (hPe : pe_ok S P pe) (hPr : pe_rel I pe m) {h g : Nat} (hh : h < 8) (hg : g < 8) : mx_C l E M_Pe_rankOf 1 0 0 [.ref (pe), .int (nI (h)), .int (nI (g)), .int (nI (1))] (t, S, I, P, J) (mx_ri (m (67 + 8 * h + g)) (t, S, I, P, J)) := by
  obtain ⟨hA0, hA1, hA2, hA3, hA4, hA5, hA6, hA7, hB1, hB2, hB3, hB4, hB5, hB6, hB7⟩ := id hPe
  obtain ⟨r0, r1, r2, r3, r4, r5, r6, r7, r8⟩ := id hPr
  refine mx_C_of (ls0 := [some (.ref (pe)), some (.int (nI (h))), some (.int (nI (g))), some (.int (nI (1)))]) (by decide +kernel) rfl rfl (Nat.le_of_ble_eq_true rfl) rfl ?_
  refine mx_il3 d_Pe_rankOf_0 ?_
  refine mx_if_eq 11 d_Pe_rankOf_1 (by decide) (fun c_1 => absurd c_1 (by decide)) (fun c_1 => ?_)
  refine mx_al0 d_Pe_rankOf_4 ?_
  refine mx_getR d_Pe_rankOf_5 fl_Pe_34 (by assumption) (by assumption) ?_
  refine mx_goto 15 d_Pe_rankOf_8 (by decide) ?_
  refine mx_bip 8 d_Pe_rankOf_15 (by decide) ?_
  refine mx_il1 d_Pe_rankOf_17 ?_
  refine mx_imulN d_Pe_rankOf_18 ?_
  refine mx_il2 d_Pe_rankOf_19 ?_
  refine mx_iaddN d_Pe_rankOf_20 ?_
  refine mx_cSN2i d_Pe_rankOf_21 (c_get (k := 8 * h + g) (by assumption) (by omega) (by omega)) ok_Vh_get ml_Pe_48 (by decide) (Nat.le_of_ble_eq_true rfl) ?_
  exact mx_iret d_Pe_rankOf_24 rfl (mx_ri_of (r7 h g hh hg))
theorem c_Pe_rank0 (hPe : pe_ok S P pe) (hPr : pe_rel I pe m) {h g : Nat} (hh : h < 8) (hg : g < 8) : mx_C l E M_Pe_rankOf 1 0 0 [.ref (pe), .int (nI (h)), .int (nI (g)), .int (nI (0))] (t, S, I, P, J) (mx_ri (m (131 + 8 * g + h)) (t, S, I, P, J)) := by
  obtain ⟨hA0, hA1, hA2, hA3, hA4, hA5, hA6, hA7, hB1, hB2, hB3, hB4, hB5, hB6, hB7⟩ := id hPe
  obtain ⟨r0, r1, r2, r3, r4, r5, r6, r7, r8⟩ := id hPr
  refine mx_C_of (ls0 := [some (.ref (pe)), some (.int (nI (h))), some (.int (nI (g))), some (.int (nI (0)))]) (by decide +kernel) rfl rfl (Nat.le_of_ble_eq_true rfl) rfl ?_
  refine mx_il3 d_Pe_rankOf_0 ?_
  refine mx_if_eq 11 d_Pe_rankOf_1 (by decide) (fun c_1 => ?_) (fun c_1 => absurd (by decide) c_1)
  refine mx_al0 d_Pe_rankOf_11 ?_
  refine mx_getR d_Pe_rankOf_12 fl_Pe_37 (by assumption) (by assumption) ?_
  refine mx_bip 8 d_Pe_rankOf_15 (by decide) ?_
  refine mx_il1 d_Pe_rankOf_17 ?_
  refine mx_imulN d_Pe_rankOf_18 ?_
  refine mx_il2 d_Pe_rankOf_19 ?_
  refine mx_iaddN d_Pe_rankOf_20 ?_
  refine mx_cSN2i d_Pe_rankOf_21 (c_get (k := 8 * h + g) (by assumption) (by omega) (by omega)) ok_Vh_get ml_Pe_48 (by decide) (Nat.le_of_ble_eq_true rfl) ?_
  exact mx_iret d_Pe_rankOf_24 rfl (mx_ri_of (r8 h g hh hg))
theorem may_of {h g : Nat} (hk : rk_ok m) (hh : h < 8) (hg : g < 8) : vs_may m h g = (decide (¬ m (67 + 8 * h + g) = 0) && decide (¬ m (131 + 8 * g + h) = 0)) := by
  have e : ∀ x : Int32, 0 ≤ x → (decide (0 < x) = decide (¬ x = 0)) := by
    intro x hx
    obtain ⟨j, hj, rfl⟩ := nI_of (x := x) (Int32.not_lt.mpr hx)
    cases j with
    | zero => decide
    | succ j =>
      have h1 : (0 : Int32) < nI (j + 1) := (nI_ltI (a := 0) (by omega) hj).mpr (by omega)
      have h2 : ¬ nI (j + 1) = 0 := nI_ne0 (by omega) hj
      simp [h1, h2]
  unfold vs_may
  rw [e _ (hk.1 h g hh hg), e _ (hk.2 h g hh hg)]
theorem c_Pe_mayMeet (hPe : pe_ok S P pe) (hPr : pe_rel I pe m) (hk : rk_ok m) {h g : Nat} (hh : h < 8) (hg : g < 8) : mx_C l E M_Pe_mayMeet 2 0 0 [.ref (pe), .int (nI (h)), .int (nI (g))] (t, S, I, P, J) (mx_ri (bI (vs_may m h g)) (t, S, I, P, J)) := by
  obtain ⟨hA0, hA1, hA2, hA3, hA4, hA5, hA6, hA7, hB1, hB2, hB3, hB4, hB5, hB6, hB7⟩ := id hPe
  obtain ⟨r0, r1, r2, r3, r4, r5, r6, r7, r8⟩ := id hPr
  refine mx_C_of (ls0 := [some (.ref (pe)), some (.int (nI (h))), some (.int (nI (g)))]) (by decide +kernel) rfl rfl (Nat.le_of_ble_eq_true rfl) rfl ?_
  refine mx_al0 d_Pe_mayMeet_0 ?_
  refine mx_il1 d_Pe_mayMeet_1 ?_
  refine mx_il2 d_Pe_mayMeet_2 ?_
  refine mx_in_1 d_Pe_mayMeet_3 ?_
  refine mx_cV3i d_Pe_mayMeet_4 (c_Pe_rank1 hPe hPr (h := h) (g := g) (by omega) (by omega)) ok_Pe_rankOf ml_Pe_52 (by assumption) ⟨rfl, rfl⟩ (by decide) (Nat.le_of_ble_eq_true rfl) ?_
  refine mx_if_eq 24 d_Pe_mayMeet_7 (by decide) (fun c_7 => ?_) (fun c_7 => ?_)
  · skip
    refine mx_in_0 d_Pe_mayMeet_24 ?_
    exact mx_zret d_Pe_mayMeet_25 rfl (by first | exact Or.inl rfl | exact Or.inr rfl) (mx_ri_of (by rw [may_of hk hh hg]; simp [bI, *]))
  · skip
    refine mx_al0 d_Pe_mayMeet_10 ?_
    refine mx_il1 d_Pe_mayMeet_11 ?_
    refine mx_il2 d_Pe_mayMeet_12 ?_
    refine mx_in_0 d_Pe_mayMeet_13 ?_
    refine mx_cV3i d_Pe_mayMeet_14 (c_Pe_rank0 hPe hPr (h := h) (g := g) (by omega) (by omega)) ok_Pe_rankOf ml_Pe_52 (by assumption) ⟨rfl, rfl⟩ (by decide) (Nat.le_of_ble_eq_true rfl) ?_
    refine mx_if_eq 24 d_Pe_mayMeet_17 (by decide) (fun c_17 => ?_) (fun c_17 => ?_)
    · skip
      refine mx_in_0 d_Pe_mayMeet_24 ?_
      exact mx_zret d_Pe_mayMeet_25 rfl (by first | exact Or.inl rfl | exact Or.inr rfl) (mx_ri_of (by rw [may_of hk hh hg]; simp [bI, *]))
    · skip
      refine mx_in_1 d_Pe_mayMeet_20 ?_
      refine mx_goto 25 d_Pe_mayMeet_21 (by decide) ?_
      exact mx_zret d_Pe_mayMeet_25 rfl (by first | exact Or.inl rfl | exact Or.inr rfl) (mx_ri_of (by rw [may_of hk hh hg]; simp [bI, *]))
theorem c_Pe_canMeet (hPe : pe_ok S P pe) (hPr : pe_rel I pe m) (hk : rk_ok m) {h g q : Nat} (hh : h < 8) (hg : g < 8) (hq : q < 8) : mx_C l E M_Pe_canMeet 3 0 0 [.ref (pe), .int (nI (h)), .int (nI (g)), .int (nI (q))] (t, S, I, P, J) (mx_ri (bI (vs_can m h g q)) (t, S, I, P, J)) := by
  obtain ⟨hA0, hA1, hA2, hA3, hA4, hA5, hA6, hA7, hB1, hB2, hB3, hB4, hB5, hB6, hB7⟩ := id hPe
  obtain ⟨r0, r1, r2, r3, r4, r5, r6, r7, r8⟩ := id hPr
  refine mx_C_of (ls0 := [some (.ref (pe)), some (.int (nI (h))), some (.int (nI (g))), some (.int (nI (q)))]) (by decide +kernel) rfl rfl (Nat.le_of_ble_eq_true rfl) rfl ?_
  refine mx_al0 d_Pe_canMeet_0 ?_
  refine mx_getR d_Pe_canMeet_1 fl_Pe_22 (by assumption) (by assumption) ?_
  refine mx_il1 d_Pe_canMeet_4 ?_
  refine mx_cSN2i d_Pe_canMeet_5 (c_get (k := h) (by assumption) (by omega) (by omega)) ok_Vh_get ml_Pe_48 (by decide) (Nat.le_of_ble_eq_true rfl) ?_
  refine mx_al0 d_Pe_canMeet_8 ?_
  refine mx_getR d_Pe_canMeet_9 fl_Pe_28 (by assumption) (by assumption) ?_
  refine mx_il2 d_Pe_canMeet_12 ?_
  refine mx_cSN2i d_Pe_canMeet_13 (c_get (k := g) (by assumption) (by omega) (by omega)) ok_Vh_get ml_Pe_48 (by decide) (Nat.le_of_ble_eq_true rfl) ?_
  refine mx_iand d_Pe_canMeet_16 ?_
  refine mx_il3 d_Pe_canMeet_17 ?_
  refine mx_cSN2i d_Pe_canMeet_18 (c_has (j := q) (by omega)) ok_Vh_has ml_Pe_56 (by decide) (Nat.le_of_ble_eq_true rfl) ?_
  rw [vs_has_bt (by omega), r3 h hh, r5 g hg]
  refine mx_ifB_eq 37 d_Pe_canMeet_21 (by decide) (fun c_21 => ?_) (fun c_21 => ?_)
  · skip
    refine mx_in_0 d_Pe_canMeet_37 ?_
    exact mx_zret d_Pe_canMeet_38 rfl (by first | exact Or.inl rfl | exact Or.inr rfl) (mx_ri_of (by simp_all [bI, vs_can, vs_has_bt]))
  · skip
    refine mx_al0 d_Pe_canMeet_24 ?_
    refine mx_il1 d_Pe_canMeet_25 ?_
    refine mx_il2 d_Pe_canMeet_26 ?_
    refine mx_cV2i d_Pe_canMeet_27 (c_Pe_mayMeet hPe hPr hk (h := h) (g := g) (by omega) (by omega)) ok_Pe_mayMeet ml_Pe_60 (by assumption) ⟨rfl, rfl⟩ (by decide) (Nat.le_of_ble_eq_true rfl) ?_
    refine mx_ifB_eq 37 d_Pe_canMeet_30 (by decide) (fun c_30 => ?_) (fun c_30 => ?_)
    · skip
      refine mx_in_0 d_Pe_canMeet_37 ?_
      exact mx_zret d_Pe_canMeet_38 rfl (by first | exact Or.inl rfl | exact Or.inr rfl) (mx_ri_of (by simp_all [bI, vs_can, vs_has_bt]))
    · skip
      refine mx_in_1 d_Pe_canMeet_33 ?_
      refine mx_goto 38 d_Pe_canMeet_34 (by decide) ?_
      exact mx_zret d_Pe_canMeet_38 rfl (by first | exact Or.inl rfl | exact Or.inr rfl) (mx_ri_of (by simp_all [bI, vs_can, vs_has_bt]))
theorem c_Pe_likedOf (hPe : pe_ok S P pe) (hPr : pe_rel I pe m) {H : Nat} (hH : m 3 = nI H) (hH8 : H ≤ 8) {g : Nat} (hg : g < 8) : mx_C l E M_Pe_likedOf 2 0 0 [.ref (pe), .int (nI (g))] (t, S, I, P, J) (mx_ri (vs_likedK m g H) (t, S, I, P, J)) := by
  obtain ⟨hA0, hA1, hA2, hA3, hA4, hA5, hA6, hA7, hB1, hB2, hB3, hB4, hB5, hB6, hB7⟩ := id hPe
  obtain ⟨r0, r1, r2, r3, r4, r5, r6, r7, r8⟩ := id hPr
  refine mx_C_of (ls0 := [some (.ref (pe)), some (.int (nI (g))), none, none]) (by decide +kernel) rfl rfl (Nat.le_of_ble_eq_true rfl) rfl ?_
  refine mx_in_0 d_Pe_likedOf_0 ?_
  refine mx_is2 d_Pe_likedOf_1 ?_
  refine mx_in_0 d_Pe_likedOf_2 ?_
  refine mx_is3 d_Pe_likedOf_3 ?_
  refine mx_loop (N := H) (ls := fun h => [some (.ref (pe)), some (.int (nI (g))), some (.int (vs_likedK m g h)), some (.int (nI (h)))]) (X := fun h => (t, S, I, P, J)) (fun h hh ih => ?_) ?_
  · try dsimp only
    refine mx_il3 d_Pe_likedOf_4 ?_
    refine mx_al0 d_Pe_likedOf_5 ?_
    refine mx_getI d_Pe_likedOf_6 fl_Pe_9 (by assumption) ?_
    refine mx_ti (y := nI (H)) (r0.trans hH) ?_
    refine mx_icN_ge 28 d_Pe_likedOf_9 (by decide) (by omega) (by omega) (fun c_9 => absurd c_9 (by omega)) (fun c_9 => ?_)
    refine mx_il2 d_Pe_likedOf_12 ?_
    refine mx_al0 d_Pe_likedOf_13 ?_
    refine mx_il3 d_Pe_likedOf_14 ?_
    refine mx_il1 d_Pe_likedOf_15 ?_
    refine mx_in_1 d_Pe_likedOf_16 ?_
    refine mx_cV3i d_Pe_likedOf_17 (c_Pe_rank1 hPe hPr (h := h) (g := g) (by omega) (by omega)) ok_Pe_rankOf ml_Pe_52 (by assumption) ⟨rfl, rfl⟩ (by decide) (Nat.le_of_ble_eq_true rfl) ?_
    refine mx_iadd d_Pe_likedOf_20 ?_
    refine mx_is2 d_Pe_likedOf_21 ?_
    refine mx_iN3 d_Pe_likedOf_22 ?_
    refine mx_goto 4 d_Pe_likedOf_25 (by decide) ?_
    have e2 : (vs_likedK m g h + (m (67 + 8 * (h) + g))) = vs_likedK m g (h + 1) := by rfl
    rw [e2]
    exact ih
  · try dsimp only
    refine mx_il3 d_Pe_likedOf_4 ?_
    refine mx_al0 d_Pe_likedOf_5 ?_
    refine mx_getI d_Pe_likedOf_6 fl_Pe_9 (by assumption) ?_
    refine mx_ti (y := nI (H)) (r0.trans hH) ?_
    refine mx_icN_ge 28 d_Pe_likedOf_9 (by decide) (by omega) (by omega) (fun c_9 => ?_) (fun c_9 => absurd c_9 (by omega))
    refine mx_il2 d_Pe_likedOf_28 ?_
    exact mx_iret d_Pe_likedOf_29 rfl (mx_ri_of (by rfl))
def vs_hoursAny (m : Nat → Int32) (h g : Nat) : Bool := decide (¬ m (11 + 4 * h + 1) &&& m (43 + 3 * g + 1) = 0) && vs_may m h g
theorem c_Pe_canMeetAny (hPe : pe_ok S P pe) (hPr : pe_rel I pe m) (hk : rk_ok m) {G : Nat} (hG : m 4 = nI G) (hG8 : G ≤ 8) {h : Nat} (hh : h < 8) : mx_C l E M_Pe_canMeetAny 3 0 0 [.ref (pe), .int (nI (h))] (t, S, I, P, J) (mx_ri (bI (vs_any (vs_hoursAny m h) G)) (t, S, I, P, J)) := by
  obtain ⟨hA0, hA1, hA2, hA3, hA4, hA5, hA6, hA7, hB1, hB2, hB3, hB4, hB5, hB6, hB7⟩ := id hPe
  obtain ⟨r0, r1, r2, r3, r4, r5, r6, r7, r8⟩ := id hPr
  refine mx_C_of (ls0 := [some (.ref (pe)), some (.int (nI (h))), none]) (by decide +kernel) rfl rfl (Nat.le_of_ble_eq_true rfl) rfl ?_
  refine mx_in_0 d_Pe_canMeetAny_0 ?_
  refine mx_is2 d_Pe_canMeetAny_1 ?_
  refine mx_loopI (N := G) (fun g => ∀ j, j < g → vs_hoursAny m h j = false) (ls := fun g => [some (.ref (pe)), some (.int (nI (h))), some (.int (nI (g)))]) (X := fun g => (t, S, I, P, J)) (by intro j hj; omega) (fun g hg hinv ih => ?_) (fun hinv => ?_)
  · try dsimp only at hinv ih ⊢
    refine mx_il2 d_Pe_canMeetAny_2 ?_
    refine mx_al0 d_Pe_canMeetAny_3 ?_
    refine mx_getI d_Pe_canMeetAny_4 fl_Pe_15 (by assumption) ?_
    refine mx_ti (y := nI (G)) (r1.trans hG) ?_
    refine mx_icN_ge 47 d_Pe_canMeetAny_7 (by decide) (by omega) (by omega) (fun c_7 => absurd c_7 (by omega)) (fun c_7 => ?_)
    refine mx_al0 d_Pe_canMeetAny_10 ?_
    refine mx_getR d_Pe_canMeetAny_11 fl_Pe_22 (by assumption) (by assumption) ?_
    refine mx_il1 d_Pe_canMeetAny_14 ?_
    refine mx_cSN2i d_Pe_canMeetAny_15 (c_get (k := h) (by assumption) (by omega) (by omega)) ok_Vh_get ml_Pe_48 (by decide) (Nat.le_of_ble_eq_true rfl) ?_
    refine mx_al0 d_Pe_canMeetAny_18 ?_
    refine mx_getR d_Pe_canMeetAny_19 fl_Pe_28 (by assumption) (by assumption) ?_
    refine mx_il2 d_Pe_canMeetAny_22 ?_
    refine mx_cSN2i d_Pe_canMeetAny_23 (c_get (k := g) (by assumption) (by omega) (by omega)) ok_Vh_get ml_Pe_48 (by decide) (Nat.le_of_ble_eq_true rfl) ?_
    refine mx_iand d_Pe_canMeetAny_26 ?_
    refine mx_ti (y := m (11 + 4 * h + 1) &&& m (43 + 3 * g + 1)) (by rw [r3 h hh, r5 g (by omega)]) ?_
    refine mx_if_eq 41 d_Pe_canMeetAny_27 (by decide) (fun c_27 => ?_) (fun c_27 => ?_)
    · skip
      refine mx_iN2 d_Pe_canMeetAny_41 ?_
      refine mx_goto 2 d_Pe_canMeetAny_44 (by decide) ?_
      exact ih (vs_next hinv (by simp [vs_hoursAny, *]))
    · skip
      refine mx_al0 d_Pe_canMeetAny_30 ?_
      refine mx_il1 d_Pe_canMeetAny_31 ?_
      refine mx_il2 d_Pe_canMeetAny_32 ?_
      refine mx_cV2i d_Pe_canMeetAny_33 (c_Pe_mayMeet hPe hPr hk (h := h) (g := g) (by omega) (by omega)) ok_Pe_mayMeet ml_Pe_60 (by assumption) ⟨rfl, rfl⟩ (by decide) (Nat.le_of_ble_eq_true rfl) ?_
      refine mx_ifB_eq 41 d_Pe_canMeetAny_36 (by decide) (fun c_36 => ?_) (fun c_36 => ?_)
      · skip
        refine mx_iN2 d_Pe_canMeetAny_41 ?_
        refine mx_goto 2 d_Pe_canMeetAny_44 (by decide) ?_
        exact ih (vs_next hinv (by simp [vs_hoursAny, *]))
      · skip
        refine mx_in_1 d_Pe_canMeetAny_39 ?_
        exact mx_zret d_Pe_canMeetAny_40 rfl (by first | exact Or.inl rfl | exact Or.inr rfl) (mx_ri_of (by rw [vs_any_t (g := g) (by omega) (by simp [vs_hoursAny, *])]; rfl))
  · try dsimp only at hinv ⊢
    refine mx_il2 d_Pe_canMeetAny_2 ?_
    refine mx_al0 d_Pe_canMeetAny_3 ?_
    refine mx_getI d_Pe_canMeetAny_4 fl_Pe_15 (by assumption) ?_
    refine mx_ti (y := nI (G)) (r1.trans hG) ?_
    refine mx_icN_ge 47 d_Pe_canMeetAny_7 (by decide) (by omega) (by omega) (fun c_7 => ?_) (fun c_7 => absurd c_7 (by omega))
    refine mx_in_0 d_Pe_canMeetAny_47 ?_
    exact mx_zret d_Pe_canMeetAny_48 rfl (by first | exact Or.inl rfl | exact Or.inr rfl) (mx_ri_of (by rw [vs_any_f hinv]; rfl))
def vs_alikeNe (m : Nat → Int32) (a b g : Nat) : Bool := decide (¬ m (67 + 8 * a + g) = m (67 + 8 * b + g))
theorem c_Pe_areAlike (hPe : pe_ok S P pe) (hPr : pe_rel I pe m) {G : Nat} (hG : m 4 = nI G) (hG8 : G ≤ 8) {a b : Nat} (ha : a < 8) (hb : b < 8) : mx_C l E M_Pe_areAlike 3 0 0 [.ref (pe), .int (nI (a)), .int (nI (b))] (t, S, I, P, J) (mx_ri (bI (!(vs_any (vs_alikeNe m a b) G) && decide (m (11 + 4 * a + 1) = m (11 + 4 * b + 1)))) (t, S, I, P, J)) := by
  obtain ⟨hA0, hA1, hA2, hA3, hA4, hA5, hA6, hA7, hB1, hB2, hB3, hB4, hB5, hB6, hB7⟩ := id hPe
  obtain ⟨r0, r1, r2, r3, r4, r5, r6, r7, r8⟩ := id hPr
  refine mx_C_of (ls0 := [some (.ref (pe)), some (.int (nI (a))), some (.int (nI (b))), none]) (by decide +kernel) rfl rfl (Nat.le_of_ble_eq_true rfl) rfl ?_
  refine mx_in_0 d_Pe_areAlike_0 ?_
  refine mx_is3 d_Pe_areAlike_1 ?_
  refine mx_loopI (N := G) (fun g => ∀ j, j < g → vs_alikeNe m a b j = false) (ls := fun g => [some (.ref (pe)), some (.int (nI (a))), some (.int (nI (b))), some (.int (nI (g)))]) (X := fun g => (t, S, I, P, J)) (by intro j hj; omega) (fun g hg hinv ih => ?_) (fun hinv => ?_)
  · try dsimp only at hinv ih ⊢
    refine mx_il3 d_Pe_areAlike_2 ?_
    refine mx_al0 d_Pe_areAlike_3 ?_
    refine mx_getI d_Pe_areAlike_4 fl_Pe_15 (by assumption) ?_
    refine mx_ti (y := nI (G)) (r1.trans hG) ?_
    refine mx_icN_ge 35 d_Pe_areAlike_7 (by decide) (by omega) (by omega) (fun c_7 => absurd c_7 (by omega)) (fun c_7 => ?_)
    refine mx_al0 d_Pe_areAlike_10 ?_
    refine mx_il1 d_Pe_areAlike_11 ?_
    refine mx_il3 d_Pe_areAlike_12 ?_
    refine mx_in_1 d_Pe_areAlike_13 ?_
    refine mx_cV3i d_Pe_areAlike_14 (c_Pe_rank1 hPe hPr (h := a) (g := g) (by omega) (by omega)) ok_Pe_rankOf ml_Pe_52 (by assumption) ⟨rfl, rfl⟩ (by decide) (Nat.le_of_ble_eq_true rfl) ?_
    refine mx_al0 d_Pe_areAlike_17 ?_
    refine mx_il2 d_Pe_areAlike_18 ?_
    refine mx_il3 d_Pe_areAlike_19 ?_
    refine mx_in_1 d_Pe_areAlike_20 ?_
    refine mx_cV3i d_Pe_areAlike_21 (c_Pe_rank1 hPe hPr (h := b) (g := g) (by omega) (by omega)) ok_Pe_rankOf ml_Pe_52 (by assumption) ⟨rfl, rfl⟩ (by decide) (Nat.le_of_ble_eq_true rfl) ?_
    refine mx_icmp_eq 29 d_Pe_areAlike_24 (by decide) (fun c_24 => ?_) (fun c_24 => ?_)
    · skip
      refine mx_iN3 d_Pe_areAlike_29 ?_
      refine mx_goto 2 d_Pe_areAlike_32 (by decide) ?_
      exact ih (vs_next hinv (by simp [vs_alikeNe, *]))
    · skip
      refine mx_in_0 d_Pe_areAlike_27 ?_
      exact mx_zret d_Pe_areAlike_28 rfl (by first | exact Or.inl rfl | exact Or.inr rfl) (mx_ri_of (by rw [vs_any_t (g := g) (by omega) (by simp [vs_alikeNe, *])]; rfl))
  · try dsimp only at hinv ⊢
    refine mx_il3 d_Pe_areAlike_2 ?_
    refine mx_al0 d_Pe_areAlike_3 ?_
    refine mx_getI d_Pe_areAlike_4 fl_Pe_15 (by assumption) ?_
    refine mx_ti (y := nI (G)) (r1.trans hG) ?_
    refine mx_icN_ge 35 d_Pe_areAlike_7 (by decide) (by omega) (by omega) (fun c_7 => ?_) (fun c_7 => absurd c_7 (by omega))
    refine mx_al0 d_Pe_areAlike_35 ?_
    refine mx_getR d_Pe_areAlike_36 fl_Pe_22 (by assumption) (by assumption) ?_
    refine mx_il1 d_Pe_areAlike_39 ?_
    refine mx_cSN2i d_Pe_areAlike_40 (c_get (k := a) (by assumption) (by omega) (by omega)) ok_Vh_get ml_Pe_48 (by decide) (Nat.le_of_ble_eq_true rfl) ?_
    refine mx_al0 d_Pe_areAlike_43 ?_
    refine mx_getR d_Pe_areAlike_44 fl_Pe_22 (by assumption) (by assumption) ?_
    refine mx_il2 d_Pe_areAlike_47 ?_
    refine mx_cSN2i d_Pe_areAlike_48 (c_get (k := b) (by assumption) (by omega) (by omega)) ok_Vh_get ml_Pe_48 (by decide) (Nat.le_of_ble_eq_true rfl) ?_
    rw [r3 a ha, r3 b hb]
    refine mx_icmp_ne 58 d_Pe_areAlike_51 (by decide) (fun c_51 => ?_) (fun c_51 => ?_)
    · skip
      refine mx_in_0 d_Pe_areAlike_58 ?_
      exact mx_zret d_Pe_areAlike_59 rfl (by first | exact Or.inl rfl | exact Or.inr rfl) (mx_ri_of (by rw [vs_any_f hinv]; simp [bI, *]))
    · skip
      refine mx_in_1 d_Pe_areAlike_54 ?_
      refine mx_goto 59 d_Pe_areAlike_55 (by decide) ?_
      exact mx_zret d_Pe_areAlike_59 rfl (by first | exact Or.inl rfl | exact Or.inr rfl) (mx_ri_of (by rw [vs_any_f hinv]; simp [bI, *]))
theorem c_St_guestAt (hSt : st_ok S P s) (hSr : st_rel I s m) {h q : Nat} (hh : h < 8) (hq : q < 8) : mx_C l E M_St_guestAt 1 0 0 [.ref (s), .int (nI (h)), .int (nI (q))] (t, S, I, P, J) (mx_ri (m (195 + 8 * h + q)) (t, S, I, P, J)) := by
  obtain ⟨hC0, hC1, hC2, hC3, hC4, hC5, hC6, hD1, hD2, hD3, hD4, hPe, hLo⟩ := id hSt
  obtain ⟨hPr, u0, u1, u2, u3, u4, u5, u6, u7, u8⟩ := id hSr
  refine mx_C_of (ls0 := [some (.ref (s)), some (.int (nI (h))), some (.int (nI (q)))]) (by decide +kernel) rfl rfl (Nat.le_of_ble_eq_true rfl) rfl ?_
  refine mx_al0 d_St_guestAt_0 ?_
  refine mx_getR d_St_guestAt_1 fl_St_54 (by assumption) (by assumption) ?_
  refine mx_bip 8 d_St_guestAt_4 (by decide) ?_
  refine mx_il1 d_St_guestAt_6 ?_
  refine mx_imulN d_St_guestAt_7 ?_
  refine mx_il2 d_St_guestAt_8 ?_
  refine mx_iaddN d_St_guestAt_9 ?_
  refine mx_cSN2i d_St_guestAt_10 (c_get (k := 8 * h + q) (by assumption) (by omega) (by omega)) ok_Vh_get ml_St_75 (by decide) (Nat.le_of_ble_eq_true rfl) ?_
  exact mx_iret d_St_guestAt_13 rfl (mx_ri_of (u8 h q hh hq))
theorem c_St_freeOf (hSt : st_ok S P s) (hSr : st_rel I s m) {h : Nat} (hh : h < 8) : mx_C l E M_St_freeOf 2 0 0 [.ref (s), .int (nI (h))] (t, S, I, P, J) (mx_ri (vs_freeK m h 8) (t, S, I, P, J)) := by
  obtain ⟨hC0, hC1, hC2, hC3, hC4, hC5, hC6, hD1, hD2, hD3, hD4, hPe, hLo⟩ := id hSt
  obtain ⟨hPr, u0, u1, u2, u3, u4, u5, u6, u7, u8⟩ := id hSr
  obtain ⟨hA0, hA1, hA2, hA3, hA4, hA5, hA6, hA7, hB1, hB2, hB3, hB4, hB5, hB6, hB7⟩ := id hPe
  obtain ⟨r0, r1, r2, r3, r4, r5, r6, r7, r8⟩ := id hPr
  refine mx_C_of (ls0 := [some (.ref (s)), some (.int (nI (h))), none, none]) (by decide +kernel) rfl rfl (Nat.le_of_ble_eq_true rfl) rfl ?_
  refine mx_al0 d_St_freeOf_0 ?_
  refine mx_getR d_St_freeOf_1 fl_St_12 (by assumption) (by assumption) ?_
  refine mx_getR d_St_freeOf_4 fl_St_83 (by assumption) (by assumption) ?_
  refine mx_il1 d_St_freeOf_7 ?_
  refine mx_cSN2i d_St_freeOf_8 (c_get (k := h) (by assumption) (by omega) (by omega)) ok_Vh_get ml_St_75 (by decide) (Nat.le_of_ble_eq_true rfl) ?_
  refine mx_ti (y := m (11 + 4 * h + 1)) (r3 h hh) ?_
  refine mx_is2 d_St_freeOf_11 ?_
  refine mx_in_0 d_St_freeOf_12 ?_
  refine mx_is3 d_St_freeOf_13 ?_
  refine mx_loop (N := 8) (ls := fun q => [some (.ref (s)), some (.int (nI (h))), some (.int (vs_freeK m h q)), some (.int (nI (q)))]) (X := fun q => (t, S, I, P, J)) (fun q hq ih => ?_) ?_
  · try dsimp only
    refine mx_il3 d_St_freeOf_14 ?_
    refine mx_bip 8 d_St_freeOf_15 (by decide) ?_
    refine mx_icN_ge 44 d_St_freeOf_17 (by decide) (by omega) (by omega) (fun c_17 => absurd c_17 (by omega)) (fun c_17 => ?_)
    refine mx_al0 d_St_freeOf_20 ?_
    refine mx_il1 d_St_freeOf_21 ?_
    refine mx_il3 d_St_freeOf_22 ?_
    refine mx_cV2i d_St_freeOf_23 (c_St_guestAt hSt hSr (h := h) (q := q) (by omega) (by omega)) ok_St_guestAt ml_St_86 (by assumption) ⟨rfl, rfl⟩ (by decide) (Nat.le_of_ble_eq_true rfl) ?_
    refine mx_ic_m1 d_St_freeOf_26 ?_
    refine mx_icmp_eq 38 d_St_freeOf_27 (by decide) (fun c_27 => ?_) (fun c_27 => ?_)
    · skip
      refine mx_iN3 d_St_freeOf_38 ?_
      refine mx_goto 14 d_St_freeOf_41 (by decide) ?_
      have e2 : vs_freeK m h q = vs_freeK m h (q + 1) := by simp [vs_freeK, vf_s, *]
      rw [e2]
      exact ih
    · skip
      refine mx_il2 d_St_freeOf_30 ?_
      refine mx_in_1 d_St_freeOf_31 ?_
      refine mx_il3 d_St_freeOf_32 ?_
      refine mx_ishl d_St_freeOf_33 ?_
      refine mx_ic_m1 d_St_freeOf_34 ?_
      refine mx_ixor d_St_freeOf_35 ?_
      refine mx_iand d_St_freeOf_36 ?_
      refine mx_is2 d_St_freeOf_37 ?_
      refine mx_iN3 d_St_freeOf_38 ?_
      refine mx_goto 14 d_St_freeOf_41 (by decide) ?_
      have e2 : (vs_freeK m h q &&& ((nI (1) <<< (nI (q) &&& 31)) ^^^ (-1))) = vs_freeK m h (q + 1) := by simp [vs_freeK, vf_s, *]
      rw [e2]
      exact ih
  · try dsimp only
    refine mx_il3 d_St_freeOf_14 ?_
    refine mx_bip 8 d_St_freeOf_15 (by decide) ?_
    refine mx_icN_ge 44 d_St_freeOf_17 (by decide) (by omega) (by omega) (fun c_17 => ?_) (fun c_17 => absurd c_17 (by omega))
    refine mx_il2 d_St_freeOf_44 ?_
    exact mx_iret d_St_freeOf_45 rfl (mx_ri_of (by rfl))
theorem c_St_seenBy (hSt : st_ok S P s) (hSr : st_rel I s m) {h : Nat} (hh : h < 8) : mx_C l E M_St_seenBy 2 0 0 [.ref (s), .int (nI (h))] (t, S, I, P, J) (mx_ri (vs_seesK m h 8) (t, S, I, P, J)) := by
  obtain ⟨hC0, hC1, hC2, hC3, hC4, hC5, hC6, hD1, hD2, hD3, hD4, hPe, hLo⟩ := id hSt
  obtain ⟨hPr, u0, u1, u2, u3, u4, u5, u6, u7, u8⟩ := id hSr
  obtain ⟨hA0, hA1, hA2, hA3, hA4, hA5, hA6, hA7, hB1, hB2, hB3, hB4, hB5, hB6, hB7⟩ := id hPe
  obtain ⟨r0, r1, r2, r3, r4, r5, r6, r7, r8⟩ := id hPr
  refine mx_C_of (ls0 := [some (.ref (s)), some (.int (nI (h))), none, none, none]) (by decide +kernel) rfl rfl (Nat.le_of_ble_eq_true rfl) rfl ?_
  refine mx_in_0 d_St_seenBy_0 ?_
  refine mx_is2 d_St_seenBy_1 ?_
  refine mx_in_0 d_St_seenBy_2 ?_
  refine mx_is3 d_St_seenBy_3 ?_
  refine mx_loop (N := 8) (ls := fun q => [some (.ref (s)), some (.int (nI (h))), some (.int (vs_seesK m h q)), some (.int (nI (q))), none]) (X := fun q => (t, S, I, P, J)) (fun q hq ih => ?_) ?_
  · try dsimp only
    refine mx_il3 d_St_seenBy_4 ?_
    refine mx_bip 8 d_St_seenBy_5 (by decide) ?_
    refine mx_icN_ge 37 d_St_seenBy_7 (by decide) (by omega) (by omega) (fun c_7 => absurd c_7 (by omega)) (fun c_7 => ?_)
    refine mx_al0 d_St_seenBy_10 ?_
    refine mx_il1 d_St_seenBy_11 ?_
    refine mx_il3 d_St_seenBy_12 ?_
    refine mx_cV2i d_St_seenBy_13 (c_St_guestAt hSt hSr (h := h) (q := q) (by omega) (by omega)) ok_St_guestAt ml_St_86 (by assumption) ⟨rfl, rfl⟩ (by decide) (Nat.le_of_ble_eq_true rfl) ?_
    refine mx_is4 d_St_seenBy_16 ?_
    refine mx_il4 d_St_seenBy_18 ?_
    refine mx_ic_m1 d_St_seenBy_20 ?_
    refine mx_icmp_eq 31 d_St_seenBy_21 (by decide) (fun c_21 => ?_) (fun c_21 => ?_)
    · skip
      refine mx_iN3 d_St_seenBy_31 ?_
      refine mx_goto 4 d_St_seenBy_34 (by decide) ?_
      refine mx_dn4 ?_
      have e2 : vs_seesK m h q = vs_seesK m h (q + 1) := by simp [vs_seesK, vf_s, *]
      rw [e2]
      exact ih
    · skip
      refine mx_il2 d_St_seenBy_24 ?_
      refine mx_in_1 d_St_seenBy_25 ?_
      refine mx_il4 d_St_seenBy_26 ?_
      refine mx_ishl d_St_seenBy_28 ?_
      refine mx_ior d_St_seenBy_29 ?_
      refine mx_is2 d_St_seenBy_30 ?_
      refine mx_iN3 d_St_seenBy_31 ?_
      refine mx_goto 4 d_St_seenBy_34 (by decide) ?_
      refine mx_dn4 ?_
      have e2 : (vs_seesK m h q ||| (nI (1) <<< ((m (195 + 8 * (h) + q)) &&& 31))) = vs_seesK m h (q + 1) := by simp [vs_seesK, vf_s, *]
      rw [e2]
      exact ih
  · try dsimp only
    refine mx_il3 d_St_seenBy_4 ?_
    refine mx_bip 8 d_St_seenBy_5 (by decide) ?_
    refine mx_icN_ge 37 d_St_seenBy_7 (by decide) (by omega) (by omega) (fun c_7 => ?_) (fun c_7 => absurd c_7 (by omega))
    refine mx_il2 d_St_seenBy_37 ?_
    exact mx_iret d_St_seenBy_38 rfl (mx_ri_of (by rfl))
theorem c_St_busyOf (hSt : st_ok S P s) (hSr : st_rel I s m) {H : Nat} (hH : m 3 = nI H) (hH8 : H ≤ 8) {x : Int32} : mx_C l E M_St_busyOf 2 0 0 [.ref (s), .int (x)] (t, S, I, P, J) (mx_ri (vs_busyK m x H) (t, S, I, P, J)) := by
  obtain ⟨hC0, hC1, hC2, hC3, hC4, hC5, hC6, hD1, hD2, hD3, hD4, hPe, hLo⟩ := id hSt
  obtain ⟨hPr, u0, u1, u2, u3, u4, u5, u6, u7, u8⟩ := id hSr
  obtain ⟨hA0, hA1, hA2, hA3, hA4, hA5, hA6, hA7, hB1, hB2, hB3, hB4, hB5, hB6, hB7⟩ := id hPe
  obtain ⟨r0, r1, r2, r3, r4, r5, r6, r7, r8⟩ := id hPr
  refine mx_C_of (ls0 := [some (.ref (s)), some (.int (x)), none, none, none]) (by decide +kernel) rfl rfl (Nat.le_of_ble_eq_true rfl) rfl ?_
  refine mx_in_0 d_St_busyOf_0 ?_
  refine mx_is2 d_St_busyOf_1 ?_
  refine mx_in_0 d_St_busyOf_2 ?_
  refine mx_is3 d_St_busyOf_3 ?_
  refine mx_loop (N := H) (ls := fun h => [some (.ref (s)), some (.int (x)), some (.int (vs_busyK m x h)), some (.int (nI (h))), none]) (X := fun h => (t, S, I, P, J)) (fun h hh ih => ?_) ?_
  · try dsimp only
    refine mx_il3 d_St_busyOf_4 ?_
    refine mx_al0 d_St_busyOf_5 ?_
    refine mx_getR d_St_busyOf_6 fl_St_12 (by assumption) (by assumption) ?_
    refine mx_getI d_St_busyOf_9 fl_St_90 (by assumption) ?_
    refine mx_ti (y := nI (H)) (r0.trans hH) ?_
    refine mx_icN_ge 55 d_St_busyOf_12 (by decide) (by omega) (by omega) (fun c_12 => absurd c_12 (by omega)) (fun c_12 => ?_)
    refine mx_in_0 d_St_busyOf_15 ?_
    refine mx_is4 d_St_busyOf_16 ?_
    refine mx_loop (N := 8) (ls := fun q => [some (.ref (s)), some (.int (x)), some (.int (vs_busyQ m x h q (vs_busyK m x h))), some (.int (nI (h))), some (.int (nI (q)))]) (X := fun q => (t, S, I, P, J)) (fun q hq ih => ?_) ?_
    · try dsimp only
      refine mx_il4 d_St_busyOf_18 ?_
      refine mx_bip 8 d_St_busyOf_20 (by decide) ?_
      refine mx_icN_ge 49 d_St_busyOf_22 (by decide) (by omega) (by omega) (fun c_22 => absurd c_22 (by omega)) (fun c_22 => ?_)
      refine mx_al0 d_St_busyOf_25 ?_
      refine mx_il3 d_St_busyOf_26 ?_
      refine mx_il4 d_St_busyOf_27 ?_
      refine mx_cV2i d_St_busyOf_29 (c_St_guestAt hSt hSr (h := h) (q := q) (by omega) (by omega)) ok_St_guestAt ml_St_86 (by assumption) ⟨rfl, rfl⟩ (by decide) (Nat.le_of_ble_eq_true rfl) ?_
      refine mx_il1 d_St_busyOf_32 ?_
      refine mx_icmp_ne 43 d_St_busyOf_33 (by decide) (fun c_33 => ?_) (fun c_33 => ?_)
      · skip
        refine mx_iN4 d_St_busyOf_43 ?_
        refine mx_goto 18 d_St_busyOf_46 (by decide) ?_
        have e2 : vs_busyQ m x h q (vs_busyK m x h) = vs_busyQ m x h (q + 1) (vs_busyK m x h) := by simp [vs_busyQ, vf_s, *]
        rw [e2]
        exact ih
      · skip
        refine mx_il2 d_St_busyOf_36 ?_
        refine mx_in_1 d_St_busyOf_37 ?_
        refine mx_il4 d_St_busyOf_38 ?_
        refine mx_ishl d_St_busyOf_40 ?_
        refine mx_ior d_St_busyOf_41 ?_
        refine mx_is2 d_St_busyOf_42 ?_
        refine mx_iN4 d_St_busyOf_43 ?_
        refine mx_goto 18 d_St_busyOf_46 (by decide) ?_
        have e2 : (vs_busyQ m x h q (vs_busyK m x h) ||| (nI (1) <<< (nI (q) &&& 31))) = vs_busyQ m x h (q + 1) (vs_busyK m x h) := by simp [vs_busyQ, vf_s, *]
        rw [e2]
        exact ih
    · try dsimp only
      refine mx_il4 d_St_busyOf_18 ?_
      refine mx_bip 8 d_St_busyOf_20 (by decide) ?_
      refine mx_icN_ge 49 d_St_busyOf_22 (by decide) (by omega) (by omega) (fun c_22 => ?_) (fun c_22 => absurd c_22 (by omega))
      refine mx_iN3 d_St_busyOf_49 ?_
      refine mx_goto 4 d_St_busyOf_52 (by decide) ?_
      refine mx_dn4 ?_
      have e2 : vs_busyQ m x h 8 (vs_busyK m x h) = vs_busyK m x (h + 1) := by rfl
      rw [e2]
      exact ih
  · try dsimp only
    refine mx_il3 d_St_busyOf_4 ?_
    refine mx_al0 d_St_busyOf_5 ?_
    refine mx_getR d_St_busyOf_6 fl_St_12 (by assumption) (by assumption) ?_
    refine mx_getI d_St_busyOf_9 fl_St_90 (by assumption) ?_
    refine mx_ti (y := nI (H)) (r0.trans hH) ?_
    refine mx_icN_ge 55 d_St_busyOf_12 (by decide) (by omega) (by omega) (fun c_12 => ?_) (fun c_12 => absurd c_12 (by omega))
    refine mx_il2 d_St_busyOf_55 ?_
    exact mx_iret d_St_busyOf_56 rfl (mx_ri_of (by rfl))
theorem c_St_gladnessOfAll (hSt : st_ok S P s) (hSr : st_rel I s m) {H : Nat} (hH : m 3 = nI H) (hH8 : H ≤ 8) : mx_C l E M_St_gladnessOfAll 2 0 0 [.ref (s)] (t, S, I, P, J) (mx_ri (vs_gladK m H) (t, S, I, P, J)) := by
  obtain ⟨hC0, hC1, hC2, hC3, hC4, hC5, hC6, hD1, hD2, hD3, hD4, hPe, hLo⟩ := id hSt
  obtain ⟨hPr, u0, u1, u2, u3, u4, u5, u6, u7, u8⟩ := id hSr
  obtain ⟨hA0, hA1, hA2, hA3, hA4, hA5, hA6, hA7, hB1, hB2, hB3, hB4, hB5, hB6, hB7⟩ := id hPe
  obtain ⟨r0, r1, r2, r3, r4, r5, r6, r7, r8⟩ := id hPr
  refine mx_C_of (ls0 := [some (.ref (s)), none, none]) (by decide +kernel) rfl rfl (Nat.le_of_ble_eq_true rfl) rfl ?_
  refine mx_in_0 d_St_gladnessOfAll_0 ?_
  refine mx_is1 d_St_gladnessOfAll_1 ?_
  refine mx_in_0 d_St_gladnessOfAll_2 ?_
  refine mx_is2 d_St_gladnessOfAll_3 ?_
  refine mx_loop (N := H) (ls := fun h => [some (.ref (s)), some (.int (vs_gladK m h)), some (.int (nI (h)))]) (X := fun h => (t, S, I, P, J)) (fun h hh ih => ?_) ?_
  · try dsimp only
    refine mx_il2 d_St_gladnessOfAll_4 ?_
    refine mx_al0 d_St_gladnessOfAll_5 ?_
    refine mx_getR d_St_gladnessOfAll_6 fl_St_12 (by assumption) (by assumption) ?_
    refine mx_getI d_St_gladnessOfAll_9 fl_St_90 (by assumption) ?_
    refine mx_ti (y := nI (H)) (r0.trans hH) ?_
    refine mx_icN_ge 32 d_St_gladnessOfAll_12 (by decide) (by omega) (by omega) (fun c_12 => absurd c_12 (by omega)) (fun c_12 => ?_)
    refine mx_il1 d_St_gladnessOfAll_15 ?_
    refine mx_al0 d_St_gladnessOfAll_16 ?_
    refine mx_getR d_St_gladnessOfAll_17 fl_St_47 (by assumption) (by assumption) ?_
    refine mx_il2 d_St_gladnessOfAll_20 ?_
    refine mx_cSN2i d_St_gladnessOfAll_21 (c_get (k := h) (by assumption) (by omega) (by omega)) ok_Vh_get ml_St_75 (by decide) (Nat.le_of_ble_eq_true rfl) ?_
    refine mx_ti (y := m (11 + 4 * h + 2)) (u6 h (by omega)) ?_
    refine mx_iadd d_St_gladnessOfAll_24 ?_
    refine mx_is1 d_St_gladnessOfAll_25 ?_
    refine mx_iN2 d_St_gladnessOfAll_26 ?_
    refine mx_goto 4 d_St_gladnessOfAll_29 (by decide) ?_
    have e1 : (vs_gladK m h + m (11 + 4 * h + 2)) = vs_gladK m (h + 1) := by rfl
    rw [e1]
    exact ih
  · try dsimp only
    refine mx_il2 d_St_gladnessOfAll_4 ?_
    refine mx_al0 d_St_gladnessOfAll_5 ?_
    refine mx_getR d_St_gladnessOfAll_6 fl_St_12 (by assumption) (by assumption) ?_
    refine mx_getI d_St_gladnessOfAll_9 fl_St_90 (by assumption) ?_
    refine mx_ti (y := nI (H)) (r0.trans hH) ?_
    refine mx_icN_ge 32 d_St_gladnessOfAll_12 (by decide) (by omega) (by omega) (fun c_12 => ?_) (fun c_12 => absurd c_12 (by omega))
    refine mx_il1 d_St_gladnessOfAll_32 ?_
    exact mx_iret d_St_gladnessOfAll_33 rfl (mx_ri_of (by rfl))
theorem c_St_isMarked (hSt : st_ok S P s) (hSr : st_rel I s m) {g : Nat} (hg : g < 8) : mx_C l E M_St_isMarked 2 0 0 [.ref (s), .int (nI (g))] (t, S, I, P, J) (mx_ri (bI (vs_pass m (m (43 + 3 * g + 2)))) (t, S, I, P, J)) := by
  obtain ⟨hC0, hC1, hC2, hC3, hC4, hC5, hC6, hD1, hD2, hD3, hD4, hPe, hLo⟩ := id hSt
  obtain ⟨hPr, u0, u1, u2, u3, u4, u5, u6, u7, u8⟩ := id hSr
  obtain ⟨hA0, hA1, hA2, hA3, hA4, hA5, hA6, hA7, hB1, hB2, hB3, hB4, hB5, hB6, hB7⟩ := id hPe
  obtain ⟨r0, r1, r2, r3, r4, r5, r6, r7, r8⟩ := id hPr
  refine mx_C_of (ls0 := [some (.ref (s)), some (.int (nI (g))), none]) (by decide +kernel) rfl rfl (Nat.le_of_ble_eq_true rfl) rfl ?_
  refine mx_al0 d_St_isMarked_0 ?_
  refine mx_getR d_St_isMarked_1 fl_St_12 (by assumption) (by assumption) ?_
  refine mx_getR d_St_isMarked_4 fl_St_93 (by assumption) (by assumption) ?_
  refine mx_il1 d_St_isMarked_7 ?_
  refine mx_cSN2i d_St_isMarked_8 (c_get (k := g) (by assumption) (by omega) (by omega)) ok_Vh_get ml_St_75 (by decide) (Nat.le_of_ble_eq_true rfl) ?_
  refine mx_is2 d_St_isMarked_11 ?_
  refine mx_il2 d_St_isMarked_12 ?_
  refine mx_al0 d_St_isMarked_13 ?_
  refine mx_getI d_St_isMarked_14 fl_St_35 (by assumption) ?_
  refine mx_iand d_St_isMarked_17 ?_
  refine mx_al0 d_St_isMarked_18 ?_
  refine mx_getI d_St_isMarked_19 fl_St_35 (by assumption) ?_
  refine mx_icmp_ne 38 d_St_isMarked_22 (by decide) (fun c_22 => ?_) (fun c_22 => ?_)
  · skip
    refine mx_in_0 d_St_isMarked_38 ?_
    exact mx_zret d_St_isMarked_39 rfl (by first | exact Or.inl rfl | exact Or.inr rfl) (mx_ri_of (by simp_all [bI, vs_pass]))
  · skip
    refine mx_il2 d_St_isMarked_25 ?_
    refine mx_al0 d_St_isMarked_26 ?_
    refine mx_getI d_St_isMarked_27 fl_St_38 (by assumption) ?_
    refine mx_iand d_St_isMarked_30 ?_
    refine mx_if_ne 38 d_St_isMarked_31 (by decide) (fun c_31 => ?_) (fun c_31 => ?_)
    · skip
      refine mx_in_0 d_St_isMarked_38 ?_
      exact mx_zret d_St_isMarked_39 rfl (by first | exact Or.inl rfl | exact Or.inr rfl) (mx_ri_of (by simp_all [bI, vs_pass]))
    · skip
      refine mx_in_1 d_St_isMarked_34 ?_
      refine mx_goto 39 d_St_isMarked_35 (by decide) ?_
      exact mx_zret d_St_isMarked_39 rfl (by first | exact Or.inl rfl | exact Or.inr rfl) (mx_ri_of (by simp_all [bI, vs_pass]))
def vs_bookK (m : Nat → Int32) (n : Nat) : Nat := vf n (fun i c => if m (195 + i) = -1 then c else c + 1) 0
theorem u8i {i : Nat} (hSr : st_rel I s m) (hi : i < 64) : I (s + 13) i = m (195 + i) := by
  have h := hSr.2.2.2.2.2.2.2.2.2 (i / 8) (i % 8) (by omega) (Nat.mod_lt _ (by omega))
  rw [show 8 * (i / 8) + i % 8 = i by omega, show 195 + 8 * (i / 8) + i % 8 = 195 + i by omega] at h
  exact h
theorem c_St_howManyBooked (hSt : st_ok S P s) (hSr : st_rel I s m)  : mx_C l E M_St_howManyBooked 2 0 0 [.ref (s)] (t, S, I, P, J) (mx_ri (nI (vs_bookK m 64)) (t, S, I, P, J)) := by
  obtain ⟨hC0, hC1, hC2, hC3, hC4, hC5, hC6, hD1, hD2, hD3, hD4, hPe, hLo⟩ := id hSt
  obtain ⟨hPr, u0, u1, u2, u3, u4, u5, u6, u7, u8⟩ := id hSr
  obtain ⟨hA0, hA1, hA2, hA3, hA4, hA5, hA6, hA7, hB1, hB2, hB3, hB4, hB5, hB6, hB7⟩ := id hPe
  obtain ⟨r0, r1, r2, r3, r4, r5, r6, r7, r8⟩ := id hPr
  refine mx_C_of (ls0 := [some (.ref (s)), none, none]) (by decide +kernel) rfl rfl (Nat.le_of_ble_eq_true rfl) rfl ?_
  refine mx_in_0 d_St_howManyBooked_0 ?_
  refine mx_is1 d_St_howManyBooked_1 ?_
  refine mx_in_0 d_St_howManyBooked_2 ?_
  refine mx_is2 d_St_howManyBooked_3 ?_
  refine mx_loop (N := 64) (ls := fun i => [some (.ref (s)), some (.int (nI (vs_bookK m i))), some (.int (nI (i)))]) (X := fun i => (t, S, I, P, J)) (fun i hi ih => ?_) ?_
  · try dsimp only
    refine mx_il2 d_St_howManyBooked_4 ?_
    refine mx_bip 64 d_St_howManyBooked_5 (by decide) ?_
    refine mx_icN_ge 31 d_St_howManyBooked_7 (by decide) (by omega) (by omega) (fun c_7 => absurd c_7 (by omega)) (fun c_7 => ?_)
    refine mx_al0 d_St_howManyBooked_10 ?_
    refine mx_getR d_St_howManyBooked_11 fl_St_54 (by assumption) (by assumption) ?_
    refine mx_il2 d_St_howManyBooked_14 ?_
    refine mx_cSN2i d_St_howManyBooked_15 (c_get (k := i) (by assumption) (by omega) (by omega)) ok_Vh_get ml_St_75 (by decide) (Nat.le_of_ble_eq_true rfl) ?_
    refine mx_ti (y := m (195 + i)) (u8i hSr (by omega)) ?_
    refine mx_ic_m1 d_St_howManyBooked_18 ?_
    refine mx_icmp_eq 25 d_St_howManyBooked_19 (by decide) (fun c_19 => ?_) (fun c_19 => ?_)
    · skip
      refine mx_iN2 d_St_howManyBooked_25 ?_
      refine mx_goto 4 d_St_howManyBooked_28 (by decide) ?_
      have e1 : nI (vs_bookK m i) = nI (vs_bookK m (i + 1)) := by simp [vs_bookK, vf_s, *]
      rw [e1]
      exact ih
    · skip
      refine mx_iN1 d_St_howManyBooked_22 ?_
      refine mx_iN2 d_St_howManyBooked_25 ?_
      refine mx_goto 4 d_St_howManyBooked_28 (by decide) ?_
      have e1 : nI (vs_bookK m i + 1) = nI (vs_bookK m (i + 1)) := by simp [vs_bookK, vf_s, *]
      rw [e1]
      exact ih
  · try dsimp only
    refine mx_il2 d_St_howManyBooked_4 ?_
    refine mx_bip 64 d_St_howManyBooked_5 (by decide) ?_
    refine mx_icN_ge 31 d_St_howManyBooked_7 (by decide) (by omega) (by omega) (fun c_7 => ?_) (fun c_7 => absurd c_7 (by omega))
    refine mx_il1 d_St_howManyBooked_31 ?_
    exact mx_iret d_St_howManyBooked_32 rfl (mx_ri_of (by rfl))
end C12
