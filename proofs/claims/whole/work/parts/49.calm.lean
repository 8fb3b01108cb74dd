/-! THE CLASS'S WAYS -/
section AN49
variable {l : Launch} {E : mx_Env} {t : Nat} {S : mx_S} {I : mx_I} {P : mx_P} {J : mx_G} {m : Nat → Int32} {x mo H G n pa k h g U : Nat} {W L : Nat → Nat → Nat} {B Wt N0 M : Nat → Nat}
/-- the rows of PAIRS while the ways are counted -/
def wy_at (K : mx_I) (pa : Nat) (B Wt M : Nat → Nat) (h : Nat) : Prop := (∀ j, j < 8 → K (pa + 6) j = mtv (B j)) ∧ (∀ j, j < 8 → K (pa + 7) j = mtv (Wt j)) ∧ ∀ j, j < h → K (pa + 3) j = mtv (M j)
def wy_off (I K : mx_I) (pa h : Nat) : Prop := mx_off (fun c => c = pa + 3 ∨ c = pa + 4) I K ∧ ∀ j, j < h → K (pa + 3) j = I (pa + 3) j
theorem wy_off.rf : wy_off I I pa h := ⟨fun _ _ => rfl, fun _ _ => rfl⟩
theorem wy_off.tr {K K2 : mx_I} (a : wy_off I K pa h) (b : wy_off K K2 pa h) : wy_off I K2 pa h := ⟨a.1.tr b.1, fun j hj => (b.2 j hj).trans (a.2 j hj)⟩
theorem wy_off.o {K : mx_I} {c : Nat} (b : wy_off I K pa h) (h1 : c ≠ pa + 3) (h2 : c ≠ pa + 4) : K c = I c := b.1 c (fun z => z.elim h1 h2)
theorem wy_at.off {K : mx_I} (a : wy_at I pa B Wt M h) (b : wy_off I K pa h) : wy_at K pa B Wt M h := ⟨fun j hj => by rw [b.o (by omega) (by omega)]; exact a.1 j hj, fun j hj => by rw [b.o (by omega) (by omega)]; exact a.2.1 j hj, fun j hj => (b.2 j hj).trans (a.2.2 j hj)⟩
theorem wy_off.rel {K : mx_I} (b : wy_off I K pa h) (a : pa_rel I pa W L H G) : pa_rel K pa W L H G := a.congr (b.o (by omega) (by omega)) (b.o (by omega) (by omega)) (b.o (by omega) (by omega))
theorem wy_at.up {v : Nat} (a : wy_at I pa B Wt M h) : wy_at (mx_up I (pa + 3) h (mtv v)) pa B Wt (updN M h v) (h + 1) := ⟨fun j hj => by rw [mx_up_ne (by omega)]; exact a.1 j hj, fun j hj => by rw [mx_up_ne (by omega)]; exact a.2.1 j hj, fun j hj => by
  by_cases e : j = h
  · subst e; rw [updN_e]; simp [mx_up]
  · rw [updN_n e, ← a.2.2 j (by omega)]; unfold mx_up; rw [if_neg (fun z => e z.2)]⟩
theorem wy_off.up {K : mx_I} {v : Int32} (b : wy_off (mx_up I (pa + 3) h v) K pa (h + 1)) : wy_off I K pa h := ⟨fun c hc => (b.1 c hc).trans (mx_up_ne (fun z => hc (Or.inl z))), fun j hj => by rw [b.2 j (by omega)]; unfold mx_up; rw [if_neg (by omega)]⟩
theorem wy_off.up0 {v : Int32} : wy_off I (mx_up I (pa + 3) h v) pa h := ⟨fun c hc => mx_up_ne (fun z => hc (Or.inl z)), fun j hj => by unfold mx_up; rw [if_neg (by omega)]⟩
theorem c_wbV (hPa : pa_ok S P pa) (hR : pa_rel I pa W L H G) {u w : Nat} {a b c : Int32} (hh : h < 8) (hg : g < 8) (e1 : a = nI g) (e2 : b = mtv u) (e3 : c = mtv w) : mx_C l E M_Pa_wouldBoth 1 0 0 [.ref (pa), .int (nI h), .int a, .int b, .int c] (t, S, I, P, J) (mx_ri (bI (vs_wb W L h g u w)) (t, S, I, P, J)) := by subst e1; subst e2; subst e3; exact c_Pa_wouldBoth hPa hR hh hg
theorem nI_gm1 : ∀ {G : Nat}, G ≤ 8 → ¬ nI G ≤ -1 := fun {G} h => (by decide +kernel : ∀ G, G < 9 → ¬ nI G ≤ -1) G (by omega)
theorem rv_le (W L : Nat → Nat → Nat) (M N : Nat → Nat) {G H : Nat} (hG : G ≤ 8) (hH : H ≤ 8) : vs_rvP W L M N G H ≤ 64 := by
  rw [rvP_sm]
  have := fb_sm_bound (f := fun h => fb_ct (fun g => vs_wb W L h g (M h) (N g)) G) (c := 8) (n := H) (fun k _ => Nat.le_trans (fb_ct_le _ G) hG)
  omega
theorem c_Pa_mayHaveN (hPa : pa_ok S P pa) (hR : pa_rel I pa W L H G) (hat : wy_at I pa B Wt M h) (hh : h < 8) : mx_C l E M_Pa_mayHave 1 0 0 [.ref (pa), .int (nI (h)), .int ((-1)), .int (nI (U))] (t, S, I, P, J) (mx_ri (bI (decide (¬ B h < 8))) (t, S, I, P, J)) := by
  obtain ⟨hPa0, hPa1, hPa2, hPa3, hPa4, hPa5, hPa6, hPa7, hPa8, hPa9, hPa10, hPa11, hPa12, hPa13, hPa14⟩ := id hPa
  refine mx_C_of (ls0 := [some (.ref (pa)), some (.int (nI (h))), some (.int ((-1))), some (.int (nI (U))), none, none, none, none]) (by decide +kernel) rfl rfl (Nat.le_of_ble_eq_true rfl) rfl ?_
  refine mx_al0 d_Pa_mayHave_0 ?_
  refine mx_getR d_Pa_mayHave_1 fl_Pa_27 (by assumption) (by assumption) ?_
  refine mx_il1 d_Pa_mayHave_4 ?_
  refine mx_cSN2i d_Pa_mayHave_5 (c_get (k := h) (by assumption) (by omega) (by omega)) ok_Vh_get ml_Pa_64 (by decide) (Nat.le_of_ble_eq_true rfl) ?_
  refine mx_ti (y := (mtv (B h))) (hat.1 h hh) ?_
  refine mx_is4 d_Pa_mayHave_8 ?_
  refine mx_il4 d_Pa_mayHave_10 ?_
  refine mx_ic_m1 d_Pa_mayHave_12 ?_
  refine mx_icmp_eq 21 d_Pa_mayHave_13 (by decide) (fun c_13 => ?_) (fun c_13 => ?_)
  · skip
    have u8 := mtv_e c_13
    refine mx_il4 d_Pa_mayHave_21 ?_
    refine mx_il2 d_Pa_mayHave_23 ?_
    refine mx_icmp_ne 31 d_Pa_mayHave_24 (by decide) (fun c_24 => ?_) (fun c_24 => ?_)
    · skip
      refine mx_in_0 d_Pa_mayHave_31 ?_
      exact mx_zret d_Pa_mayHave_32 rfl (by first | exact Or.inl rfl | exact Or.inr rfl) (mx_ri_of (by first | exact absurd c_13 c_24 | exact absurd c_24 c_13 | (rw [decide_eq_true u8]; rfl) | (rw [decide_eq_false (fun z => z u8)]; rfl) | (rw [decide_eq_true (mtv_e c_24)]; rfl) | (rw [decide_eq_false (fun z => z (mtv_n c_24))]; rfl)))
    · skip
      refine mx_in_1 d_Pa_mayHave_27 ?_
      refine mx_goto 32 d_Pa_mayHave_28 (by decide) ?_
      exact mx_zret d_Pa_mayHave_32 rfl (by first | exact Or.inl rfl | exact Or.inr rfl) (mx_ri_of (by first | exact absurd c_13 c_24 | exact absurd c_24 c_13 | (rw [decide_eq_true u8]; rfl) | (rw [decide_eq_false (fun z => z u8)]; rfl) | (rw [decide_eq_true (mtv_e c_24)]; rfl) | (rw [decide_eq_false (fun z => z (mtv_n c_24))]; rfl)))
  · skip
    have u8 := mtv_n c_13
    refine mx_il2 d_Pa_mayHave_16 ?_
    refine mx_ic_m1 d_Pa_mayHave_17 ?_
    refine mx_icmp_ne 33 d_Pa_mayHave_18 (by decide) (fun c_18 => absurd c_18 (fun z => z rfl)) (fun c_18 => ?_)
    refine mx_il4 d_Pa_mayHave_21 ?_
    refine mx_il2 d_Pa_mayHave_23 ?_
    refine mx_icmp_ne 31 d_Pa_mayHave_24 (by decide) (fun c_24 => ?_) (fun c_24 => ?_)
    · skip
      refine mx_in_0 d_Pa_mayHave_31 ?_
      exact mx_zret d_Pa_mayHave_32 rfl (by first | exact Or.inl rfl | exact Or.inr rfl) (mx_ri_of (by first | exact absurd c_13 c_24 | exact absurd c_24 c_13 | (rw [decide_eq_true u8]; rfl) | (rw [decide_eq_false (fun z => z u8)]; rfl) | (rw [decide_eq_true (mtv_e c_24)]; rfl) | (rw [decide_eq_false (fun z => z (mtv_n c_24))]; rfl)))
    · skip
      refine mx_in_1 d_Pa_mayHave_27 ?_
      refine mx_goto 32 d_Pa_mayHave_28 (by decide) ?_
      exact mx_zret d_Pa_mayHave_32 rfl (by first | exact Or.inl rfl | exact Or.inr rfl) (mx_ri_of (by first | exact absurd c_13 c_24 | exact absurd c_24 c_13 | (rw [decide_eq_true u8]; rfl) | (rw [decide_eq_false (fun z => z u8)]; rfl) | (rw [decide_eq_true (mtv_e c_24)]; rfl) | (rw [decide_eq_false (fun z => z (mtv_n c_24))]; rfl)))
theorem c_Pa_mayHaveG (hPa : pa_ok S P pa) (hR : pa_rel I pa W L H G) (hat : wy_at I pa B Wt M h) (hWt : B h < 8 → Wt h < 8) (hh : h < 8) (hg : g < 8) (hU : U < 256) : mx_C l E M_Pa_mayHave 1 0 0 [.ref (pa), .int (nI (h)), .int (nI (g)), .int (nI (U))] (t, S, I, P, J) (mx_ri (bI (decide (B h < 8) && wy_may W B Wt U h g)) (t, S, I, P, J)) := by
  obtain ⟨hPa0, hPa1, hPa2, hPa3, hPa4, hPa5, hPa6, hPa7, hPa8, hPa9, hPa10, hPa11, hPa12, hPa13, hPa14⟩ := id hPa
  refine mx_C_of (ls0 := [some (.ref (pa)), some (.int (nI (h))), some (.int (nI (g))), some (.int (nI (U))), none, none, none, none]) (by decide +kernel) rfl rfl (Nat.le_of_ble_eq_true rfl) rfl ?_
  refine mx_al0 d_Pa_mayHave_0 ?_
  refine mx_getR d_Pa_mayHave_1 fl_Pa_27 (by assumption) (by assumption) ?_
  refine mx_il1 d_Pa_mayHave_4 ?_
  refine mx_cSN2i d_Pa_mayHave_5 (c_get (k := h) (by assumption) (by omega) (by omega)) ok_Vh_get ml_Pa_64 (by decide) (Nat.le_of_ble_eq_true rfl) ?_
  refine mx_ti (y := (mtv (B h))) (hat.1 h hh) ?_
  refine mx_is4 d_Pa_mayHave_8 ?_
  refine mx_il4 d_Pa_mayHave_10 ?_
  refine mx_ic_m1 d_Pa_mayHave_12 ?_
  refine mx_icmp_eq 21 d_Pa_mayHave_13 (by decide) (fun c_13 => ?_) (fun c_13 => ?_)
  · skip
    have u8 := mtv_e c_13
    refine mx_il4 d_Pa_mayHave_21 ?_
    refine mx_il2 d_Pa_mayHave_23 ?_
    refine mx_icmp_ne 31 d_Pa_mayHave_24 (by decide) (fun c_24 => ?_) (fun c_24 => absurd c_24 (fun z => by rw [mtv_ge u8] at z; exact nI_m1 (by omega) z.symm))
    refine mx_in_0 d_Pa_mayHave_31 ?_
    exact mx_zret d_Pa_mayHave_32 rfl (by first | exact Or.inl rfl | exact Or.inr rfl) (mx_ri_of (by unfold wy_may; first | (rw [decide_eq_false u8]; rfl) | (rw [decide_eq_false (show ¬ W h (Wt h) ≤ W h g by omega), Bool.false_and, Bool.and_false]; rfl) | (rw [decide_eq_false (show ¬ W h g ≤ W h (B h) by omega), Bool.false_and, Bool.and_false, Bool.and_false]; rfl) | (rw [c_105, Bool.not_true, Bool.and_false, Bool.and_false, Bool.and_false]; rfl) | (rw [decide_eq_true u8, decide_eq_true (show W h (Wt h) ≤ W h g by omega), decide_eq_true (show W h g ≤ W h (B h) by omega), c_105]; rfl)))
  · skip
    have u8 := mtv_n c_13
    have q1 := (hR.2.2 h g hh hg).1.1
    have q2 := (hR.2.2 h (B h) hh u8).1.1
    have q3 := (hR.2.2 h (Wt h) hh (hWt u8)).1.1
    have q4 := hWt u8
    rw [mtv_lt u8]
    refine mx_il2 d_Pa_mayHave_16 ?_
    refine mx_ic_m1 d_Pa_mayHave_17 ?_
    refine mx_icmp_ne 33 d_Pa_mayHave_18 (by decide) (fun c_18 => ?_) (fun c_18 => absurd c_18 (nI_m1 (by omega)))
    refine mx_al0 d_Pa_mayHave_33 ?_
    refine mx_getR d_Pa_mayHave_34 fl_Pa_9 (by assumption) (by assumption) ?_
    refine mx_bip 8 d_Pa_mayHave_37 (by decide) ?_
    refine mx_il1 d_Pa_mayHave_39 ?_
    refine mx_imulN d_Pa_mayHave_40 ?_
    refine mx_il2 d_Pa_mayHave_41 ?_
    refine mx_iaddN d_Pa_mayHave_42 ?_
    refine mx_cSN2i d_Pa_mayHave_43 (c_get (k := 8 * h + g) (by assumption) (by omega) (by omega)) ok_Vh_get ml_Pa_64 (by decide) (Nat.le_of_ble_eq_true rfl) ?_
    refine mx_ti (y := nI (W h g)) ((hR.2.2 h g hh hg).1.2) ?_
    refine mx_is5 d_Pa_mayHave_46 ?_
    refine mx_al0 d_Pa_mayHave_48 ?_
    refine mx_getR d_Pa_mayHave_49 fl_Pa_9 (by assumption) (by assumption) ?_
    refine mx_bip 8 d_Pa_mayHave_52 (by decide) ?_
    refine mx_il1 d_Pa_mayHave_54 ?_
    refine mx_imulN d_Pa_mayHave_55 ?_
    refine mx_il4 d_Pa_mayHave_56 ?_
    refine mx_iaddN d_Pa_mayHave_58 ?_
    refine mx_cSN2i d_Pa_mayHave_59 (c_get (k := 8 * h + B h) (by assumption) (by omega) (by omega)) ok_Vh_get ml_Pa_64 (by decide) (Nat.le_of_ble_eq_true rfl) ?_
    refine mx_ti (y := nI (W h (B h))) ((hR.2.2 h (B h) hh u8).1.2) ?_
    refine mx_is6 d_Pa_mayHave_62 ?_
    refine mx_al0 d_Pa_mayHave_64 ?_
    refine mx_getR d_Pa_mayHave_65 fl_Pa_9 (by assumption) (by assumption) ?_
    refine mx_bip 8 d_Pa_mayHave_68 (by decide) ?_
    refine mx_il1 d_Pa_mayHave_70 ?_
    refine mx_imulN d_Pa_mayHave_71 ?_
    refine mx_al0 d_Pa_mayHave_72 ?_
    refine mx_getR d_Pa_mayHave_73 fl_Pa_30 (by assumption) (by assumption) ?_
    refine mx_il1 d_Pa_mayHave_76 ?_
    refine mx_cSN2i d_Pa_mayHave_77 (c_get (k := h) (by assumption) (by omega) (by omega)) ok_Vh_get ml_Pa_64 (by decide) (Nat.le_of_ble_eq_true rfl) ?_
    refine mx_ti (y := nI (Wt h)) (((hat.2.1 h hh).trans (mtv_lt (hWt u8)))) ?_
    refine mx_iaddN d_Pa_mayHave_80 ?_
    refine mx_cSN2i d_Pa_mayHave_81 (c_get (k := 8 * h + Wt h) (by assumption) (by omega) (by omega)) ok_Vh_get ml_Pa_64 (by decide) (Nat.le_of_ble_eq_true rfl) ?_
    refine mx_ti (y := nI (W h (Wt h))) ((hR.2.2 h (Wt h) hh (hWt u8)).1.2) ?_
    refine mx_is7 d_Pa_mayHave_84 ?_
    refine mx_il5 d_Pa_mayHave_86 ?_
    refine mx_il7 d_Pa_mayHave_88 ?_
    refine mx_icN_lt 112 d_Pa_mayHave_90 (by decide) (by omega) (by omega) (fun c_90 => ?_) (fun c_90 => ?_)
    · skip
      refine mx_in_0 d_Pa_mayHave_112 ?_
      exact mx_zret d_Pa_mayHave_113 rfl (by first | exact Or.inl rfl | exact Or.inr rfl) (mx_ri_of (by unfold wy_may; first | (rw [decide_eq_false u8]; rfl) | (rw [decide_eq_false (show ¬ W h (Wt h) ≤ W h g by omega), Bool.false_and, Bool.and_false]; rfl) | (rw [decide_eq_false (show ¬ W h g ≤ W h (B h) by omega), Bool.false_and, Bool.and_false, Bool.and_false]; rfl) | (rw [c_105, Bool.not_true, Bool.and_false, Bool.and_false, Bool.and_false]; rfl) | (rw [decide_eq_true u8, decide_eq_true (show W h (Wt h) ≤ W h g by omega), decide_eq_true (show W h g ≤ W h (B h) by omega), c_105]; rfl)))
    · skip
      refine mx_il5 d_Pa_mayHave_93 ?_
      refine mx_il6 d_Pa_mayHave_95 ?_
      refine mx_icN_gt 112 d_Pa_mayHave_97 (by decide) (by omega) (by omega) (fun c_97 => ?_) (fun c_97 => ?_)
      · skip
        refine mx_in_0 d_Pa_mayHave_112 ?_
        exact mx_zret d_Pa_mayHave_113 rfl (by first | exact Or.inl rfl | exact Or.inr rfl) (mx_ri_of (by unfold wy_may; first | (rw [decide_eq_false u8]; rfl) | (rw [decide_eq_false (show ¬ W h (Wt h) ≤ W h g by omega), Bool.false_and, Bool.and_false]; rfl) | (rw [decide_eq_false (show ¬ W h g ≤ W h (B h) by omega), Bool.false_and, Bool.and_false, Bool.and_false]; rfl) | (rw [c_105, Bool.not_true, Bool.and_false, Bool.and_false, Bool.and_false]; rfl) | (rw [decide_eq_true u8, decide_eq_true (show W h (Wt h) ≤ W h g by omega), decide_eq_true (show W h g ≤ W h (B h) by omega), c_105]; rfl)))
      · skip
        refine mx_il3 d_Pa_mayHave_100 ?_
        refine mx_il2 d_Pa_mayHave_101 ?_
        refine mx_cSN2i d_Pa_mayHave_102 (c_has (j := g) (by omega)) ok_Vh_has ml_Pa_83 (by decide) (Nat.le_of_ble_eq_true rfl) ?_
        refine mx_ifB_ne 112 d_Pa_mayHave_105 (by decide) (fun c_105 => ?_) (fun c_105 => ?_)
        · skip
          rw [vs_has_bt (by omega), vs_bt_nI _ _ (by omega)] at c_105
          refine mx_in_0 d_Pa_mayHave_112 ?_
          exact mx_zret d_Pa_mayHave_113 rfl (by first | exact Or.inl rfl | exact Or.inr rfl) (mx_ri_of (by unfold wy_may; first | (rw [decide_eq_false u8]; rfl) | (rw [decide_eq_false (show ¬ W h (Wt h) ≤ W h g by omega), Bool.false_and, Bool.and_false]; rfl) | (rw [decide_eq_false (show ¬ W h g ≤ W h (B h) by omega), Bool.false_and, Bool.and_false, Bool.and_false]; rfl) | (rw [c_105, Bool.not_true, Bool.and_false, Bool.and_false, Bool.and_false]; rfl) | (rw [decide_eq_true u8, decide_eq_true (show W h (Wt h) ≤ W h g by omega), decide_eq_true (show W h g ≤ W h (B h) by omega), c_105]; rfl)))
        · skip
          rw [vs_has_bt (by omega), vs_bt_nI _ _ (by omega)] at c_105
          refine mx_in_1 d_Pa_mayHave_108 ?_
          refine mx_goto 113 d_Pa_mayHave_109 (by decide) ?_
          exact mx_zret d_Pa_mayHave_113 rfl (by first | exact Or.inl rfl | exact Or.inr rfl) (mx_ri_of (by unfold wy_may; first | (rw [decide_eq_false u8]; rfl) | (rw [decide_eq_false (show ¬ W h (Wt h) ≤ W h g by omega), Bool.false_and, Bool.and_false]; rfl) | (rw [decide_eq_false (show ¬ W h g ≤ W h (B h) by omega), Bool.false_and, Bool.and_false, Bool.and_false]; rfl) | (rw [c_105, Bool.not_true, Bool.and_false, Bool.and_false, Bool.and_false]; rfl) | (rw [decide_eq_true u8, decide_eq_true (show W h (Wt h) ≤ W h g by omega), decide_eq_true (show W h g ≤ W h (B h) by omega), c_105]; rfl)))
theorem c_Pa_isCalmSoFar (hPa : pa_ok S P pa) (hR : pa_rel I pa W L H G) (hat : wy_at I pa B Wt M h) (hh : h < 8) (hg : I (pa + 3) h = mtv g) : mx_C l E M_Pa_isCalmSoFar 2 0 0 [.ref (pa), .int (nI (h))] (t, S, I, P, J) (mx_ri (bI (!(vs_any (wy_calm W L M h g) h))) (t, S, I, P, J)) := by
  obtain ⟨hPa0, hPa1, hPa2, hPa3, hPa4, hPa5, hPa6, hPa7, hPa8, hPa9, hPa10, hPa11, hPa12, hPa13, hPa14⟩ := id hPa
  refine mx_C_of (ls0 := [some (.ref (pa)), some (.int (nI (h))), none, none, none, none]) (by decide +kernel) rfl rfl (Nat.le_of_ble_eq_true rfl) rfl ?_
  refine mx_al0 d_Pa_isCalmSoFar_0 ?_
  refine mx_getR d_Pa_isCalmSoFar_1 fl_Pa_18 (by assumption) (by assumption) ?_
  refine mx_il1 d_Pa_isCalmSoFar_4 ?_
  refine mx_cSN2i d_Pa_isCalmSoFar_5 (c_get (k := h) (by assumption) (by omega) (by omega)) ok_Vh_get ml_Pa_64 (by decide) (Nat.le_of_ble_eq_true rfl) ?_
  refine mx_ti (y := (mtv g)) (hg) ?_
  refine mx_is2 d_Pa_isCalmSoFar_8 ?_
  refine mx_in_0 d_Pa_isCalmSoFar_9 ?_
  refine mx_is3 d_Pa_isCalmSoFar_10 ?_
  refine mx_loopI (N := h) (fun j => ∀ i, i < j → wy_calm W L M h g i = false) (ls := fun j => [some (.ref (pa)), some (.int (nI (h))), some (.int ((mtv g))), some (.int (nI (j))), none, none]) (X := fun j => (t, S, I, P, J)) (fun i hi => absurd hi (by omega)) (fun j hj hinv ih => ?_) (fun hinv => ?_)
  · try dsimp only at hinv ih ⊢
    refine mx_il3 d_Pa_isCalmSoFar_11 ?_
    refine mx_il1 d_Pa_isCalmSoFar_12 ?_
    refine mx_icN_ge 81 d_Pa_isCalmSoFar_13 (by decide) (by omega) (by omega) (fun c_13 => absurd c_13 (by omega)) (fun c_13 => ?_)
    refine mx_al0 d_Pa_isCalmSoFar_16 ?_
    refine mx_getR d_Pa_isCalmSoFar_17 fl_Pa_18 (by assumption) (by assumption) ?_
    refine mx_il3 d_Pa_isCalmSoFar_20 ?_
    refine mx_cSN2i d_Pa_isCalmSoFar_21 (c_get (k := j) (by assumption) (by omega) (by omega)) ok_Vh_get ml_Pa_64 (by decide) (Nat.le_of_ble_eq_true rfl) ?_
    refine mx_ti (y := (mtv (M j))) (hat.2.2 j (by omega)) ?_
    refine mx_is4 d_Pa_isCalmSoFar_24 ?_
    refine mx_il2 d_Pa_isCalmSoFar_26 ?_
    refine mx_ic_m1 d_Pa_isCalmSoFar_27 ?_
    refine mx_icmp_eq 41 d_Pa_isCalmSoFar_28 (by decide) (fun c_28 => ?_) (fun c_28 => ?_)
    · skip
      have k0 : wy_calm W L M h g j = false := by unfold wy_calm; rw [decide_eq_false (fun z => mtv_e c_28 z.1)]; rfl
      refine mx_in_0 d_Pa_isCalmSoFar_41 ?_
      refine mx_is5 d_Pa_isCalmSoFar_42 ?_
      refine mx_il5 d_Pa_isCalmSoFar_44 ?_
      refine mx_if_eq 75 d_Pa_isCalmSoFar_46 (by decide) (fun c_46 => ?_) (fun c_46 => absurd (by decide) c_46)
      refine mx_iN3 d_Pa_isCalmSoFar_75 ?_
      refine mx_goto 11 d_Pa_isCalmSoFar_78 (by decide) ?_
      refine mx_dn4 ?_
      refine mx_dn5 ?_
      exact ih (vs_nextT hinv k0)
    · skip
      have g8 := mtv_n c_28
      refine mx_il4 d_Pa_isCalmSoFar_31 ?_
      refine mx_ic_m1 d_Pa_isCalmSoFar_33 ?_
      refine mx_icmp_eq 41 d_Pa_isCalmSoFar_34 (by decide) (fun c_34 => ?_) (fun c_34 => ?_)
      · skip
        have k0 : wy_calm W L M h g j = false := by unfold wy_calm; rw [decide_eq_false (fun z => mtv_e c_34 z.2)]; rfl
        refine mx_in_0 d_Pa_isCalmSoFar_41 ?_
        refine mx_is5 d_Pa_isCalmSoFar_42 ?_
        refine mx_il5 d_Pa_isCalmSoFar_44 ?_
        refine mx_if_eq 75 d_Pa_isCalmSoFar_46 (by decide) (fun c_46 => ?_) (fun c_46 => absurd (by decide) c_46)
        refine mx_iN3 d_Pa_isCalmSoFar_75 ?_
        refine mx_goto 11 d_Pa_isCalmSoFar_78 (by decide) ?_
        refine mx_dn4 ?_
        refine mx_dn5 ?_
        exact ih (vs_nextT hinv k0)
      · skip
        have m8 := mtv_n c_34
        refine mx_in_1 d_Pa_isCalmSoFar_37 ?_
        refine mx_goto 42 d_Pa_isCalmSoFar_38 (by decide) ?_
        refine mx_is5 d_Pa_isCalmSoFar_42 ?_
        refine mx_il5 d_Pa_isCalmSoFar_44 ?_
        refine mx_if_eq 75 d_Pa_isCalmSoFar_46 (by decide) (fun c_46 => absurd c_46 (by decide)) (fun c_46 => ?_)
        have ej : (nI j : Int32) = mtv j := (mtv_lt (by omega)).symm
        have eh : (nI h : Int32) = mtv h := (mtv_lt hh).symm
        refine mx_al0 d_Pa_isCalmSoFar_49 ?_
        refine mx_il1 d_Pa_isCalmSoFar_50 ?_
        refine mx_il4 d_Pa_isCalmSoFar_51 ?_
        refine mx_il2 d_Pa_isCalmSoFar_53 ?_
        refine mx_il3 d_Pa_isCalmSoFar_54 ?_
        refine mx_cV4i d_Pa_isCalmSoFar_55 (c_wbV hPa hR (h := h) (g := M j) (u := g) (w := j) (by omega) (by omega) (mtv_lt m8) rfl ej) ok_Pa_wouldBoth ml_Pa_86 (by assumption) ⟨rfl, rfl⟩ (by decide) (Nat.le_of_ble_eq_true rfl) ?_
        refine mx_ifB_ne 73 d_Pa_isCalmSoFar_58 (by decide) (fun c_58 => ?_) (fun c_58 => ?_)
        · skip
          have k0 : wy_calm W L M h g j = true := by unfold wy_calm; rw [decide_eq_true ⟨g8, m8⟩, c_58]; rfl
          refine mx_in_0 d_Pa_isCalmSoFar_73 ?_
          exact mx_zret d_Pa_isCalmSoFar_74 rfl (by first | exact Or.inl rfl | exact Or.inr rfl) (mx_ri_of (by rw [vs_any_t hj k0]; rfl))
        · skip
          refine mx_al0 d_Pa_isCalmSoFar_61 ?_
          refine mx_il3 d_Pa_isCalmSoFar_62 ?_
          refine mx_il2 d_Pa_isCalmSoFar_63 ?_
          refine mx_il4 d_Pa_isCalmSoFar_64 ?_
          refine mx_il1 d_Pa_isCalmSoFar_66 ?_
          refine mx_cV4i d_Pa_isCalmSoFar_67 (c_wbV hPa hR (h := j) (g := g) (u := M j) (w := h) (by omega) (by omega) (mtv_lt g8) rfl eh) ok_Pa_wouldBoth ml_Pa_86 (by assumption) ⟨rfl, rfl⟩ (by decide) (Nat.le_of_ble_eq_true rfl) ?_
          refine mx_ifB_eq 75 d_Pa_isCalmSoFar_70 (by decide) (fun c_70 => ?_) (fun c_70 => ?_)
          · skip
            have k0 : wy_calm W L M h g j = false := by unfold wy_calm; rw [c_58, c_70]; simp
            refine mx_iN3 d_Pa_isCalmSoFar_75 ?_
            refine mx_goto 11 d_Pa_isCalmSoFar_78 (by decide) ?_
            refine mx_dn4 ?_
            refine mx_dn5 ?_
            exact ih (vs_nextT hinv k0)
          · skip
            have k0 : wy_calm W L M h g j = true := by unfold wy_calm; rw [decide_eq_true ⟨g8, m8⟩, c_58, c_70]; rfl
            refine mx_in_0 d_Pa_isCalmSoFar_73 ?_
            exact mx_zret d_Pa_isCalmSoFar_74 rfl (by first | exact Or.inl rfl | exact Or.inr rfl) (mx_ri_of (by rw [vs_any_t hj k0]; rfl))
  · try dsimp only at hinv ⊢
    refine mx_il3 d_Pa_isCalmSoFar_11 ?_
    refine mx_il1 d_Pa_isCalmSoFar_12 ?_
    refine mx_icN_ge 81 d_Pa_isCalmSoFar_13 (by decide) (by omega) (by omega) (fun c_13 => ?_) (fun c_13 => absurd c_13 (by omega))
    refine mx_in_1 d_Pa_isCalmSoFar_81 ?_
    exact mx_zret d_Pa_isCalmSoFar_82 rfl (by first | exact Or.inl rfl | exact Or.inr rfl) (mx_ri_of (by rw [vs_any_f hinv]; rfl))
theorem wy_loud2 {Hs : Nat → Bool} (he : wy_env W L H G B Wt N0) (hk : k < H) (hp : wy_pf W (H - (k + 1)) U M) (c : (!(vs_any (wy_calm W L M (H - (k + 1)) g) (H - (k + 1)))) = false) : wy_T W L G H Hs k (updN M (H - (k + 1)) g) = 0 := by
  have c2 : vs_any (wy_calm W L M (H - (k + 1)) g) (H - (k + 1)) = true := by
    cases z : vs_any (wy_calm W L M (H - (k + 1)) g) (H - (k + 1))
    · rw [z] at c; cases c
    · rfl
  obtain ⟨j, hj, q⟩ := vs_any_ex c2
  exact wy_loud he hk hp hj q
theorem wy_may_1 (he : wy_env W L H G B Wt N0) (hh : h < 8) (c : (decide (B h < 8) && wy_may W B Wt U h g) = true) : 0 < W h g ∧ U.testBit g = false := by
  rw [Bool.and_eq_true, decide_eq_true_iff] at c
  have w := (wy_Wt he hh c.1).2
  have c2 := c.2
  unfold wy_may at c2
  rw [Bool.and_eq_true, Bool.and_eq_true, decide_eq_true_iff, decide_eq_true_iff] at c2
  refine ⟨by omega, ?_⟩
  cases z : U.testBit g
  · rfl
  · rw [z] at c2; exact absurd c2.2.2 (by decide)
theorem wy_cs_t (c : (decide (B (H - (k + 1)) < 8) && wy_may W B Wt U (H - (k + 1)) g) = true) : wy_cs W L G H (fun h => decide (B h < 8)) k M (g + 1) + wy_T W L G H (fun h => decide (B h < 8)) k (updN M (H - (k + 1)) g) = wy_cs W L G H (fun h => decide (B h < 8)) k M (g + 1 + 1) := by
  rw [Bool.and_eq_true] at c
  show _ = wy_cs W L G H (fun h => decide (B h < 8)) k M (g + 1) + _
  rw [if_pos c.1]
theorem wy_cs_f (he : wy_env W L H G B Wt N0) (hk : k < H) (hp : wy_pf W (H - (k + 1)) U M) (hg : g < 8) (c : (decide (B (H - (k + 1)) < 8) && wy_may W B Wt U (H - (k + 1)) g) = false) : wy_cs W L G H (fun h => decide (B h < 8)) k M (g + 1) = wy_cs W L G H (fun h => decide (B h < 8)) k M (g + 1 + 1) := by
  show _ = wy_cs W L G H (fun h => decide (B h < 8)) k M (g + 1) + _
  by_cases q : decide (B (H - (k + 1)) < 8) = true
  · rw [q, Bool.true_and] at c
    rw [if_pos q, wy_cut he hk hp hg c]; rfl
  · rw [if_neg q]; rfl
theorem wy_cs_1y (c : decide (¬ B (H - (k + 1)) < 8) = true) : 0 + wy_T W L G H (fun h => decide (B h < 8)) k (updN M (H - (k + 1)) 8) = wy_cs W L G H (fun h => decide (B h < 8)) k M (0 + 1) := by
  show _ = if _ then _ else _
  rw [if_neg (fun z => (of_decide_eq_true c) (of_decide_eq_true z)), Nat.zero_add]
theorem wy_cs_1n (c : decide (¬ B (H - (k + 1)) < 8) = false) : 0 = wy_cs W L G H (fun h => decide (B h < 8)) k M (0 + 1) := by
  show _ = if _ then _ else _
  rw [if_pos (decide_eq_true (Decidable.byContradiction (fun z => (of_decide_eq_false c) z)))]
theorem c_Pa_waysWithN {dd : Nat} (he : wy_env W L H G B Wt N0) (hk : k < H) (hrec : ∀ (I : mx_I) (M : Nat → Nat) (U : Nat), pa_rel I pa W L H G → wy_at I pa B Wt M (H - k) → wy_pf W (H - k) U M → mx_C l E M_Pa_waysFrom dd 0 0 [.ref (pa), .int (nI (H - k)), .int (nI U)] (t, S, I, P, J) (mx_sR (some (.int (nI (wy_T W L G H (fun h => decide (B h < 8)) k M)))) t S P J (fun K => wy_off I K pa (H - k)))) (hdd : 3 ≤ dd) (hPa : pa_ok S P pa) (hR : pa_rel I pa W L H G) (hat : wy_at I pa B Wt M (H - (k + 1))) (hp : wy_pf W (H - (k + 1)) U M)  : mx_C l E M_Pa_waysWith (dd + 1) 0 0 [.ref (pa), .int (nI (H - (k + 1))), .int ((-1)), .int (nI (U))] (t, S, I, P, J) (mx_sR (some (.int (nI (wy_T W L G H (fun h => decide (B h < 8)) k (updN M (H - (k + 1)) 8))))) t S P J (fun K => wy_off I K pa (H - (k + 1)))) := by
  obtain ⟨hPa0, hPa1, hPa2, hPa3, hPa4, hPa5, hPa6, hPa7, hPa8, hPa9, hPa10, hPa11, hPa12, hPa13, hPa14⟩ := id hPa
  have hH8 := he.2.2.2.2.1.1
  refine mx_C_of (ls0 := [some (.ref (pa)), some (.int (nI (H - (k + 1)))), some (.int ((-1))), some (.int (nI (U)))]) (by decide +kernel) rfl rfl (Nat.le_of_ble_eq_true rfl) rfl ?_
  refine mx_al0 d_Pa_waysWith_0 ?_
  refine mx_getR d_Pa_waysWith_1 fl_Pa_18 (by assumption) (by assumption) ?_
  refine mx_il1 d_Pa_waysWith_4 ?_
  refine mx_il2 d_Pa_waysWith_5 ?_
  refine mx_cSN3v d_Pa_waysWith_6 (c_put (k := H - (k + 1)) (by assumption) (by omega) (by omega)) ok_Vh_put ml_Pa_56 (by omega) (Nat.le_of_ble_eq_true rfl) ?_
  have ek : H - (k + 1) + 1 = H - k := by omega
  have hR1 : pa_rel (mx_up I (pa + 3) (H - (k + 1)) (-1)) pa W L H G := (wy_off.up0 (h := H - (k + 1))).rel hR
  have hat1 : wy_at (mx_up I (pa + 3) (H - (k + 1)) (-1)) pa B Wt M (H - (k + 1)) := hat.off wy_off.up0
  have hg1 : (mx_up I (pa + 3) (H - (k + 1)) (-1)) (pa + 3) (H - (k + 1)) = mtv 8 := by simp [mx_up]; rfl
  have hat2 : wy_at (mx_up I (pa + 3) (H - (k + 1)) (-1)) pa B Wt (updN M (H - (k + 1)) 8) (H - k) := by rw [← ek]; exact hat.up (v := 8)
  have hp2 : wy_pf W (H - k) (U) (updN M (H - (k + 1)) 8) := by rw [← ek]; exact wy_pf_8 hp
  refine mx_al0 d_Pa_waysWith_9 ?_
  refine mx_il1 d_Pa_waysWith_10 ?_
  refine mx_cV1i d_Pa_waysWith_11 (c_Pa_isCalmSoFar hPa hR1 hat1 (g := 8) (by omega) hg1) ok_Pa_isCalmSoFar ml_Pa_116 (by assumption) ⟨rfl, rfl⟩ (by omega) (Nat.le_of_ble_eq_true rfl) ?_
  refine mx_ifB_ne 19 d_Pa_waysWith_14 (by decide) (fun c_14 => ?_) (fun c_14 => ?_)
  · skip
    refine mx_al0 d_Pa_waysWith_19 ?_
    refine mx_il1 d_Pa_waysWith_20 ?_
    refine mx_in_1 d_Pa_waysWith_21 ?_
    refine mx_iaddN d_Pa_waysWith_22 ?_
    refine mx_ti (y := nI (H - k)) (by rw [ek]) ?_
    refine mx_il2 d_Pa_waysWith_23 ?_
    refine mx_ic_m1 d_Pa_waysWith_24 ?_
    refine mx_icmp_ne 32 d_Pa_waysWith_25 (by decide) (fun c_25 => absurd c_25 (fun z => z rfl)) (fun c_25 => ?_)
    refine mx_il3 d_Pa_waysWith_28 ?_
    refine mx_goto 37 d_Pa_waysWith_29 (by decide) ?_
    refine mx_cV2iR d_Pa_waysWith_37 (hrec _ (updN M (H - (k + 1)) 8) (U) hR1 hat2 hp2) ok_Pa_waysFrom ml_Pa_100 (by assumption) ⟨rfl, rfl⟩ (by omega) (Nat.le_of_ble_eq_true rfl) (fun K2 hK2 => ?_)
    exact mx_iret d_Pa_waysWith_40 rfl (mx_sR_i rfl (wy_off.up (by rw [ek]; exact hK2)))
  · skip
    refine mx_in_0 d_Pa_waysWith_17 ?_
    exact mx_iret d_Pa_waysWith_18 rfl (mx_sR_i (by rw [wy_loud2 he hk hp c_14]) wy_off.up0)
theorem c_Pa_waysWithG {dd : Nat} (he : wy_env W L H G B Wt N0) (hk : k < H) (hrec : ∀ (I : mx_I) (M : Nat → Nat) (U : Nat), pa_rel I pa W L H G → wy_at I pa B Wt M (H - k) → wy_pf W (H - k) U M → mx_C l E M_Pa_waysFrom dd 0 0 [.ref (pa), .int (nI (H - k)), .int (nI U)] (t, S, I, P, J) (mx_sR (some (.int (nI (wy_T W L G H (fun h => decide (B h < 8)) k M)))) t S P J (fun K => wy_off I K pa (H - k)))) (hdd : 3 ≤ dd) (hPa : pa_ok S P pa) (hR : pa_rel I pa W L H G) (hat : wy_at I pa B Wt M (H - (k + 1))) (hp : wy_pf W (H - (k + 1)) U M) (hg : g < 8) (hwg : 0 < W (H - (k + 1)) g) (hug : U.testBit g = false)  : mx_C l E M_Pa_waysWith (dd + 1) 0 0 [.ref (pa), .int (nI (H - (k + 1))), .int (nI (g)), .int (nI (U))] (t, S, I, P, J) (mx_sR (some (.int (nI (wy_T W L G H (fun h => decide (B h < 8)) k (updN M (H - (k + 1)) g))))) t S P J (fun K => wy_off I K pa (H - (k + 1)))) := by
  obtain ⟨hPa0, hPa1, hPa2, hPa3, hPa4, hPa5, hPa6, hPa7, hPa8, hPa9, hPa10, hPa11, hPa12, hPa13, hPa14⟩ := id hPa
  have hH8 := he.2.2.2.2.1.1
  refine mx_C_of (ls0 := [some (.ref (pa)), some (.int (nI (H - (k + 1)))), some (.int (nI (g))), some (.int (nI (U)))]) (by decide +kernel) rfl rfl (Nat.le_of_ble_eq_true rfl) rfl ?_
  refine mx_al0 d_Pa_waysWith_0 ?_
  refine mx_getR d_Pa_waysWith_1 fl_Pa_18 (by assumption) (by assumption) ?_
  refine mx_il1 d_Pa_waysWith_4 ?_
  refine mx_il2 d_Pa_waysWith_5 ?_
  refine mx_cSN3v d_Pa_waysWith_6 (c_put (k := H - (k + 1)) (by assumption) (by omega) (by omega)) ok_Vh_put ml_Pa_56 (by omega) (Nat.le_of_ble_eq_true rfl) ?_
  have ek : H - (k + 1) + 1 = H - k := by omega
  have hR1 : pa_rel (mx_up I (pa + 3) (H - (k + 1)) (nI (g))) pa W L H G := (wy_off.up0 (h := H - (k + 1))).rel hR
  have hat1 : wy_at (mx_up I (pa + 3) (H - (k + 1)) (nI (g))) pa B Wt M (H - (k + 1)) := hat.off wy_off.up0
  have hg1 : (mx_up I (pa + 3) (H - (k + 1)) (nI (g))) (pa + 3) (H - (k + 1)) = mtv g := by rw [mtv_lt hg]; simp [mx_up]
  have hat2 : wy_at (mx_up I (pa + 3) (H - (k + 1)) (nI (g))) pa B Wt (updN M (H - (k + 1)) g) (H - k) := by rw [← ek]; rw [← mtv_lt hg]; exact hat.up (v := g)
  have hp2 : wy_pf W (H - k) (bset U g) (updN M (H - (k + 1)) g) := by rw [← ek]; exact wy_pf_g hp hg hwg hug
  refine mx_al0 d_Pa_waysWith_9 ?_
  refine mx_il1 d_Pa_waysWith_10 ?_
  refine mx_cV1i d_Pa_waysWith_11 (c_Pa_isCalmSoFar hPa hR1 hat1 (g := g) (by omega) hg1) ok_Pa_isCalmSoFar ml_Pa_116 (by assumption) ⟨rfl, rfl⟩ (by omega) (Nat.le_of_ble_eq_true rfl) ?_
  refine mx_ifB_ne 19 d_Pa_waysWith_14 (by decide) (fun c_14 => ?_) (fun c_14 => ?_)
  · skip
    refine mx_al0 d_Pa_waysWith_19 ?_
    refine mx_il1 d_Pa_waysWith_20 ?_
    refine mx_in_1 d_Pa_waysWith_21 ?_
    refine mx_iaddN d_Pa_waysWith_22 ?_
    refine mx_ti (y := nI (H - k)) (by rw [ek]) ?_
    refine mx_il2 d_Pa_waysWith_23 ?_
    refine mx_ic_m1 d_Pa_waysWith_24 ?_
    refine mx_icmp_ne 32 d_Pa_waysWith_25 (by decide) (fun c_25 => ?_) (fun c_25 => absurd c_25 (nI_m1 hg))
    refine mx_il3 d_Pa_waysWith_32 ?_
    refine mx_in_1 d_Pa_waysWith_33 ?_
    refine mx_il2 d_Pa_waysWith_34 ?_
    refine mx_ishl d_Pa_waysWith_35 ?_
    refine mx_ior d_Pa_waysWith_36 ?_
    refine mx_ti (y := nI (bset U g)) (bset_nI U hp.2.2.1 g hg) ?_
    refine mx_cV2iR d_Pa_waysWith_37 (hrec _ (updN M (H - (k + 1)) g) (bset U g) hR1 hat2 hp2) ok_Pa_waysFrom ml_Pa_100 (by assumption) ⟨rfl, rfl⟩ (by omega) (Nat.le_of_ble_eq_true rfl) (fun K2 hK2 => ?_)
    exact mx_iret d_Pa_waysWith_40 rfl (mx_sR_i rfl (wy_off.up (by rw [ek]; exact hK2)))
  · skip
    refine mx_in_0 d_Pa_waysWith_17 ?_
    exact mx_iret d_Pa_waysWith_18 rfl (mx_sR_i (by rw [wy_loud2 he hk hp c_14]) wy_off.up0)
theorem c_Pa_waysFrom0 (he : wy_env W L H G B Wt N0) (hPa : pa_ok S P pa) (hR : pa_rel I pa W L H G) (hat : wy_at I pa B Wt M H) (hp : wy_pf W H U M) : mx_C l E M_Pa_waysFrom 3 0 0 [.ref (pa), .int (nI (H)), .int (nI (U))] (t, S, I, P, J) (mx_sR (some (.int (nI (wy_T W L G H (fun h => decide (B h < 8)) 0 M)))) t S P J (fun K => wy_off I K pa H)) := by
  obtain ⟨hPa0, hPa1, hPa2, hPa3, hPa4, hPa5, hPa6, hPa7, hPa8, hPa9, hPa10, hPa11, hPa12, hPa13, hPa14⟩ := id hPa
  have hH8 := he.2.2.2.2.1.1
  have hG8 := he.2.2.2.2.1.2
  refine mx_C_of (ls0 := [some (.ref (pa)), some (.int (nI (H))), some (.int (nI (U))), none, none]) (by decide +kernel) rfl rfl (Nat.le_of_ble_eq_true rfl) rfl ?_
  refine mx_il1 d_Pa_waysFrom_0 ?_
  refine mx_al0 d_Pa_waysFrom_1 ?_
  refine mx_getI d_Pa_waysFrom_2 fl_Pa_39 (by assumption) ?_
  refine mx_ti (y := nI (H)) (hR.1) ?_
  refine mx_icN_ge 14 d_Pa_waysFrom_5 (by decide) (by omega) (by omega) (fun c_5 => ?_) (fun c_5 => absurd c_5 (by omega))
  refine mx_al0 d_Pa_waysFrom_14 ?_
  refine mx_cV0iR d_Pa_waysFrom_15 (c_Pa_rivals hPa hR hH8 hG8 hat.2.2) ok_Pa_rivals ml_Pa_104 (by assumption) ⟨rfl, rfl⟩ (by decide) (Nat.le_of_ble_eq_true rfl) (fun K1 hK1 => ?_)
  have hle := rv_le W L M (vs_ho M H) hG8 hH8
  refine mx_if_ne 25 d_Pa_waysFrom_18 (by decide) (fun c_18 => ?_) (fun c_18 => ?_)
  · skip
    refine mx_in_0 d_Pa_waysFrom_25 ?_
    exact mx_iret d_Pa_waysFrom_26 rfl (mx_sR_i (by rw [wy_leaf hp]; first | (rw [if_pos (by have z := nI_z (by omega) c_18; omega)]; done) | (rw [if_neg (fun e => c_18 (by rw [e]; rfl))]; done)) ⟨fun c hc => hK1 c (fun z => hc (Or.inr z)), fun j hj => congrFun (hK1 _ (by show ¬ pa + 3 = pa + 4; omega)) j⟩)
  · skip
    refine mx_in_1 d_Pa_waysFrom_21 ?_
    refine mx_goto 26 d_Pa_waysFrom_22 (by decide) ?_
    exact mx_iret d_Pa_waysFrom_26 rfl (mx_sR_i (by rw [wy_leaf hp]; first | (rw [if_pos (by have z := nI_z (by omega) c_18; omega)]; done) | (rw [if_neg (fun e => c_18 (by rw [e]; rfl))]; done)) ⟨fun c hc => hK1 c (fun z => hc (Or.inr z)), fun j hj => congrFun (hK1 _ (by show ¬ pa + 3 = pa + 4; omega)) j⟩)
theorem c_Pa_waysFromS {dd : Nat} (he : wy_env W L H G B Wt N0) (hk : k < H) (hrec : ∀ (I : mx_I) (M : Nat → Nat) (U : Nat), pa_rel I pa W L H G → wy_at I pa B Wt M (H - k) → wy_pf W (H - k) U M → mx_C l E M_Pa_waysFrom dd 0 0 [.ref (pa), .int (nI (H - k)), .int (nI U)] (t, S, I, P, J) (mx_sR (some (.int (nI (wy_T W L G H (fun h => decide (B h < 8)) k M)))) t S P J (fun K => wy_off I K pa (H - k)))) (hdd : 3 ≤ dd) (hPa : pa_ok S P pa) (hR : pa_rel I pa W L H G) (hat : wy_at I pa B Wt M (H - (k + 1))) (hp : wy_pf W (H - (k + 1)) U M)  : mx_C l E M_Pa_waysFrom (dd + 2) 0 0 [.ref (pa), .int (nI (H - (k + 1))), .int (nI (U))] (t, S, I, P, J) (mx_sR (some (.int (nI (wy_T W L G H (fun h => decide (B h < 8)) (k + 1) M)))) t S P J (fun K => wy_off I K pa (H - (k + 1)))) := by
  obtain ⟨hPa0, hPa1, hPa2, hPa3, hPa4, hPa5, hPa6, hPa7, hPa8, hPa9, hPa10, hPa11, hPa12, hPa13, hPa14⟩ := id hPa
  have hH8 := he.2.2.2.2.1.1
  have hG8 := he.2.2.2.2.1.2
  refine mx_C_of (ls0 := [some (.ref (pa)), some (.int (nI (H - (k + 1)))), some (.int (nI (U))), none, none]) (by decide +kernel) rfl rfl (Nat.le_of_ble_eq_true rfl) rfl ?_
  refine mx_il1 d_Pa_waysFrom_0 ?_
  refine mx_al0 d_Pa_waysFrom_1 ?_
  refine mx_getI d_Pa_waysFrom_2 fl_Pa_39 (by assumption) ?_
  refine mx_ti (y := nI (H)) (hR.1) ?_
  refine mx_icN_ge 14 d_Pa_waysFrom_5 (by decide) (by omega) (by omega) (fun c_5 => absurd c_5 (by omega)) (fun c_5 => ?_)
  refine mx_il1 d_Pa_waysFrom_8 ?_
  refine mx_bip 8 d_Pa_waysFrom_9 (by decide) ?_
  refine mx_icN_lt 27 d_Pa_waysFrom_11 (by decide) (by omega) (by omega) (fun c_11 => ?_) (fun c_11 => absurd c_11 (by omega))
  refine mx_in_0 d_Pa_waysFrom_27 ?_
  refine mx_is3 d_Pa_waysFrom_28 ?_
  refine mx_ic_m1 d_Pa_waysFrom_29 ?_
  refine mx_is4 d_Pa_waysFrom_30 ?_
  refine mx_il4 d_Pa_waysFrom_32 ?_
  refine mx_al0 d_Pa_waysFrom_34 ?_
  refine mx_getI d_Pa_waysFrom_35 fl_Pa_43 (by assumption) ?_
  refine mx_ti (y := nI (G)) (hR.2.1) ?_
  refine mx_icmp_ge 69 d_Pa_waysFrom_38 (by decide) (fun c_38 => absurd c_38 (nI_gm1 hG8)) (fun c_38 => ?_)
  refine mx_al0 d_Pa_waysFrom_41 ?_
  refine mx_il1 d_Pa_waysFrom_42 ?_
  refine mx_il4 d_Pa_waysFrom_43 ?_
  refine mx_il2 d_Pa_waysFrom_45 ?_
  refine mx_cV3i d_Pa_waysFrom_46 (c_Pa_mayHaveN hPa hR hat (by omega)) ok_Pa_mayHave ml_Pa_108 (by assumption) ⟨rfl, rfl⟩ (by omega) (Nat.le_of_ble_eq_true rfl) ?_
  refine mx_ifB_eq 63 d_Pa_waysFrom_49 (by decide) (fun c_49 => ?_) (fun c_49 => ?_)
  · skip
    refine mx_ii4 (v := 1) d_Pa_waysFrom_63 rfl ?_
    refine mx_goto 32 d_Pa_waysFrom_66 (by decide) ?_
    refine mx_lsc (congrArg (fun z9 => ([some (.ref (pa)), some (.int (nI (H - (k + 1)))), some (.int (nI (U))), some (.int (z9)), some (.int (((-1) + 1)))] : List (Option Value))) ((show (nI (0) : Int32) = nI (wy_cs W L G H (fun h => decide (B h < 8)) k M (0 + 1)) from congrArg nI (by first | exact wy_cs_1y c_49 | exact wy_cs_1n c_49)))) ?_
    refine mx_lsc (congrArg (fun z9 => ([some (.ref (pa)), some (.int (nI (H - (k + 1)))), some (.int (nI (U))), some (.int (nI (wy_cs W L G H (fun h => decide (B h < 8)) k M (0 + 1)))), some (.int (z9))] : List (Option Value))) ((by decide : ((-1 : Int32) + 1) = nI 0))) ?_
    refine mx_loopX (α := (mx_I)) (N := G) (a0 := I) (fun g z9 => wy_off I z9 pa (H - (k + 1))) (ls := fun g z9 => [some (.ref (pa)), some (.int (nI (H - (k + 1)))), some (.int (nI (U))), some (.int (nI (wy_cs W L G H (fun h => decide (B h < 8)) k M (g + 1)))), some (.int (nI (g)))]) (X := fun g z9 => (t, S, z9, P, J)) ((by first | exact hK1 | exact wy_off.rf)) (fun g hg z9 hinv ih => ?_) (fun z9 hinv => ?_)
    · skip
      obtain ⟨K, hz9⟩ : ∃ q, q = z9 := ⟨_, rfl⟩
      subst hz9
      try dsimp only at hinv ih ⊢
      have hatK := hat.off hinv
      have hRK := hinv.rel hR
      refine mx_il4 d_Pa_waysFrom_32 ?_
      refine mx_al0 d_Pa_waysFrom_34 ?_
      refine mx_getI d_Pa_waysFrom_35 fl_Pa_43 (by assumption) ?_
      refine mx_ti (y := nI (G)) (hRK.2.1) ?_
      refine mx_icN_ge 69 d_Pa_waysFrom_38 (by decide) (by omega) (by omega) (fun c_38 => absurd c_38 (by omega)) (fun c_38 => ?_)
      refine mx_al0 d_Pa_waysFrom_41 ?_
      refine mx_il1 d_Pa_waysFrom_42 ?_
      refine mx_il4 d_Pa_waysFrom_43 ?_
      refine mx_il2 d_Pa_waysFrom_45 ?_
      refine mx_cV3i d_Pa_waysFrom_46 (c_Pa_mayHaveG hPa hRK hatK (fun z => (wy_Wt he (by omega) z).1) (by omega) (g := g) (by omega) hp.2.2.1) ok_Pa_mayHave ml_Pa_108 (by assumption) ⟨rfl, rfl⟩ (by omega) (Nat.le_of_ble_eq_true rfl) ?_
      refine mx_ifB_eq 63 d_Pa_waysFrom_49 (by decide) (fun c_49 => ?_) (fun c_49 => ?_)
      · skip
        refine mx_iN4 d_Pa_waysFrom_63 ?_
        refine mx_goto 32 d_Pa_waysFrom_66 (by decide) ?_
        have e3 : nI (wy_cs W L G H (fun h => decide (B h < 8)) k M (g + 1)) = nI (wy_cs W L G H (fun h => decide (B h < 8)) k M ((g + 1) + 1)) := by first | (rw [wy_cs_t c_49]; done) | (rw [wy_cs_f he hk hp (by omega) c_49]; done)
        refine mx_lsc (congrArg (fun z9 => ([some (.ref (pa)), some (.int (nI (H - (k + 1)))), some (.int (nI (U))), some (.int (z9)), some (.int (nI (g + 1)))] : List (Option Value))) e3) ?_
        exact ih K (hinv)
      · skip
        refine mx_il3 d_Pa_waysFrom_52 ?_
        refine mx_al0 d_Pa_waysFrom_53 ?_
        refine mx_il1 d_Pa_waysFrom_54 ?_
        refine mx_il4 d_Pa_waysFrom_55 ?_
        refine mx_il2 d_Pa_waysFrom_57 ?_
        refine mx_cV3iR d_Pa_waysFrom_58 (c_Pa_waysWithG he hk hrec hdd hPa hRK hatK hp (g := g) (by omega) (wy_may_1 he (by omega) c_49).1 (wy_may_1 he (by omega) c_49).2) ok_Pa_waysWith ml_Pa_112 (by assumption) ⟨rfl, rfl⟩ (by omega) (Nat.le_of_ble_eq_true rfl) (fun K2 hK2 => ?_)
        refine mx_iaddN d_Pa_waysFrom_61 ?_
        refine mx_is3 d_Pa_waysFrom_62 ?_
        refine mx_iN4 d_Pa_waysFrom_63 ?_
        refine mx_goto 32 d_Pa_waysFrom_66 (by decide) ?_
        have e3 : nI (wy_cs W L G H (fun h => decide (B h < 8)) k M (g + 1) + (wy_T W L G H (fun h => decide (B h < 8)) k (updN M (H - (k + 1)) g))) = nI (wy_cs W L G H (fun h => decide (B h < 8)) k M ((g + 1) + 1)) := by first | (rw [wy_cs_t c_49]; done) | (rw [wy_cs_f he hk hp (by omega) c_49]; done)
        refine mx_lsc (congrArg (fun z9 => ([some (.ref (pa)), some (.int (nI (H - (k + 1)))), some (.int (nI (U))), some (.int (z9)), some (.int (nI (g + 1)))] : List (Option Value))) e3) ?_
        exact ih K2 (hinv.tr hK2)
    · skip
      obtain ⟨K, hz9⟩ : ∃ q, q = z9 := ⟨_, rfl⟩
      subst hz9
      try dsimp only at hinv ⊢
      have hRK := hinv.rel hR
      refine mx_il4 d_Pa_waysFrom_32 ?_
      refine mx_al0 d_Pa_waysFrom_34 ?_
      refine mx_getI d_Pa_waysFrom_35 fl_Pa_43 (by assumption) ?_
      refine mx_ti (y := nI (G)) (hRK.2.1) ?_
      refine mx_icN_ge 69 d_Pa_waysFrom_38 (by decide) (by omega) (by omega) (fun c_38 => ?_) (fun c_38 => absurd c_38 (by omega))
      refine mx_il3 d_Pa_waysFrom_69 ?_
      exact mx_iret d_Pa_waysFrom_70 rfl (mx_sR_i (by rw [wy_cs_end he hk]) hinv)
  · skip
    refine mx_il3 d_Pa_waysFrom_52 ?_
    refine mx_al0 d_Pa_waysFrom_53 ?_
    refine mx_il1 d_Pa_waysFrom_54 ?_
    refine mx_il4 d_Pa_waysFrom_55 ?_
    refine mx_il2 d_Pa_waysFrom_57 ?_
    refine mx_cV3iR d_Pa_waysFrom_58 (c_Pa_waysWithN he hk hrec hdd hPa hR hat hp) ok_Pa_waysWith ml_Pa_112 (by assumption) ⟨rfl, rfl⟩ (by omega) (Nat.le_of_ble_eq_true rfl) (fun K1 hK1 => ?_)
    refine mx_iaddN d_Pa_waysFrom_61 ?_
    refine mx_is3 d_Pa_waysFrom_62 ?_
    refine mx_ii4 (v := 1) d_Pa_waysFrom_63 rfl ?_
    refine mx_goto 32 d_Pa_waysFrom_66 (by decide) ?_
    refine mx_lsc (congrArg (fun z9 => ([some (.ref (pa)), some (.int (nI (H - (k + 1)))), some (.int (nI (U))), some (.int (z9)), some (.int (((-1) + 1)))] : List (Option Value))) ((show (nI (0 + (wy_T W L G H (fun h => decide (B h < 8)) k (updN M (H - (k + 1)) 8))) : Int32) = nI (wy_cs W L G H (fun h => decide (B h < 8)) k M (0 + 1)) from congrArg nI (by first | exact wy_cs_1y c_49 | exact wy_cs_1n c_49)))) ?_
    refine mx_lsc (congrArg (fun z9 => ([some (.ref (pa)), some (.int (nI (H - (k + 1)))), some (.int (nI (U))), some (.int (nI (wy_cs W L G H (fun h => decide (B h < 8)) k M (0 + 1)))), some (.int (z9))] : List (Option Value))) ((by decide : ((-1 : Int32) + 1) = nI 0))) ?_
    refine mx_loopX (α := (mx_I)) (N := G) (a0 := K1) (fun g z9 => wy_off I z9 pa (H - (k + 1))) (ls := fun g z9 => [some (.ref (pa)), some (.int (nI (H - (k + 1)))), some (.int (nI (U))), some (.int (nI (wy_cs W L G H (fun h => decide (B h < 8)) k M (g + 1)))), some (.int (nI (g)))]) (X := fun g z9 => (t, S, z9, P, J)) ((by first | exact hK1 | exact wy_off.rf)) (fun g hg z9 hinv ih => ?_) (fun z9 hinv => ?_)
    · skip
      obtain ⟨K, hz9⟩ : ∃ q, q = z9 := ⟨_, rfl⟩
      subst hz9
      try dsimp only at hinv ih ⊢
      have hatK := hat.off hinv
      have hRK := hinv.rel hR
      refine mx_il4 d_Pa_waysFrom_32 ?_
      refine mx_al0 d_Pa_waysFrom_34 ?_
      refine mx_getI d_Pa_waysFrom_35 fl_Pa_43 (by assumption) ?_
      refine mx_ti (y := nI (G)) (hRK.2.1) ?_
      refine mx_icN_ge 69 d_Pa_waysFrom_38 (by decide) (by omega) (by omega) (fun c_38 => absurd c_38 (by omega)) (fun c_38 => ?_)
      refine mx_al0 d_Pa_waysFrom_41 ?_
      refine mx_il1 d_Pa_waysFrom_42 ?_
      refine mx_il4 d_Pa_waysFrom_43 ?_
      refine mx_il2 d_Pa_waysFrom_45 ?_
      refine mx_cV3i d_Pa_waysFrom_46 (c_Pa_mayHaveG hPa hRK hatK (fun z => (wy_Wt he (by omega) z).1) (by omega) (g := g) (by omega) hp.2.2.1) ok_Pa_mayHave ml_Pa_108 (by assumption) ⟨rfl, rfl⟩ (by omega) (Nat.le_of_ble_eq_true rfl) ?_
      refine mx_ifB_eq 63 d_Pa_waysFrom_49 (by decide) (fun c_49 => ?_) (fun c_49 => ?_)
      · skip
        refine mx_iN4 d_Pa_waysFrom_63 ?_
        refine mx_goto 32 d_Pa_waysFrom_66 (by decide) ?_
        have e3 : nI (wy_cs W L G H (fun h => decide (B h < 8)) k M (g + 1)) = nI (wy_cs W L G H (fun h => decide (B h < 8)) k M ((g + 1) + 1)) := by first | (rw [wy_cs_t c_49]; done) | (rw [wy_cs_f he hk hp (by omega) c_49]; done)
        refine mx_lsc (congrArg (fun z9 => ([some (.ref (pa)), some (.int (nI (H - (k + 1)))), some (.int (nI (U))), some (.int (z9)), some (.int (nI (g + 1)))] : List (Option Value))) e3) ?_
        exact ih K (hinv)
      · skip
        refine mx_il3 d_Pa_waysFrom_52 ?_
        refine mx_al0 d_Pa_waysFrom_53 ?_
        refine mx_il1 d_Pa_waysFrom_54 ?_
        refine mx_il4 d_Pa_waysFrom_55 ?_
        refine mx_il2 d_Pa_waysFrom_57 ?_
        refine mx_cV3iR d_Pa_waysFrom_58 (c_Pa_waysWithG he hk hrec hdd hPa hRK hatK hp (g := g) (by omega) (wy_may_1 he (by omega) c_49).1 (wy_may_1 he (by omega) c_49).2) ok_Pa_waysWith ml_Pa_112 (by assumption) ⟨rfl, rfl⟩ (by omega) (Nat.le_of_ble_eq_true rfl) (fun K2 hK2 => ?_)
        refine mx_iaddN d_Pa_waysFrom_61 ?_
        refine mx_is3 d_Pa_waysFrom_62 ?_
        refine mx_iN4 d_Pa_waysFrom_63 ?_
        refine mx_goto 32 d_Pa_waysFrom_66 (by decide) ?_
        have e3 : nI (wy_cs W L G H (fun h => decide (B h < 8)) k M (g + 1) + (wy_T W L G H (fun h => decide (B h < 8)) k (updN M (H - (k + 1)) g))) = nI (wy_cs W L G H (fun h => decide (B h < 8)) k M ((g + 1) + 1)) := by first | (rw [wy_cs_t c_49]; done) | (rw [wy_cs_f he hk hp (by omega) c_49]; done)
        refine mx_lsc (congrArg (fun z9 => ([some (.ref (pa)), some (.int (nI (H - (k + 1)))), some (.int (nI (U))), some (.int (z9)), some (.int (nI (g + 1)))] : List (Option Value))) e3) ?_
        exact ih K2 (hinv.tr hK2)
    · skip
      obtain ⟨K, hz9⟩ : ∃ q, q = z9 := ⟨_, rfl⟩
      subst hz9
      try dsimp only at hinv ⊢
      have hRK := hinv.rel hR
      refine mx_il4 d_Pa_waysFrom_32 ?_
      refine mx_al0 d_Pa_waysFrom_34 ?_
      refine mx_getI d_Pa_waysFrom_35 fl_Pa_43 (by assumption) ?_
      refine mx_ti (y := nI (G)) (hRK.2.1) ?_
      refine mx_icN_ge 69 d_Pa_waysFrom_38 (by decide) (by omega) (by omega) (fun c_38 => ?_) (fun c_38 => absurd c_38 (by omega))
      refine mx_il3 d_Pa_waysFrom_69 ?_
      exact mx_iret d_Pa_waysFrom_70 rfl (mx_sR_i (by rw [wy_cs_end he hk]) hinv)
theorem c_Pa_waysFrom (he : wy_env W L H G B Wt N0) (hPa : pa_ok S P pa) : ∀ k, k ≤ H → ∀ (I : mx_I) (M : Nat → Nat) (U : Nat), pa_rel I pa W L H G → wy_at I pa B Wt M (H - k) → wy_pf W (H - k) U M → mx_C l E M_Pa_waysFrom (2 * k + 3) 0 0 [.ref (pa), .int (nI (H - k)), .int (nI U)] (t, S, I, P, J) (mx_sR (some (.int (nI (wy_T W L G H (fun h => decide (B h < 8)) k M)))) t S P J (fun K => wy_off I K pa (H - k)))
  | 0, _, I, M, U, h1, h2, h3 => c_Pa_waysFrom0 he hPa h1 h2 h3
  | k + 1, hk, I, M, U, h1, h2, h3 => by
    rw [show 2 * (k + 1) + 3 = 2 * k + 3 + 2 by omega]
    exact c_Pa_waysFromS he (by omega) (c_Pa_waysFrom he hPa k (by omega)) (by omega) hPa h1 h2 h3
theorem wy_pf_0 : wy_pf W 0 0 (fun _ => 8) := ⟨fun j hj => absurd hj (by omega), fun j hj => absurd hj (by omega), by omega, fun g _ => ⟨fun z => (by rw [Nat.zero_testBit] at z; cases z), fun ⟨j, hj, _⟩ => absurd hj (by omega)⟩⟩
theorem WW_lt {m : Nat → Int32} (hr : rk9 m) {H G a b : Nat} (ha : a < 8) (hb : b < 8) : WW m H G a b < 1000 := by
  have := (hr.r ha hb).1
  unfold WW; split <;> omega
theorem LW_lt {m : Nat → Int32} (hr : rk9 m) {H G a b : Nat} (ha : a < 8) (hb : b < 8) : LW m H G a b < 1000 := by
  have := (hr.l hb ha).1
  unfold LW; split <;> omega
theorem wy_env_m {m : Nat → Int32} (hr : rk9 m) {H G : Nat} (hH : H ≤ 8) (hG : G ≤ 8) : wy_env (WW m H G) (LW m H G) H G (gs_E (WW m H G) (LW m H G)).1 (gs_E (LW m H G) (WW m H G)).2.1 (gs_E (WW m H G) (LW m H G)).2.1 :=
  wy_env_of (fun a b _ _ => (WW_may hr hH hG).trans (LW_may hr hH hG).symm) (WW_inj H G) (LW_inj H G) (fun h g q => ((WW_may hr hH hG).mp q).1) hH hG (fun a b ha hb => WW_lt hr ha hb) (fun a b ha hb => LW_lt hr ha hb)
def sp_ways (m : Nat → Int32) (H G : Nat) : Nat := wy_T (WW m H G) (LW m H G) G H (fun h => decide ((gs_E (WW m H G) (LW m H G)).1 h < 8)) H (fun _ => 8)
theorem c_Pa_calmWays (he : wy_env W L H G (gs_E W L).1 (gs_E L W).2.1 N0) (hPa : pa_ok S P pa) (hR : pa_rel I pa W L H G)  : mx_C l E M_Pa_calmWays 20 0 0 [.ref (pa)] (t, S, I, P, J) (mx_sR (some (.int (nI (wy_T W L G H (fun h => decide ((gs_E W L).1 h < 8)) H (fun _ => 8))))) t S P J (fun K => mx_off (fun c => pa + 3 ≤ c ∧ c ≤ pa + 7) I K)) := by
  obtain ⟨hPa0, hPa1, hPa2, hPa3, hPa4, hPa5, hPa6, hPa7, hPa8, hPa9, hPa10, hPa11, hPa12, hPa13, hPa14⟩ := id hPa
  have hH8 := he.2.2.2.2.1.1
  refine mx_C_of (ls0 := [some (.ref (pa))]) (by decide +kernel) rfl rfl (Nat.le_of_ble_eq_true rfl) rfl ?_
  refine mx_al0 d_Pa_calmWays_0 ?_
  refine mx_cV0vR d_Pa_calmWays_1 (c_Pa_askByGuests hPa hR) ok_Pa_askByGuests ml_Pa_90 (by assumption) ⟨rfl, rfl⟩ (by omega) (Nat.le_of_ble_eq_true rfl) (fun K1 hK1 => ?_)
  refine mx_al0 d_Pa_calmWays_4 ?_
  refine mx_getR d_Pa_calmWays_5 fl_Pa_18 (by assumption) (by assumption) ?_
  refine mx_al0 d_Pa_calmWays_8 ?_
  refine mx_getR d_Pa_calmWays_9 fl_Pa_30 (by assumption) (by assumption) ?_
  refine mx_cSN2v d_Pa_calmWays_12 (c_copy (by assumption) (by assumption) (by omega)) ok_Vh_copy ml_Pa_93 (by omega) (Nat.le_of_ble_eq_true rfl) ?_
  have hR2 : pa_rel (vs_cp K1 (pa + 3) (pa + 7) 8) pa W L H G := hR.congr (by rw [vs_cp_ne (by omega)]; exact (hK1.1 (pa) (fun z => by have z : pa = pa + 3 ∨ pa = pa + 4 ∨ pa = pa + 5 := z; omega))) (by rw [vs_cp_ne (by omega)]; exact (hK1.1 (pa + 1) (fun z => by have z : pa + 1 = pa + 3 ∨ pa + 1 = pa + 4 ∨ pa + 1 = pa + 5 := z; omega))) (by rw [vs_cp_ne (by omega)]; exact (hK1.1 (pa + 2) (fun z => by have z : pa + 2 = pa + 3 ∨ pa + 2 = pa + 4 ∨ pa + 2 = pa + 5 := z; omega)))
  refine mx_al0 d_Pa_calmWays_15 ?_
  refine mx_cV0vR d_Pa_calmWays_16 (c_Pa_askByHosts hPa hR2) ok_Pa_askByHosts ml_Pa_97 (by assumption) ⟨rfl, rfl⟩ (by omega) (Nat.le_of_ble_eq_true rfl) (fun K2 hK2 => ?_)
  refine mx_al0 d_Pa_calmWays_19 ?_
  refine mx_getR d_Pa_calmWays_20 fl_Pa_18 (by assumption) (by assumption) ?_
  refine mx_al0 d_Pa_calmWays_23 ?_
  refine mx_getR d_Pa_calmWays_24 fl_Pa_27 (by assumption) (by assumption) ?_
  refine mx_cSN2v d_Pa_calmWays_27 (c_copy (by assumption) (by assumption) (by omega)) ok_Vh_copy ml_Pa_93 (by omega) (Nat.le_of_ble_eq_true rfl) ?_
  refine mx_al0 d_Pa_calmWays_30 ?_
  refine mx_getR d_Pa_calmWays_31 fl_Pa_18 (by assumption) (by assumption) ?_
  refine mx_ic_m1 d_Pa_calmWays_34 ?_
  refine mx_cSN2v d_Pa_calmWays_35 (c_fill (by assumption) (by omega)) ok_Vh_fill ml_Pa_44 (by omega) (Nat.le_of_ble_eq_true rfl) ?_
  have hF : ∀ c, c ≠ pa + 3 → c ≠ pa + 6 → c ≠ pa + 4 → c ≠ pa + 5 → (vs_fill (vs_cp K2 (pa + 3) (pa + 6) 8) (pa + 3) 8 (-1)) c = (vs_cp K1 (pa + 3) (pa + 7) 8) c := fun c h1 h2 h3 h4 => by rw [show (vs_fill (vs_cp K2 (pa + 3) (pa + 6) 8) (pa + 3) 8 (-1)) c = (vs_cp K2 (pa + 3) (pa + 6) 8) c from by funext j; simp [vs_fill, h1], vs_cp_ne h2]; exact hK2.1 c (fun z => by have z : c = pa + 3 ∨ c = pa + 4 ∨ c = pa + 5 := z; omega)
  have hR3 : pa_rel (vs_fill (vs_cp K2 (pa + 3) (pa + 6) 8) (pa + 3) 8 (-1)) pa W L H G := hR2.congr (hF _ (by omega) (by omega) (by omega) (by omega)) (hF _ (by omega) (by omega) (by omega) (by omega)) (hF _ (by omega) (by omega) (by omega) (by omega))
  have hat : wy_at (vs_fill (vs_cp K2 (pa + 3) (pa + 6) 8) (pa + 3) 8 (-1)) pa (gs_E W L).1 (gs_E L W).2.1 (fun _ => 8) 0 := ⟨fun j hj => by rw [show (vs_fill (vs_cp K2 (pa + 3) (pa + 6) 8) (pa + 3) 8 (-1)) (pa + 6) j = K2 (pa + 3) j from by rw [show (vs_fill (vs_cp K2 (pa + 3) (pa + 6) 8) (pa + 3) 8 (-1)) (pa + 6) = (vs_cp K2 (pa + 3) (pa + 6) 8) (pa + 6) from by funext i; simp [vs_fill]]; simp [vs_cp, hj]]; exact hK2.2.1 j hj, fun j hj => by rw [hF _ (by omega) (by omega) (by omega) (by omega), show (vs_cp K1 (pa + 3) (pa + 7) 8) (pa + 7) j = K1 (pa + 3) j from by simp [vs_cp, hj]]; exact hK1.2.2 j hj, fun j hj => absurd hj (by omega)⟩
  have hWF := c_Pa_waysFrom (l := l) (E := E) (t := t) (J := J) he hPa H (Nat.le_refl H) (vs_fill (vs_cp K2 (pa + 3) (pa + 6) 8) (pa + 3) 8 (-1)) (fun _ => 8) 0 hR3 (by rw [Nat.sub_self]; exact hat) (by rw [Nat.sub_self]; exact wy_pf_0)
  rw [Nat.sub_self] at hWF
  refine mx_al0 d_Pa_calmWays_38 ?_
  refine mx_in_0 d_Pa_calmWays_39 ?_
  refine mx_in_0 d_Pa_calmWays_40 ?_
  refine mx_cV2iR d_Pa_calmWays_41 (hWF) ok_Pa_waysFrom ml_Pa_100 (by assumption) ⟨rfl, rfl⟩ (by omega) (Nat.le_of_ble_eq_true rfl) (fun K3 hK3 => ?_)
  exact mx_iret d_Pa_calmWays_44 rfl (mx_sR_i rfl (fun c hc => by rw [hK3.1 c (fun z => hc (by omega)), hF c (fun z => hc (by omega)) (fun z => hc (by omega)) (fun z => hc (by omega)) (fun z => hc (by omega)), vs_cp_ne (fun z => hc (by omega))]; exact hK1.1 c (fun z => hc (by omega))))
theorem c_Vh_ways (hV : vh_ok S P x) (hSt : st_ok S P (x + 23)) (hSr : st_rel I (x + 23) m) (hH : m 3 = nI H) (hH8 : H ≤ 8) (hG : m 4 = nI G) (hG8 : G ≤ 8) (hPa : pa_ok S P (x + 1)) (hr : rk9 m) : mx_C l E M_Vh_ways 21 0 0 [.ref (x)] (t, S, I, P, J) (mx_sR (some (.int (nI (sp_ways m H G)))) t S P J (fun K => mx_off (fun c => x + 1 ≤ c ∧ c ≤ x + 8) I K)) := by
  obtain ⟨hV0, hVp0, hVp1, hVp2, hVp3, hVp4, hVp5, hVp7, hVp8, hVp9, hVp10, hVp11, hVp12, hVs15, hVs16, hVs68⟩ := id hV
  obtain ⟨hC0, hC1, hC2, hC3, hC4, hC5, hC6, hD1, hD2, hD3, hD4, hPe, hLo⟩ := id hSt
  obtain ⟨hPr, u0, u1, u2, u3, u4, u5, u6, u7, u8⟩ := id hSr
  obtain ⟨hA0, hA1, hA2, hA3, hA4, hA5, hA6, hA7, hB1, hB2, hB3, hB4, hB5, hB6, hB7⟩ := id hPe
  obtain ⟨r0, r1, r2, r3, r4, r5, r6, r7, r8⟩ := id hPr
  have hPq := hPa.1
  refine mx_C_of (ls0 := [some (.ref (x))]) (by decide +kernel) rfl rfl (Nat.le_of_ble_eq_true rfl) rfl ?_
  refine mx_al0 d_Vh_ways_0 ?_
  refine mx_getR d_Vh_ways_1 fl_Vh_16 (by assumption) (by assumption) ?_
  refine mx_al0 d_Vh_ways_4 ?_
  refine mx_getR d_Vh_ways_5 fl_Vh_51 (by assumption) (by assumption) ?_
  refine mx_getR d_Vh_ways_8 fl_Vh_162 (by assumption) (by assumption) ?_
  refine mx_cV1vR d_Vh_ways_11 (c_Pa_learn hPa hPe hPr hr hH hH8 hG hG8 (by omega)) ok_Pa_learn ml_Vh_296 (by assumption) ⟨rfl, rfl⟩ (by decide) (Nat.le_of_ble_eq_true rfl) (fun K1 hK1 => ?_)
  refine mx_al0 d_Vh_ways_14 ?_
  refine mx_getR d_Vh_ways_15 fl_Vh_16 (by assumption) (by assumption) ?_
  refine mx_cV0iR d_Vh_ways_18 (c_Pa_calmWays (wy_env_m hr hH8 hG8) hPa (pa_inv_end hr hK1)) ok_Pa_calmWays ml_Vh_309 (by assumption) ⟨rfl, rfl⟩ (by decide) (Nat.le_of_ble_eq_true rfl) (fun K2 hK2 => ?_)
  exact mx_iret d_Vh_ways_21 rfl (mx_sR_i rfl (fun c hc => by have hc : ¬ (x + 1 ≤ c ∧ c ≤ x + 8) := hc; rw [hK2 c (fun z => hc (by omega))]; exact hK1.1 c (fun z => hc (by unfold pz at z; omega))))
end AN49
