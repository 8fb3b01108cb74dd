/-! OBJECTS ARE MADE: the people -/
section BM81
variable {l : Launch} {E : mx_Env} {t : Nat} {S : mx_S} {I : mx_I} {P : mx_P} {J : mx_G} {a b pe : Nat}
/-- the ranks are 5 up to k -/
def pe_fv (I K : mx_I) (pe k : Nat) : Prop := (∀ c, c ≠ pe + 6 → c ≠ pe + 7 → K c = I c) ∧ ∀ j, j < k → K (pe + 6) j = nI 5 ∧ K (pe + 7) j = nI 5
theorem pe_fv.st {I K : mx_I} {k : Nat} (h : pe_fv I K pe k) : pe_fv I (mx_up (mx_up K (pe + 6) k (nI 5)) (pe + 7) k (nI 5)) pe (k + 1) := by
  refine ⟨fun c h1 h2 => by rw [mx_up_ne h2, mx_up_ne h1]; exact h.1 c h1 h2, fun j hj => ?_⟩
  by_cases e : j = k
  · subst e
    exact ⟨by rw [mx_up_ne (by omega)]; simp [mx_up], by simp [mx_up]⟩
  · have := h.2 j (by omega)
    exact ⟨by rw [mx_up_ne (by omega)]; simp [mx_up, e, this.1], by simp [mx_up, e, this.2]⟩
/-- people as they are made -/
def pe_new (S2 : mx_S) (I2 : mx_I) (P2 : mx_P) (pe : Nat) : Prop := pe_ok S2 P2 pe ∧ I2 pe 0 = nI 0 ∧ I2 pe 1 = nI 0 ∧ (∀ j k, 1 ≤ j → j ≤ 5 → I2 (pe + j) k = 0) ∧ ∀ k, k < 64 → I2 (pe + 6) k = nI 5 ∧ I2 (pe + 7) k = nI 5
theorem c_Pe_init (hs : S pe = some (0, 4))  : mx_C l E M_Pe_init 2 7 168 [.ref (pe)] ((pe + 1), S, I, P, J) (mx_iR (pe + 8) J (fun S2 I2 P2 => mx_bel pe S S2 I I2 P P2 ∧ pe_new S2 I2 P2 pe)) := by
  refine mx_C_of (ls0 := [some (.ref (pe)), none]) (by decide +kernel) rfl rfl (Nat.le_of_ble_eq_true rfl) rfl ?_
  refine mx_al0 d_Pe_init_0 ?_
  refine mx_objInit d_Pe_init_1 oi_Pe_3 (by decide) (Nat.le_of_ble_eq_true rfl) ?_
  refine mx_al0 d_Pe_init_4 ?_
  refine mx_in_0 d_Pe_init_5 ?_
  refine mx_putI d_Pe_init_6 fl_Pe_9 (by assumption) ?_
  refine mx_al0 d_Pe_init_9 ?_
  refine mx_in_0 d_Pe_init_10 ?_
  refine mx_putI d_Pe_init_11 fl_Pe_15 (by assumption) ?_
  refine mx_al0 d_Pe_init_14 ?_
  refine mx_bip 8 d_Pe_init_15 (by decide) ?_
  refine mx_newI (N := 8) (k2 := 6) (n2 := 160) d_Pe_init_17 ac_int (nI_nn (by omega)) (nI_clamp (by omega)) (by omega) (by omega) (by omega) ?_
  have hs1 : (mx_ups S (pe + 1) (1, 8)) pe = some (0, 4) := by simp [mx_ups, hs, Nat.add_assoc]
  refine mx_putRF d_Pe_init_19 fl_Pe_18 rfl (fun q h => by cases h; rfl) (by assumption) rfl rfl ?_
  refine mx_al0 d_Pe_init_22 ?_
  refine mx_bip 8 d_Pe_init_23 (by decide) ?_
  refine mx_newI (N := 8) (k2 := 5) (n2 := 152) d_Pe_init_25 ac_int (nI_nn (by omega)) (nI_clamp (by omega)) (by omega) (by omega) (by omega) ?_
  have hs2 : (mx_ups (mx_ups S (pe + 1) (1, 8)) (pe + 2) (1, 8)) pe = some (0, 4) := by simp [mx_ups, hs, Nat.add_assoc]
  refine mx_putRF d_Pe_init_27 fl_Pe_22 rfl (fun q h => by cases h; rfl) (by assumption) rfl rfl ?_
  refine mx_al0 d_Pe_init_30 ?_
  refine mx_bip 8 d_Pe_init_31 (by decide) ?_
  refine mx_newI (N := 8) (k2 := 4) (n2 := 144) d_Pe_init_33 ac_int (nI_nn (by omega)) (nI_clamp (by omega)) (by omega) (by omega) (by omega) ?_
  have hs3 : (mx_ups (mx_ups (mx_ups S (pe + 1) (1, 8)) (pe + 2) (1, 8)) (pe + 3) (1, 8)) pe = some (0, 4) := by simp [mx_ups, hs, Nat.add_assoc]
  refine mx_putRF d_Pe_init_35 fl_Pe_25 rfl (fun q h => by cases h; rfl) (by assumption) rfl rfl ?_
  refine mx_al0 d_Pe_init_38 ?_
  refine mx_bip 8 d_Pe_init_39 (by decide) ?_
  refine mx_newI (N := 8) (k2 := 3) (n2 := 136) d_Pe_init_41 ac_int (nI_nn (by omega)) (nI_clamp (by omega)) (by omega) (by omega) (by omega) ?_
  have hs4 : (mx_ups (mx_ups (mx_ups (mx_ups S (pe + 1) (1, 8)) (pe + 2) (1, 8)) (pe + 3) (1, 8)) (pe + 4) (1, 8)) pe = some (0, 4) := by simp [mx_ups, hs, Nat.add_assoc]
  refine mx_putRF d_Pe_init_43 fl_Pe_28 rfl (fun q h => by cases h; rfl) (by assumption) rfl rfl ?_
  refine mx_al0 d_Pe_init_46 ?_
  refine mx_bip 8 d_Pe_init_47 (by decide) ?_
  refine mx_newI (N := 8) (k2 := 2) (n2 := 128) d_Pe_init_49 ac_int (nI_nn (by omega)) (nI_clamp (by omega)) (by omega) (by omega) (by omega) ?_
  have hs5 : (mx_ups (mx_ups (mx_ups (mx_ups (mx_ups S (pe + 1) (1, 8)) (pe + 2) (1, 8)) (pe + 3) (1, 8)) (pe + 4) (1, 8)) (pe + 5) (1, 8)) pe = some (0, 4) := by simp [mx_ups, hs, Nat.add_assoc]
  refine mx_putRF d_Pe_init_51 fl_Pe_31 rfl (fun q h => by cases h; rfl) (by assumption) rfl rfl ?_
  refine mx_al0 d_Pe_init_54 ?_
  refine mx_bip 64 d_Pe_init_55 (by decide) ?_
  refine mx_newI (N := 64) (k2 := 1) (n2 := 64) d_Pe_init_57 ac_int (nI_nn (by omega)) (nI_clamp (by omega)) (by omega) (by omega) (by omega) ?_
  have hs6 : (mx_ups (mx_ups (mx_ups (mx_ups (mx_ups (mx_ups S (pe + 1) (1, 8)) (pe + 2) (1, 8)) (pe + 3) (1, 8)) (pe + 4) (1, 8)) (pe + 5) (1, 8)) (pe + 6) (1, 64)) pe = some (0, 4) := by simp [mx_ups, hs, Nat.add_assoc]
  refine mx_putRF d_Pe_init_59 fl_Pe_34 rfl (fun q h => by cases h; rfl) (by assumption) rfl rfl ?_
  refine mx_al0 d_Pe_init_62 ?_
  refine mx_bip 64 d_Pe_init_63 (by decide) ?_
  refine mx_newI (N := 64) (k2 := 0) (n2 := 0) d_Pe_init_65 ac_int (nI_nn (by omega)) (nI_clamp (by omega)) (by omega) (by omega) (by omega) ?_
  have hs7 : (mx_ups (mx_ups (mx_ups (mx_ups (mx_ups (mx_ups (mx_ups S (pe + 1) (1, 8)) (pe + 2) (1, 8)) (pe + 3) (1, 8)) (pe + 4) (1, 8)) (pe + 5) (1, 8)) (pe + 6) (1, 64)) (pe + 7) (1, 64)) pe = some (0, 4) := by simp [mx_ups, hs, Nat.add_assoc]
  refine mx_putRF d_Pe_init_67 fl_Pe_37 rfl (fun q h => by cases h; rfl) (by assumption) rfl rfl ?_
  have hbel : mx_bel pe S (mx_ups (mx_ups (mx_ups (mx_ups (mx_ups (mx_ups (mx_ups S (pe + 1) (1, 8)) (pe + 2) (1, 8)) (pe + 3) (1, 8)) (pe + 4) (1, 8)) (pe + 5) (1, 8)) (pe + 6) (1, 64)) (pe + 7) (1, 64)) I (mx_z (mx_z (mx_z (mx_z (mx_z (mx_z (mx_z (mx_up (mx_up I (pe) 0 (nI (0))) (pe) 1 (nI (0))) (pe + 1)) (pe + 2)) (pe + 3)) (pe + 4)) (pe + 5)) (pe + 6)) (pe + 7)) P (mx_upP (mx_upP (mx_upP (mx_upP (mx_upP (mx_upP (mx_upP P (pe) 2 (some (pe + 1))) (pe) 3 (some (pe + 2))) (pe) 4 (some (pe + 3))) (pe) 5 (some (pe + 4))) (pe) 6 (some (pe + 5))) (pe) 7 (some (pe + 6))) (pe) 8 (some (pe + 7))) := ((((((((((((((((mx_bel.rf).up (b := pe) (by omega)).up (b := pe) (by omega)).nw (b := pe + 1) (by omega)).upP (b := pe) (by omega)).nw (b := pe + 2) (by omega)).upP (b := pe) (by omega)).nw (b := pe + 3) (by omega)).upP (b := pe) (by omega)).nw (b := pe + 4) (by omega)).upP (b := pe) (by omega)).nw (b := pe + 5) (by omega)).upP (b := pe) (by omega)).nw (b := pe + 6) (by omega)).upP (b := pe) (by omega)).nw (b := pe + 7) (by omega)).upP (b := pe) (by omega)
  have hok : pe_ok (mx_ups (mx_ups (mx_ups (mx_ups (mx_ups (mx_ups (mx_ups S (pe + 1) (1, 8)) (pe + 2) (1, 8)) (pe + 3) (1, 8)) (pe + 4) (1, 8)) (pe + 5) (1, 8)) (pe + 6) (1, 64)) (pe + 7) (1, 64)) (mx_upP (mx_upP (mx_upP (mx_upP (mx_upP (mx_upP (mx_upP P (pe) 2 (some (pe + 1))) (pe) 3 (some (pe + 2))) (pe) 4 (some (pe + 3))) (pe) 5 (some (pe + 4))) (pe) 6 (some (pe + 5))) (pe) 7 (some (pe + 6))) (pe) 8 (some (pe + 7))) pe := by refine ⟨?_, ?_, ?_, ?_, ?_, ?_, ?_, ?_, ?_, ?_, ?_, ?_, ?_, ?_, ?_⟩ <;> simp [mx_ups, mx_upP, hs, Nat.add_assoc]
  obtain ⟨hA0, hA1, hA2, hA3, hA4, hA5, hA6, hA7, hB1, hB2, hB3, hB4, hB5, hB6, hB7⟩ := id hok
  refine mx_in_0 d_Pe_init_70 ?_
  refine mx_is1 d_Pe_init_71 ?_
  refine mx_loopX (α := (mx_I)) (N := 64) (a0 := (mx_z (mx_z (mx_z (mx_z (mx_z (mx_z (mx_z (mx_up (mx_up I (pe) 0 (nI (0))) (pe) 1 (nI (0))) (pe + 1)) (pe + 2)) (pe + 3)) (pe + 4)) (pe + 5)) (pe + 6)) (pe + 7))) (fun k9 z9 => pe_fv (mx_z (mx_z (mx_z (mx_z (mx_z (mx_z (mx_z (mx_up (mx_up I (pe) 0 (nI (0))) (pe) 1 (nI (0))) (pe + 1)) (pe + 2)) (pe + 3)) (pe + 4)) (pe + 5)) (pe + 6)) (pe + 7)) z9 pe k9) (ls := fun k9 z9 => [some (.ref (pe)), some (.int (nI (k9)))]) (X := fun k9 z9 => ((pe + 8), (mx_ups (mx_ups (mx_ups (mx_ups (mx_ups (mx_ups (mx_ups S (pe + 1) (1, 8)) (pe + 2) (1, 8)) (pe + 3) (1, 8)) (pe + 4) (1, 8)) (pe + 5) (1, 8)) (pe + 6) (1, 64)) (pe + 7) (1, 64)), z9, (mx_upP (mx_upP (mx_upP (mx_upP (mx_upP (mx_upP (mx_upP P (pe) 2 (some ((pe + 1)))) (pe) 3 (some ((pe + 2)))) (pe) 4 (some ((pe + 3)))) (pe) 5 (some ((pe + 4)))) (pe) 6 (some ((pe + 5)))) (pe) 7 (some ((pe + 6)))) (pe) 8 (some ((pe + 7)))), J)) (⟨fun _ _ _ => rfl, fun j hj => absurd hj (by omega)⟩) (fun k9 hk9 z9 hinv ih => ?_) (fun z9 hinv => ?_)
  · skip
    obtain ⟨K, hz9⟩ : ∃ q, q = z9 := ⟨_, rfl⟩
    subst hz9
    try dsimp only at hinv ih ⊢
    refine mx_il1 d_Pe_init_72 ?_
    refine mx_al0 d_Pe_init_73 ?_
    refine mx_getR d_Pe_init_74 fl_Pe_34 (by assumption) (by assumption) ?_
    refine mx_alen d_Pe_init_77 (by assumption) ?_
    refine mx_icN_ge 110 d_Pe_init_78 (by decide) (by omega) (by omega) (fun c_78 => absurd c_78 (by omega)) (fun c_78 => ?_)
    refine mx_il1 d_Pe_init_81 ?_
    refine mx_al0 d_Pe_init_82 ?_
    refine mx_getR d_Pe_init_83 fl_Pe_37 (by assumption) (by assumption) ?_
    refine mx_alen d_Pe_init_86 (by assumption) ?_
    refine mx_icN_ge 110 d_Pe_init_87 (by decide) (by omega) (by omega) (fun c_87 => absurd c_87 (by omega)) (fun c_87 => ?_)
    refine mx_al0 d_Pe_init_90 ?_
    refine mx_getR d_Pe_init_91 fl_Pe_34 (by assumption) (by assumption) ?_
    refine mx_il1 d_Pe_init_94 ?_
    refine mx_in_5 d_Pe_init_95 ?_
    refine mx_iast d_Pe_init_96 (by assumption) (nI_inb (by omega) (by omega)) ?_
    rw [nI_clamp (by omega)]
    refine mx_al0 d_Pe_init_97 ?_
    refine mx_getR d_Pe_init_98 fl_Pe_37 (by assumption) (by assumption) ?_
    refine mx_il1 d_Pe_init_101 ?_
    refine mx_in_5 d_Pe_init_102 ?_
    refine mx_iast d_Pe_init_103 (by assumption) (nI_inb (by omega) (by omega)) ?_
    rw [nI_clamp (by omega)]
    refine mx_iN1 d_Pe_init_104 ?_
    refine mx_goto 72 d_Pe_init_107 (by decide) ?_
    exact ih (mx_up (mx_up K (pe + 6) (k9) (nI (5))) (pe + 7) (k9) (nI (5))) (hinv.st)
  · skip
    obtain ⟨K, hz9⟩ : ∃ q, q = z9 := ⟨_, rfl⟩
    subst hz9
    try dsimp only at hinv ⊢
    refine mx_il1 d_Pe_init_72 ?_
    refine mx_al0 d_Pe_init_73 ?_
    refine mx_getR d_Pe_init_74 fl_Pe_34 (by assumption) (by assumption) ?_
    refine mx_alen d_Pe_init_77 (by assumption) ?_
    refine mx_icN_ge 110 d_Pe_init_78 (by decide) (by omega) (by omega) (fun c_78 => ?_) (fun c_78 => absurd c_78 (by omega))
    exact mx_vret d_Pe_init_110 rfl (mx_iR_i ⟨fun c hc => ⟨(hbel c hc).1, (hinv.1 c (by omega) (by omega)).trans (hbel c hc).2.1, (hbel c hc).2.2⟩, hok, (by rw [hinv.1 _ (by omega) (by omega)]; simp [mx_up, mx_z, Nat.add_assoc]), (by rw [hinv.1 _ (by omega) (by omega)]; simp [mx_up, mx_z, Nat.add_assoc]), (fun j k h1 h2 => by rw [hinv.1 _ (by omega) (by omega)]; rcases (show j = 1 ∨ j = 2 ∨ j = 3 ∨ j = 4 ∨ j = 5 by omega) with rfl | rfl | rfl | rfl | rfl <;> simp [mx_up, mx_z, Nat.add_assoc]), hinv.2⟩)
end BM81
