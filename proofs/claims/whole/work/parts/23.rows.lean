/-! THE REFERENCE'S COPIES -/
section O23
variable {l : Launch} {E : mx_Env} {t : Nat} {S : mx_S} {I I' : mx_I} {P : mx_P} {J : mx_G} {mo A : Nat}
theorem mx_hc {M : mx_M} {d k n pc : Nat} {ls : List (Option Value)} {st : List Value} {Q : mx_R → mx_H → Prop} (h : I = I') (kk : mx_E l E M d k n pc ls st (t, S, I', P, J) Q) : mx_E l E M d k n pc ls st (t, S, I, P, J) Q := by subst h; exact kk
/-- j numbers of the row a from o on, put into the row b from p on -/
def vs_cq (I : mx_I) (a o b p j : Nat) : mx_I := fun c k => if c = b ∧ p ≤ k ∧ k < p + j then I a (o + (k - p)) else I c k
theorem vs_cq_0 {a o b p : Nat} : I = vs_cq I a o b p 0 := by funext c k; unfold vs_cq; rw [if_neg (fun h => by omega)]
theorem vs_cq_ne {a o b p j c : Nat} (h : c ≠ b) : vs_cq I a o b p j c = I c := by funext k; simp [vs_cq, h]
theorem vs_cq_s {a o b p i x y : Nat} (hx : x = p + i) (hy : y = o + i) (h : a ≠ b ∨ ¬ (p ≤ o + i ∧ o + i < p + i)) : mx_up (vs_cq I a o b p i) b x (vs_cq I a o b p i a y) = vs_cq I a o b p (i + 1) := by
  subst hx; subst hy
  have e : vs_cq I a o b p i a (o + i) = I a (o + i) := by
    unfold vs_cq
    rw [if_neg (fun h9 => by omega)]
  rw [e]
  funext c k
  unfold vs_cq mx_up
  dsimp only
  by_cases hc : c = b
  · by_cases hk : k = p + i
    · rw [if_pos ⟨hc, hk⟩, if_pos ⟨hc, by omega, by omega⟩, hk]
      congr 1; omega
    · rw [if_neg (fun h9 => hk h9.2)]
      by_cases h2 : p ≤ k ∧ k < p + i
      · rw [if_pos ⟨hc, h2⟩, if_pos ⟨hc, h2.1, by omega⟩]
      · rw [if_neg (fun h9 => h2 h9.2), if_neg (fun h9 => h2 ⟨h9.2.1, by omega⟩)]
  · rw [if_neg (fun h9 => hc h9.1), if_neg (fun h9 => hc h9.1), if_neg (fun h9 => hc h9.1)]
theorem c_Mo_aside (hM : mo_ok S P mo)  : mx_C l E M_Mo_putsAside 0 0 0 [.ref (mo)] (t, S, I, P, J) (mx_rv (t, S, (vs_cq I (mo + 1) (0) (mo + 3) (0) 619), P, J)) := by
  obtain ⟨hM0, hMp1, hMp2, hMp4, hMp5, hMp7, hMp14, hMp21, hMp22, hMp23, hMp24, hMp25, hMp26, hMp27, hMs1, hMs2, hMs3, hMs4, hMs5, hMs6, hMs7, hMs8, hMs9, hMs10, hMs11, hMs12, hMs13⟩ := id hM
  refine mx_C_of (ls0 := [some (.ref (mo)), none]) (by decide +kernel) rfl rfl (Nat.le_of_ble_eq_true rfl) rfl ?_
  refine mx_hc (I' := (vs_cq I (mo + 1) (0) (mo + 3) (0) 0)) vs_cq_0 ?_
  refine mx_in_0 d_Mo_putsAside_0 ?_
  refine mx_is1 d_Mo_putsAside_1 ?_
  refine mx_loop (N := 619) (ls := fun i => [some (.ref (mo)), some (.int (nI (i)))]) (X := fun i => (t, S, (vs_cq I (mo + 1) (0) (mo + 3) (0) i), P, J)) (fun i hi ih => ?_) ?_
  · try dsimp only
    refine mx_il1 d_Mo_putsAside_2 ?_
    refine mx_sip 619 d_Mo_putsAside_3 (by decide) ?_
    refine mx_icN_ge 27 d_Mo_putsAside_6 (by decide) (by omega) (by omega) (fun c_6 => absurd c_6 (by omega)) (fun c_6 => ?_)
    refine mx_al0 d_Mo_putsAside_9 ?_
    refine mx_getR d_Mo_putsAside_10 fl_Mo_16 (by assumption) (by assumption) ?_
    refine mx_il1 d_Mo_putsAside_13 ?_
    refine mx_al0 d_Mo_putsAside_14 ?_
    refine mx_getR d_Mo_putsAside_15 fl_Mo_7 (by assumption) (by assumption) ?_
    refine mx_il1 d_Mo_putsAside_18 ?_
    refine mx_iald d_Mo_putsAside_19 (by assumption) (nI_inb (by omega) (by omega)) ?_
    refine mx_ti (y := (vs_cq I (mo + 1) (0) (mo + 3) (0) i) (mo + 1) (i)) (by rw [nI_clamp (by omega)]) ?_
    refine mx_iast d_Mo_putsAside_20 (by assumption) (nI_inb (by omega) (by omega)) ?_
    rw [nI_clamp (by omega)]
    refine mx_iN1 d_Mo_putsAside_21 ?_
    refine mx_goto 2 d_Mo_putsAside_24 (by decide) ?_
    have eh2 : (mx_up (vs_cq I (mo + 1) (0) (mo + 3) (0) i) (mo + 3) (i) (((vs_cq I (mo + 1) (0) (mo + 3) (0) i) (mo + 1) (i)))) = (vs_cq I (mo + 1) (0) (mo + 3) (0) (i + 1)) := by exact vs_cq_s (by omega) (by omega) (Or.inl (by omega))
    rw [eh2]
    exact ih
  · try dsimp only
    refine mx_il1 d_Mo_putsAside_2 ?_
    refine mx_sip 619 d_Mo_putsAside_3 (by decide) ?_
    refine mx_icN_ge 27 d_Mo_putsAside_6 (by decide) (by omega) (by omega) (fun c_6 => ?_) (fun c_6 => absurd c_6 (by omega))
    exact mx_vret d_Mo_putsAside_27 rfl (mx_rv_of rfl)
theorem c_Mo_comes (hM : mo_ok S P mo)  : mx_C l E M_Mo_comesBack 0 0 0 [.ref (mo)] (t, S, I, P, J) (mx_rv (t, S, (vs_cq I (mo + 3) (0) (mo + 1) (0) 619), P, J)) := by
  obtain ⟨hM0, hMp1, hMp2, hMp4, hMp5, hMp7, hMp14, hMp21, hMp22, hMp23, hMp24, hMp25, hMp26, hMp27, hMs1, hMs2, hMs3, hMs4, hMs5, hMs6, hMs7, hMs8, hMs9, hMs10, hMs11, hMs12, hMs13⟩ := id hM
  refine mx_C_of (ls0 := [some (.ref (mo)), none]) (by decide +kernel) rfl rfl (Nat.le_of_ble_eq_true rfl) rfl ?_
  refine mx_hc (I' := (vs_cq I (mo + 3) (0) (mo + 1) (0) 0)) vs_cq_0 ?_
  refine mx_in_0 d_Mo_comesBack_0 ?_
  refine mx_is1 d_Mo_comesBack_1 ?_
  refine mx_loop (N := 619) (ls := fun i => [some (.ref (mo)), some (.int (nI (i)))]) (X := fun i => (t, S, (vs_cq I (mo + 3) (0) (mo + 1) (0) i), P, J)) (fun i hi ih => ?_) ?_
  · try dsimp only
    refine mx_il1 d_Mo_comesBack_2 ?_
    refine mx_sip 619 d_Mo_comesBack_3 (by decide) ?_
    refine mx_icN_ge 27 d_Mo_comesBack_6 (by decide) (by omega) (by omega) (fun c_6 => absurd c_6 (by omega)) (fun c_6 => ?_)
    refine mx_al0 d_Mo_comesBack_9 ?_
    refine mx_getR d_Mo_comesBack_10 fl_Mo_7 (by assumption) (by assumption) ?_
    refine mx_il1 d_Mo_comesBack_13 ?_
    refine mx_al0 d_Mo_comesBack_14 ?_
    refine mx_getR d_Mo_comesBack_15 fl_Mo_16 (by assumption) (by assumption) ?_
    refine mx_il1 d_Mo_comesBack_18 ?_
    refine mx_iald d_Mo_comesBack_19 (by assumption) (nI_inb (by omega) (by omega)) ?_
    refine mx_ti (y := (vs_cq I (mo + 3) (0) (mo + 1) (0) i) (mo + 3) (i)) (by rw [nI_clamp (by omega)]) ?_
    refine mx_iast d_Mo_comesBack_20 (by assumption) (nI_inb (by omega) (by omega)) ?_
    rw [nI_clamp (by omega)]
    refine mx_iN1 d_Mo_comesBack_21 ?_
    refine mx_goto 2 d_Mo_comesBack_24 (by decide) ?_
    have eh2 : (mx_up (vs_cq I (mo + 3) (0) (mo + 1) (0) i) (mo + 1) (i) (((vs_cq I (mo + 3) (0) (mo + 1) (0) i) (mo + 3) (i)))) = (vs_cq I (mo + 3) (0) (mo + 1) (0) (i + 1)) := by exact vs_cq_s (by omega) (by omega) (Or.inl (by omega))
    rw [eh2]
    exact ih
  · try dsimp only
    refine mx_il1 d_Mo_comesBack_2 ?_
    refine mx_sip 619 d_Mo_comesBack_3 (by decide) ?_
    refine mx_icN_ge 27 d_Mo_comesBack_6 (by decide) (by omega) (by omega) (fun c_6 => ?_) (fun c_6 => absurd c_6 (by omega))
    exact mx_vret d_Mo_comesBack_27 rfl (mx_rv_of rfl)
theorem c_Mo_image (hM : mo_ok S P mo)  : mx_C l E M_Mo_image 0 0 0 [.ref (mo)] (t, S, I, P, J) (mx_rv (t, S, mx_up (vs_cq (mx_up I (mo) 0 (nI 0)) (mo + 1) (0) (mo + 2) (0) 1019) mo 3 (nI 1), P, J)) := by
  obtain ⟨hM0, hMp1, hMp2, hMp4, hMp5, hMp7, hMp14, hMp21, hMp22, hMp23, hMp24, hMp25, hMp26, hMp27, hMs1, hMs2, hMs3, hMs4, hMs5, hMs6, hMs7, hMs8, hMs9, hMs10, hMs11, hMs12, hMs13⟩ := id hM
  refine mx_C_of (ls0 := [some (.ref (mo)), none]) (by decide +kernel) rfl rfl (Nat.le_of_ble_eq_true rfl) rfl ?_
  refine mx_al0 d_Mo_image_0 ?_
  refine mx_in_0 d_Mo_image_1 ?_
  refine mx_putI d_Mo_image_2 fl_Mo_54 (by assumption) ?_
  refine mx_hc (I' := (vs_cq (mx_up I (mo) 0 (nI 0)) (mo + 1) (0) (mo + 2) (0) 0)) vs_cq_0 ?_
  refine mx_in_0 d_Mo_image_5 ?_
  refine mx_is1 d_Mo_image_6 ?_
  refine mx_loop (N := 1019) (ls := fun i => [some (.ref (mo)), some (.int (nI (i)))]) (X := fun i => (t, S, (vs_cq (mx_up I (mo) 0 (nI 0)) (mo + 1) (0) (mo + 2) (0) i), P, J)) (fun i hi ih => ?_) ?_
  · try dsimp only
    refine mx_il1 d_Mo_image_7 ?_
    refine mx_sip 1019 d_Mo_image_8 (by decide) ?_
    refine mx_icN_ge 32 d_Mo_image_11 (by decide) (by omega) (by omega) (fun c_11 => absurd c_11 (by omega)) (fun c_11 => ?_)
    refine mx_al0 d_Mo_image_14 ?_
    refine mx_getR d_Mo_image_15 fl_Mo_13 (by assumption) (by assumption) ?_
    refine mx_il1 d_Mo_image_18 ?_
    refine mx_al0 d_Mo_image_19 ?_
    refine mx_getR d_Mo_image_20 fl_Mo_7 (by assumption) (by assumption) ?_
    refine mx_il1 d_Mo_image_23 ?_
    refine mx_iald d_Mo_image_24 (by assumption) (nI_inb (by omega) (by omega)) ?_
    refine mx_ti (y := (vs_cq (mx_up I (mo) 0 (nI 0)) (mo + 1) (0) (mo + 2) (0) i) (mo + 1) (i)) (by rw [nI_clamp (by omega)]) ?_
    refine mx_iast d_Mo_image_25 (by assumption) (nI_inb (by omega) (by omega)) ?_
    rw [nI_clamp (by omega)]
    refine mx_iN1 d_Mo_image_26 ?_
    refine mx_goto 7 d_Mo_image_29 (by decide) ?_
    have eh2 : (mx_up (vs_cq (mx_up I (mo) 0 (nI 0)) (mo + 1) (0) (mo + 2) (0) i) (mo + 2) (i) (((vs_cq (mx_up I (mo) 0 (nI 0)) (mo + 1) (0) (mo + 2) (0) i) (mo + 1) (i)))) = (vs_cq (mx_up I (mo) 0 (nI 0)) (mo + 1) (0) (mo + 2) (0) (i + 1)) := by exact vs_cq_s (by omega) (by omega) (Or.inl (by omega))
    rw [eh2]
    exact ih
  · try dsimp only
    refine mx_il1 d_Mo_image_7 ?_
    refine mx_sip 1019 d_Mo_image_8 (by decide) ?_
    refine mx_icN_ge 32 d_Mo_image_11 (by decide) (by omega) (by omega) (fun c_11 => ?_) (fun c_11 => absurd c_11 (by omega))
    refine mx_al0 d_Mo_image_32 ?_
    refine mx_in_1 d_Mo_image_33 ?_
    refine mx_putZ d_Mo_image_34 fl_Mo_430 (by assumption) (by first | exact Or.inl rfl | exact Or.inr rfl) ?_
    exact mx_vret d_Mo_image_37 rfl (mx_rv_of rfl)
theorem c_Mo_back1 (hM : mo_ok S P mo) (hi : I mo 3 = 1)  : mx_C l E M_Mo_back 0 0 0 [.ref (mo)] (t, S, I, P, J) (mx_ri (nI 1) (t, S, mx_up (vs_cq (mx_up I (mo) 0 (nI 0)) (mo + 2) (0) (mo + 1) (0) 1019) mo 6 (nI 0), P, J)) := by
  obtain ⟨hM0, hMp1, hMp2, hMp4, hMp5, hMp7, hMp14, hMp21, hMp22, hMp23, hMp24, hMp25, hMp26, hMp27, hMs1, hMs2, hMs3, hMs4, hMs5, hMs6, hMs7, hMs8, hMs9, hMs10, hMs11, hMs12, hMs13⟩ := id hM
  refine mx_C_of (ls0 := [some (.ref (mo)), none]) (by decide +kernel) rfl rfl (Nat.le_of_ble_eq_true rfl) rfl ?_
  refine mx_al0 d_Mo_back_0 ?_
  refine mx_in_0 d_Mo_back_1 ?_
  refine mx_putI d_Mo_back_2 fl_Mo_54 (by assumption) ?_
  refine mx_al0 d_Mo_back_5 ?_
  refine mx_getI d_Mo_back_6 fl_Mo_430 (by assumption) ?_
  refine mx_ti (y := nI (1)) (by simp [mx_up, hi]; rfl) ?_
  refine mx_if_ne 14 d_Mo_back_9 (by decide) (fun c_9 => ?_) (fun c_9 => absurd c_9 (by decide))
  refine mx_hc (I' := (vs_cq (mx_up I (mo) 0 (nI 0)) (mo + 2) (0) (mo + 1) (0) 0)) vs_cq_0 ?_
  refine mx_in_0 d_Mo_back_14 ?_
  refine mx_is1 d_Mo_back_15 ?_
  refine mx_loop (N := 1019) (ls := fun i => [some (.ref (mo)), some (.int (nI (i)))]) (X := fun i => (t, S, (vs_cq (mx_up I (mo) 0 (nI 0)) (mo + 2) (0) (mo + 1) (0) i), P, J)) (fun i hi ih => ?_) ?_
  · try dsimp only
    refine mx_il1 d_Mo_back_16 ?_
    refine mx_sip 1019 d_Mo_back_17 (by decide) ?_
    refine mx_icN_ge 41 d_Mo_back_20 (by decide) (by omega) (by omega) (fun c_20 => absurd c_20 (by omega)) (fun c_20 => ?_)
    refine mx_al0 d_Mo_back_23 ?_
    refine mx_getR d_Mo_back_24 fl_Mo_7 (by assumption) (by assumption) ?_
    refine mx_il1 d_Mo_back_27 ?_
    refine mx_al0 d_Mo_back_28 ?_
    refine mx_getR d_Mo_back_29 fl_Mo_13 (by assumption) (by assumption) ?_
    refine mx_il1 d_Mo_back_32 ?_
    refine mx_iald d_Mo_back_33 (by assumption) (nI_inb (by omega) (by omega)) ?_
    refine mx_ti (y := (vs_cq (mx_up I (mo) 0 (nI 0)) (mo + 2) (0) (mo + 1) (0) i) (mo + 2) (i)) (by rw [nI_clamp (by omega)]) ?_
    refine mx_iast d_Mo_back_34 (by assumption) (nI_inb (by omega) (by omega)) ?_
    rw [nI_clamp (by omega)]
    refine mx_iN1 d_Mo_back_35 ?_
    refine mx_goto 16 d_Mo_back_38 (by decide) ?_
    have eh2 : (mx_up (vs_cq (mx_up I (mo) 0 (nI 0)) (mo + 2) (0) (mo + 1) (0) i) (mo + 1) (i) (((vs_cq (mx_up I (mo) 0 (nI 0)) (mo + 2) (0) (mo + 1) (0) i) (mo + 2) (i)))) = (vs_cq (mx_up I (mo) 0 (nI 0)) (mo + 2) (0) (mo + 1) (0) (i + 1)) := by exact vs_cq_s (by omega) (by omega) (Or.inl (by omega))
    rw [eh2]
    exact ih
  · try dsimp only
    refine mx_il1 d_Mo_back_16 ?_
    refine mx_sip 1019 d_Mo_back_17 (by decide) ?_
    refine mx_icN_ge 41 d_Mo_back_20 (by decide) (by omega) (by omega) (fun c_20 => ?_) (fun c_20 => absurd c_20 (by omega))
    refine mx_al0 d_Mo_back_41 ?_
    refine mx_in_0 d_Mo_back_42 ?_
    refine mx_putI d_Mo_back_43 fl_Mo_205 (by assumption) ?_
    refine mx_in_1 d_Mo_back_46 ?_
    exact mx_zret d_Mo_back_47 rfl (by first | exact Or.inl rfl | exact Or.inr rfl) (mx_ri_of2 rfl rfl)
theorem c_Mo_back0 (hM : mo_ok S P mo) (hi : I mo 3 = 0)  : mx_C l E M_Mo_back 0 0 0 [.ref (mo)] (t, S, I, P, J) (mx_ri (nI 0) (t, S, (mx_up I (mo) 0 (nI 0)), P, J)) := by
  obtain ⟨hM0, hMp1, hMp2, hMp4, hMp5, hMp7, hMp14, hMp21, hMp22, hMp23, hMp24, hMp25, hMp26, hMp27, hMs1, hMs2, hMs3, hMs4, hMs5, hMs6, hMs7, hMs8, hMs9, hMs10, hMs11, hMs12, hMs13⟩ := id hM
  refine mx_C_of (ls0 := [some (.ref (mo)), none]) (by decide +kernel) rfl rfl (Nat.le_of_ble_eq_true rfl) rfl ?_
  refine mx_al0 d_Mo_back_0 ?_
  refine mx_in_0 d_Mo_back_1 ?_
  refine mx_putI d_Mo_back_2 fl_Mo_54 (by assumption) ?_
  refine mx_al0 d_Mo_back_5 ?_
  refine mx_getI d_Mo_back_6 fl_Mo_430 (by assumption) ?_
  refine mx_ti (y := nI (0)) (by simp [mx_up, hi]; rfl) ?_
  refine mx_if_ne 14 d_Mo_back_9 (by decide) (fun c_9 => absurd (by decide) c_9) (fun c_9 => ?_)
  refine mx_in_0 d_Mo_back_12 ?_
  exact mx_zret d_Mo_back_13 rfl (by first | exact Or.inl rfl | exact Or.inr rfl) (mx_ri_of2 rfl rfl)
theorem c_Mo_undo1 (hM : mo_ok S P mo) (hA : I mo 6 = nI A) (h0 : 0 < A) (h12 : A ≤ 12)  : mx_C l E M_Mo_undo 0 0 0 [.ref (mo)] (t, S, I, P, J) (mx_ri (nI 1) (t, S, (vs_cq (mx_up (mx_up I (mo) 0 (nI 0)) (mo) 6 (nI (A - 1))) (mo + 4) (619 * (A - 1)) (mo + 1) (0) 619), P, J)) := by
  obtain ⟨hM0, hMp1, hMp2, hMp4, hMp5, hMp7, hMp14, hMp21, hMp22, hMp23, hMp24, hMp25, hMp26, hMp27, hMs1, hMs2, hMs3, hMs4, hMs5, hMs6, hMs7, hMs8, hMs9, hMs10, hMs11, hMs12, hMs13⟩ := id hM
  refine mx_C_of (ls0 := [some (.ref (mo)), none]) (by decide +kernel) rfl rfl (Nat.le_of_ble_eq_true rfl) rfl ?_
  refine mx_al0 d_Mo_undo_0 ?_
  refine mx_in_0 d_Mo_undo_1 ?_
  refine mx_putI d_Mo_undo_2 fl_Mo_54 (by assumption) ?_
  refine mx_al0 d_Mo_undo_5 ?_
  refine mx_getI d_Mo_undo_6 fl_Mo_205 (by assumption) ?_
  refine mx_ti (y := nI A) (by simp [mx_up, hA]) ?_
  refine mx_if_ne 14 d_Mo_undo_9 (by decide) (fun c_9 => ?_) (fun c_9 => absurd c_9 (nI_ne0 (by omega) (by omega)))
  refine mx_al0 d_Mo_undo_14 ?_
  refine mx_dup d_Mo_undo_15 rfl ?_
  refine mx_getI d_Mo_undo_16 fl_Mo_205 (by assumption) ?_
  refine mx_ti (y := nI (A)) (by simp [mx_up, hA]) ?_
  refine mx_in_1 d_Mo_undo_19 ?_
  refine mx_isubN d_Mo_undo_20 (by omega) ?_
  refine mx_putI d_Mo_undo_21 fl_Mo_205 (by assumption) ?_
  refine mx_hc (I' := (vs_cq (mx_up (mx_up I (mo) 0 (nI 0)) (mo) 6 (nI (A - 1))) (mo + 4) (619 * (A - 1)) (mo + 1) (0) 0)) vs_cq_0 ?_
  refine mx_in_0 d_Mo_undo_24 ?_
  refine mx_is1 d_Mo_undo_25 ?_
  refine mx_loop (N := 619) (ls := fun i => [some (.ref (mo)), some (.int (nI (i)))]) (X := fun i => (t, S, (vs_cq (mx_up (mx_up I (mo) 0 (nI 0)) (mo) 6 (nI (A - 1))) (mo + 4) (619 * (A - 1)) (mo + 1) (0) i), P, J)) (fun i hi ih => ?_) ?_
  · try dsimp only
    refine mx_il1 d_Mo_undo_26 ?_
    refine mx_sip 619 d_Mo_undo_27 (by decide) ?_
    refine mx_icN_ge 60 d_Mo_undo_30 (by decide) (by omega) (by omega) (fun c_30 => absurd c_30 (by omega)) (fun c_30 => ?_)
    refine mx_al0 d_Mo_undo_33 ?_
    refine mx_getR d_Mo_undo_34 fl_Mo_7 (by assumption) (by assumption) ?_
    refine mx_il1 d_Mo_undo_37 ?_
    refine mx_al0 d_Mo_undo_38 ?_
    refine mx_getR d_Mo_undo_39 fl_Mo_19 (by assumption) (by assumption) ?_
    refine mx_sip 619 d_Mo_undo_42 (by decide) ?_
    refine mx_al0 d_Mo_undo_45 ?_
    refine mx_getI d_Mo_undo_46 fl_Mo_205 (by assumption) ?_
    refine mx_ti (y := nI (A - 1)) (by simp [vs_cq, mx_up]) ?_
    refine mx_imulN d_Mo_undo_49 ?_
    refine mx_il1 d_Mo_undo_50 ?_
    refine mx_iaddN d_Mo_undo_51 ?_
    refine mx_iald d_Mo_undo_52 (by assumption) (nI_inb (by omega) (by omega)) ?_
    refine mx_ti (y := (vs_cq (mx_up (mx_up I (mo) 0 (nI 0)) (mo) 6 (nI (A - 1))) (mo + 4) (619 * (A - 1)) (mo + 1) (0) i) (mo + 4) (619 * (A - 1) + i)) (by rw [nI_clamp (by omega)]) ?_
    refine mx_iast d_Mo_undo_53 (by assumption) (nI_inb (by omega) (by omega)) ?_
    rw [nI_clamp (by omega)]
    refine mx_iN1 d_Mo_undo_54 ?_
    refine mx_goto 26 d_Mo_undo_57 (by decide) ?_
    have eh2 : (mx_up (vs_cq (mx_up (mx_up I (mo) 0 (nI 0)) (mo) 6 (nI (A - 1))) (mo + 4) (619 * (A - 1)) (mo + 1) (0) i) (mo + 1) (i) (((vs_cq (mx_up (mx_up I (mo) 0 (nI 0)) (mo) 6 (nI (A - 1))) (mo + 4) (619 * (A - 1)) (mo + 1) (0) i) (mo + 4) (619 * (A - 1) + i)))) = (vs_cq (mx_up (mx_up I (mo) 0 (nI 0)) (mo) 6 (nI (A - 1))) (mo + 4) (619 * (A - 1)) (mo + 1) (0) (i + 1)) := by exact vs_cq_s (by omega) (by omega) (Or.inl (by omega))
    rw [eh2]
    exact ih
  · try dsimp only
    refine mx_il1 d_Mo_undo_26 ?_
    refine mx_sip 619 d_Mo_undo_27 (by decide) ?_
    refine mx_icN_ge 60 d_Mo_undo_30 (by decide) (by omega) (by omega) (fun c_30 => ?_) (fun c_30 => absurd c_30 (by omega))
    refine mx_in_1 d_Mo_undo_60 ?_
    exact mx_zret d_Mo_undo_61 rfl (by first | exact Or.inl rfl | exact Or.inr rfl) (mx_ri_of2 rfl rfl)
theorem c_Mo_undo0 (hM : mo_ok S P mo) (hA : I mo 6 = nI 0)  : mx_C l E M_Mo_undo 0 0 0 [.ref (mo)] (t, S, I, P, J) (mx_ri (nI 0) (t, S, (mx_up I (mo) 0 (nI 0)), P, J)) := by
  obtain ⟨hM0, hMp1, hMp2, hMp4, hMp5, hMp7, hMp14, hMp21, hMp22, hMp23, hMp24, hMp25, hMp26, hMp27, hMs1, hMs2, hMs3, hMs4, hMs5, hMs6, hMs7, hMs8, hMs9, hMs10, hMs11, hMs12, hMs13⟩ := id hM
  refine mx_C_of (ls0 := [some (.ref (mo)), none]) (by decide +kernel) rfl rfl (Nat.le_of_ble_eq_true rfl) rfl ?_
  refine mx_al0 d_Mo_undo_0 ?_
  refine mx_in_0 d_Mo_undo_1 ?_
  refine mx_putI d_Mo_undo_2 fl_Mo_54 (by assumption) ?_
  refine mx_al0 d_Mo_undo_5 ?_
  refine mx_getI d_Mo_undo_6 fl_Mo_205 (by assumption) ?_
  refine mx_ti (y := nI (0)) (by simp [mx_up, hA]) ?_
  refine mx_if_ne 14 d_Mo_undo_9 (by decide) (fun c_9 => absurd (by decide) c_9) (fun c_9 => ?_)
  refine mx_in_0 d_Mo_undo_12 ?_
  exact mx_zret d_Mo_undo_13 rfl (by first | exact Or.inl rfl | exact Or.inr rfl) (mx_ri_of2 rfl rfl)
theorem c_Mo_rem1 (hM : mo_ok S P mo) (hA : I mo 6 = nI A) (hA12 : A < 12)  : mx_C l E M_Mo_remembers 0 0 0 [.ref (mo)] (t, S, I, P, J) (mx_rv (t, S, mx_up (vs_cq I (mo + 1) (0) (mo + 4) (619 * A) 619) mo 6 (nI (A + 1)), P, J)) := by
  obtain ⟨hM0, hMp1, hMp2, hMp4, hMp5, hMp7, hMp14, hMp21, hMp22, hMp23, hMp24, hMp25, hMp26, hMp27, hMs1, hMs2, hMs3, hMs4, hMs5, hMs6, hMs7, hMs8, hMs9, hMs10, hMs11, hMs12, hMs13⟩ := id hM
  refine mx_C_of (ls0 := [some (.ref (mo)), none]) (by decide +kernel) rfl rfl (Nat.le_of_ble_eq_true rfl) rfl ?_
  refine mx_al0 d_Mo_remembers_0 ?_
  refine mx_getI d_Mo_remembers_1 fl_Mo_205 (by assumption) ?_
  refine mx_ti (y := nI (A)) (hA) ?_
  refine mx_bip 12 d_Mo_remembers_4 (by decide) ?_
  refine mx_icN_ne 50 d_Mo_remembers_6 (by decide) (by omega) (by omega) (fun c_6 => ?_) (fun c_6 => absurd c_6 (by omega))
  refine mx_hc (I' := (vs_cq I (mo + 1) (0) (mo + 4) (619 * A) 0)) vs_cq_0 ?_
  refine mx_in_0 d_Mo_remembers_50 ?_
  refine mx_is1 d_Mo_remembers_51 ?_
  refine mx_loop (N := 619) (ls := fun i => [some (.ref (mo)), some (.int (nI (i)))]) (X := fun i => (t, S, (vs_cq I (mo + 1) (0) (mo + 4) (619 * A) i), P, J)) (fun i hi ih => ?_) ?_
  · try dsimp only
    refine mx_il1 d_Mo_remembers_52 ?_
    refine mx_sip 619 d_Mo_remembers_53 (by decide) ?_
    refine mx_icN_ge 86 d_Mo_remembers_56 (by decide) (by omega) (by omega) (fun c_56 => absurd c_56 (by omega)) (fun c_56 => ?_)
    refine mx_al0 d_Mo_remembers_59 ?_
    refine mx_getR d_Mo_remembers_60 fl_Mo_19 (by assumption) (by assumption) ?_
    refine mx_sip 619 d_Mo_remembers_63 (by decide) ?_
    refine mx_al0 d_Mo_remembers_66 ?_
    refine mx_getI d_Mo_remembers_67 fl_Mo_205 (by assumption) ?_
    refine mx_ti (y := nI (A)) (by simp [vs_cq, hA]) ?_
    refine mx_imulN d_Mo_remembers_70 ?_
    refine mx_il1 d_Mo_remembers_71 ?_
    refine mx_iaddN d_Mo_remembers_72 ?_
    refine mx_al0 d_Mo_remembers_73 ?_
    refine mx_getR d_Mo_remembers_74 fl_Mo_7 (by assumption) (by assumption) ?_
    refine mx_il1 d_Mo_remembers_77 ?_
    refine mx_iald d_Mo_remembers_78 (by assumption) (nI_inb (by omega) (by omega)) ?_
    refine mx_ti (y := (vs_cq I (mo + 1) (0) (mo + 4) (619 * A) i) (mo + 1) (i)) (by rw [nI_clamp (by omega)]) ?_
    refine mx_iast d_Mo_remembers_79 (by assumption) (nI_inb (by omega) (by omega)) ?_
    rw [nI_clamp (by omega)]
    refine mx_iN1 d_Mo_remembers_80 ?_
    refine mx_goto 52 d_Mo_remembers_83 (by decide) ?_
    have eh2 : (mx_up (vs_cq I (mo + 1) (0) (mo + 4) (619 * A) i) (mo + 4) (619 * A + i) (((vs_cq I (mo + 1) (0) (mo + 4) (619 * A) i) (mo + 1) (i)))) = (vs_cq I (mo + 1) (0) (mo + 4) (619 * A) (i + 1)) := by exact vs_cq_s (by omega) (by omega) (Or.inl (by omega))
    rw [eh2]
    exact ih
  · try dsimp only
    refine mx_il1 d_Mo_remembers_52 ?_
    refine mx_sip 619 d_Mo_remembers_53 (by decide) ?_
    refine mx_icN_ge 86 d_Mo_remembers_56 (by decide) (by omega) (by omega) (fun c_56 => ?_) (fun c_56 => absurd c_56 (by omega))
    refine mx_al0 d_Mo_remembers_86 ?_
    refine mx_dup d_Mo_remembers_87 rfl ?_
    refine mx_getI d_Mo_remembers_88 fl_Mo_205 (by assumption) ?_
    refine mx_ti (y := nI (A)) (by simp [vs_cq, hA]) ?_
    refine mx_in_1 d_Mo_remembers_91 ?_
    refine mx_iaddN d_Mo_remembers_92 ?_
    refine mx_putI d_Mo_remembers_93 fl_Mo_205 (by assumption) ?_
    exact mx_vret d_Mo_remembers_96 rfl (mx_rv_of rfl)
theorem c_Mo_rem2 (hM : mo_ok S P mo) (hA : I mo 6 = nI 12)  : mx_C l E M_Mo_remembers 0 0 0 [.ref (mo)] (t, S, I, P, J) (mx_rv (t, S, mx_up (vs_cq (mx_up (vs_cq I (mo + 4) (619) (mo + 4) (0) 6809) (mo) 6 (nI (11))) (mo + 1) (0) (mo + 4) (619 * 11) 619) mo 6 (nI (11 + 1)), P, J)) := by
  obtain ⟨hM0, hMp1, hMp2, hMp4, hMp5, hMp7, hMp14, hMp21, hMp22, hMp23, hMp24, hMp25, hMp26, hMp27, hMs1, hMs2, hMs3, hMs4, hMs5, hMs6, hMs7, hMs8, hMs9, hMs10, hMs11, hMs12, hMs13⟩ := id hM
  refine mx_C_of (ls0 := [some (.ref (mo)), none]) (by decide +kernel) rfl rfl (Nat.le_of_ble_eq_true rfl) rfl ?_
  refine mx_al0 d_Mo_remembers_0 ?_
  refine mx_getI d_Mo_remembers_1 fl_Mo_205 (by assumption) ?_
  refine mx_ti (y := nI (12)) (hA) ?_
  refine mx_bip 12 d_Mo_remembers_4 (by decide) ?_
  refine mx_icN_ne 50 d_Mo_remembers_6 (by decide) (by omega) (by omega) (fun c_6 => absurd c_6 (by omega)) (fun c_6 => ?_)
  refine mx_hc (I' := (vs_cq I (mo + 4) (619) (mo + 4) (0) 0)) vs_cq_0 ?_
  refine mx_in_0 d_Mo_remembers_9 ?_
  refine mx_is1 d_Mo_remembers_10 ?_
  refine mx_loop (N := 6809) (ls := fun i => [some (.ref (mo)), some (.int (nI (i)))]) (X := fun i => (t, S, (vs_cq I (mo + 4) (619) (mo + 4) (0) i), P, J)) (fun i hi ih => ?_) ?_
  · try dsimp only
    refine mx_il1 d_Mo_remembers_11 ?_
    refine mx_sip 6809 d_Mo_remembers_12 (by decide) ?_
    refine mx_icN_ge 40 d_Mo_remembers_15 (by decide) (by omega) (by omega) (fun c_15 => absurd c_15 (by omega)) (fun c_15 => ?_)
    refine mx_al0 d_Mo_remembers_18 ?_
    refine mx_getR d_Mo_remembers_19 fl_Mo_19 (by assumption) (by assumption) ?_
    refine mx_il1 d_Mo_remembers_22 ?_
    refine mx_al0 d_Mo_remembers_23 ?_
    refine mx_getR d_Mo_remembers_24 fl_Mo_19 (by assumption) (by assumption) ?_
    refine mx_il1 d_Mo_remembers_27 ?_
    refine mx_sip 619 d_Mo_remembers_28 (by decide) ?_
    refine mx_iaddN d_Mo_remembers_31 ?_
    refine mx_iald d_Mo_remembers_32 (by assumption) (nI_inb (by omega) (by omega)) ?_
    refine mx_ti (y := (vs_cq I (mo + 4) (619) (mo + 4) (0) i) (mo + 4) (i + 619)) (by rw [nI_clamp (by omega)]) ?_
    refine mx_iast d_Mo_remembers_33 (by assumption) (nI_inb (by omega) (by omega)) ?_
    rw [nI_clamp (by omega)]
    refine mx_iN1 d_Mo_remembers_34 ?_
    refine mx_goto 11 d_Mo_remembers_37 (by decide) ?_
    have eh2 : (mx_up (vs_cq I (mo + 4) (619) (mo + 4) (0) i) (mo + 4) (i) (((vs_cq I (mo + 4) (619) (mo + 4) (0) i) (mo + 4) (i + 619)))) = (vs_cq I (mo + 4) (619) (mo + 4) (0) (i + 1)) := by exact vs_cq_s (by omega) (by omega) (Or.inr (by omega))
    rw [eh2]
    exact ih
  · try dsimp only
    refine mx_il1 d_Mo_remembers_11 ?_
    refine mx_sip 6809 d_Mo_remembers_12 (by decide) ?_
    refine mx_icN_ge 40 d_Mo_remembers_15 (by decide) (by omega) (by omega) (fun c_15 => ?_) (fun c_15 => absurd c_15 (by omega))
    refine mx_al0 d_Mo_remembers_40 ?_
    refine mx_dup d_Mo_remembers_41 rfl ?_
    refine mx_getI d_Mo_remembers_42 fl_Mo_205 (by assumption) ?_
    refine mx_ti (y := nI (12)) (by simp [vs_cq, hA]) ?_
    refine mx_in_1 d_Mo_remembers_45 ?_
    refine mx_isubN d_Mo_remembers_46 (by omega) ?_
    refine mx_ti (y := nI (11)) (rfl) ?_
    refine mx_putI d_Mo_remembers_47 fl_Mo_205 (by assumption) ?_
    refine mx_hc (I' := (vs_cq (mx_up (vs_cq I (mo + 4) (619) (mo + 4) (0) 6809) (mo) 6 (nI (11))) (mo + 1) (0) (mo + 4) (619 * 11) 0)) vs_cq_0 ?_
    refine mx_in_0 d_Mo_remembers_50 ?_
    refine mx_is1 d_Mo_remembers_51 ?_
    refine mx_loop (N := 619) (ls := fun i => [some (.ref (mo)), some (.int (nI (i)))]) (X := fun i => (t, S, (vs_cq (mx_up (vs_cq I (mo + 4) (619) (mo + 4) (0) 6809) (mo) 6 (nI (11))) (mo + 1) (0) (mo + 4) (619 * 11) i), P, J)) (fun i hi ih => ?_) ?_
    · try dsimp only
      refine mx_il1 d_Mo_remembers_52 ?_
      refine mx_sip 619 d_Mo_remembers_53 (by decide) ?_
      refine mx_icN_ge 86 d_Mo_remembers_56 (by decide) (by omega) (by omega) (fun c_56 => absurd c_56 (by omega)) (fun c_56 => ?_)
      refine mx_al0 d_Mo_remembers_59 ?_
      refine mx_getR d_Mo_remembers_60 fl_Mo_19 (by assumption) (by assumption) ?_
      refine mx_sip 619 d_Mo_remembers_63 (by decide) ?_
      refine mx_al0 d_Mo_remembers_66 ?_
      refine mx_getI d_Mo_remembers_67 fl_Mo_205 (by assumption) ?_
      refine mx_ti (y := nI (11)) (by simp [vs_cq, mx_up]) ?_
      refine mx_imulN d_Mo_remembers_70 ?_
      refine mx_il1 d_Mo_remembers_71 ?_
      refine mx_iaddN d_Mo_remembers_72 ?_
      refine mx_al0 d_Mo_remembers_73 ?_
      refine mx_getR d_Mo_remembers_74 fl_Mo_7 (by assumption) (by assumption) ?_
      refine mx_il1 d_Mo_remembers_77 ?_
      refine mx_iald d_Mo_remembers_78 (by assumption) (nI_inb (by omega) (by omega)) ?_
      refine mx_ti (y := (vs_cq (mx_up (vs_cq I (mo + 4) (619) (mo + 4) (0) 6809) (mo) 6 (nI (11))) (mo + 1) (0) (mo + 4) (619 * 11) i) (mo + 1) (i)) (by rw [nI_clamp (by omega)]) ?_
      refine mx_iast d_Mo_remembers_79 (by assumption) (nI_inb (by omega) (by omega)) ?_
      rw [nI_clamp (by omega)]
      refine mx_iN1 d_Mo_remembers_80 ?_
      refine mx_goto 52 d_Mo_remembers_83 (by decide) ?_
      have eh2 : (mx_up (vs_cq (mx_up (vs_cq I (mo + 4) (619) (mo + 4) (0) 6809) (mo) 6 (nI (11))) (mo + 1) (0) (mo + 4) (619 * 11) i) (mo + 4) (619 * 11 + i) (((vs_cq (mx_up (vs_cq I (mo + 4) (619) (mo + 4) (0) 6809) (mo) 6 (nI (11))) (mo + 1) (0) (mo + 4) (619 * 11) i) (mo + 1) (i)))) = (vs_cq (mx_up (vs_cq I (mo + 4) (619) (mo + 4) (0) 6809) (mo) 6 (nI (11))) (mo + 1) (0) (mo + 4) (619 * 11) (i + 1)) := by exact vs_cq_s (by omega) (by omega) (Or.inl (by omega))
      rw [eh2]
      exact ih
    · try dsimp only
      refine mx_il1 d_Mo_remembers_52 ?_
      refine mx_sip 619 d_Mo_remembers_53 (by decide) ?_
      refine mx_icN_ge 86 d_Mo_remembers_56 (by decide) (by omega) (by omega) (fun c_56 => ?_) (fun c_56 => absurd c_56 (by omega))
      refine mx_al0 d_Mo_remembers_86 ?_
      refine mx_dup d_Mo_remembers_87 rfl ?_
      refine mx_getI d_Mo_remembers_88 fl_Mo_205 (by assumption) ?_
      refine mx_ti (y := nI (11)) (by simp [vs_cq, mx_up]) ?_
      refine mx_in_1 d_Mo_remembers_91 ?_
      refine mx_iaddN d_Mo_remembers_92 ?_
      refine mx_putI d_Mo_remembers_93 fl_Mo_205 (by assumption) ?_
      exact mx_vret d_Mo_remembers_96 rfl (mx_rv_of rfl)
end O23
