/-! THE REFERENCE'S TEXT -/
/-- the text of L bytes f that is read: the tape, or the law's in the row -/
def mt_tx (I : mx_I) (mo : Nat) (f : Nat → Nat) (L : Nat) : Prop := I mo 10 = nI L ∧ L ≤ 400 ∧ (∀ k, k < 400 → f k < 256) ∧ ((I mo 9 = -1 ∧ ∀ k, k < 400 → I (mo + 5) k = nI (f k)) ∨ (I mo 9 = nI 619 ∧ ∀ k, k < 400 → I (mo + 1) (619 + k) = nI (f k)))
section AQ58
variable {l : Launch} {E : mx_Env} {t : Nat} {S : mx_S} {I K : mx_I} {P : mx_P} {J : mx_G} {mo L a e c n i k p : Nat} {f : Nat → Nat} {w : List Nat} {b : Bool} {v : Int32}
theorem mt_tx.of (h : mt_tx I mo f L) (h1 : K (mo + 1) = I (mo + 1)) (h5 : K (mo + 5) = I (mo + 5)) (h9 : K mo 9 = I mo 9) (h10 : K mo 10 = I mo 10) : mt_tx K mo f L := by
  unfold mt_tx
  rw [h1, h5, h9, h10]; exact h
theorem mt_tx.up (h : mt_tx I mo f L) (hk : k ≠ 9 ∧ k ≠ 10) : mt_tx (mx_up I mo k v) mo f L := h.of (mx_up_ne (by omega)) (mx_up_ne (by omega)) (by have := Ne.symm hk.1; simp [mx_up, this]) (by have := Ne.symm hk.2; simp [mx_up, this])
theorem mu_e : mx_up I a k v a k = v := by simp [mx_up]
theorem mu_u {x y : Int32} : mx_up (mx_up I a k x) a k y = mx_up I a k y := by funext q j; simp only [mx_up]; split <;> rfl
theorem mu_i {x : Int32} (h : I a k = x) : mx_up I a k x = I := by
  funext q j
  simp only [mx_up]
  split
  · rename_i h1; rw [h1.1, h1.2]; exact h.symm
  · rfl
theorem tq_sk_lt {k : Nat} (h : a + k < tq_sk f L a) : a + k < L := by
  rcases Nat.lt_or_ge a L with q | q
  · have := tq_le (p := fun q => decide (f q = 32)) (L := L) (a := a) (by omega); unfold tq_sk at h; omega
  · unfold tq_sk at h; rw [tq_end q] at h; omega
theorem tq_sk_in {k : Nat} (h : a + k < tq_sk f L a) : f (a + k) = 32 := of_decide_eq_true (tq_in (p := fun q => decide (f q = 32)) (L := L) (a := a) (by omega) h)
theorem tq_sk_out (h : tq_sk f L a < L) : ¬ f (tq_sk f L a) = 32 := of_decide_eq_false (tq_out (p := fun q => decide (f q = 32)) (L := L) (a := a) h)
theorem tq_w_n0 (h : ¬ p < L) : (decide (p < L) && tq_w f p e w) = false := by rw [decide_eq_false h, Bool.false_and]
theorem tq_w_n1 (h : ¬ e - p = w.length) : (decide (p < L) && tq_w f p e w) = false := by unfold tq_w; rw [decide_eq_false h, Bool.false_and, Bool.and_false]
theorem tq_w_n2 {j : Nat} (hj : j < w.length) (h : ¬ f (p + j) = w.getD j 0) : (decide (p < L) && tq_w f p e w) = false := by
  unfold tq_w
  rw [decide_eq_false (show ¬ ∀ i, i < w.length → f (p + i) = w.getD i 0 from fun z => h (z j hj)), Bool.and_false, Bool.and_false]
theorem tq_w_y (h : p < L) (h1 : e - p = w.length) (h2 : ∀ j, j < w.length → f (p + j) = w.getD j 0) : (decide (p < L) && tq_w f p e w) = true := by
  unfold tq_w
  rw [decide_eq_true h, decide_eq_true h1, decide_eq_true h2]; rfl
theorem tq_sk_ge : a ≤ tq_sk f L a := tq_ge _ L a
theorem tq_sk_le : tq_sk f L a ≤ max a L := by
  rcases Nat.lt_or_ge a L with q | q
  · have := tq_le (p := fun q => decide (f q = 32)) (L := L) (a := a) (by omega); unfold tq_sk; omega
  · unfold tq_sk; rw [tq_end q]; omega
theorem c_Mo_letterT (hM : mo_ok S P mo) (hb : I mo 9 = -1) (hT : ∀ k, k < 400 → I (mo + 5) k = nI (f k)) (hk : k < 400)  : mx_C l E M_Mo_letter 0 0 0 [.ref (mo), .int (nI (k))] (t, S, I, P, J) (mx_ri (nI (f k)) (t, S, I, P, J)) := by
  obtain ⟨hM0, hMp1, hMp2, hMp4, hMp5, hMp7, hMp14, hMp21, hMp22, hMp23, hMp24, hMp25, hMp26, hMp27, hMs1, hMs2, hMs3, hMs4, hMs5, hMs6, hMs7, hMs8, hMs9, hMs10, hMs11, hMs12, hMs13⟩ := id hM
  refine mx_C_of (ls0 := [some (.ref (mo)), some (.int (nI (k)))]) (by decide +kernel) rfl rfl (Nat.le_of_ble_eq_true rfl) rfl ?_
  refine mx_al0 d_Mo_letter_0 ?_
  refine mx_getI d_Mo_letter_1 fl_Mo_84 (by assumption) ?_
  refine mx_ti (y := (-1)) (hb) ?_
  refine mx_ic_m1 d_Mo_letter_4 ?_
  refine mx_icmp_ne 17 d_Mo_letter_5 (by decide) (fun c_5 => absurd c_5 (fun z => z rfl)) (fun c_5 => ?_)
  refine mx_al0 d_Mo_letter_8 ?_
  refine mx_getR d_Mo_letter_9 fl_Mo_22 (by assumption) (by assumption) ?_
  refine mx_il1 d_Mo_letter_12 ?_
  refine mx_iald d_Mo_letter_13 (by assumption) (nI_inb (by omega) (by omega)) ?_
  refine mx_ti (y := I (mo + 5) (k)) (by rw [nI_clamp (by omega)]) ?_
  refine mx_ti (y := nI (f k)) (hT k hk) ?_
  refine mx_goto 28 d_Mo_letter_14 (by decide) ?_
  exact mx_iret d_Mo_letter_28 rfl (mx_ri_of rfl)
theorem c_Mo_letterM (hM : mo_ok S P mo) (hb : I mo 9 = nI 619) (hT : ∀ k, k < 400 → I (mo + 1) (619 + k) = nI (f k)) (hk : k < 400)  : mx_C l E M_Mo_letter 0 0 0 [.ref (mo), .int (nI (k))] (t, S, I, P, J) (mx_ri (nI (f k)) (t, S, I, P, J)) := by
  obtain ⟨hM0, hMp1, hMp2, hMp4, hMp5, hMp7, hMp14, hMp21, hMp22, hMp23, hMp24, hMp25, hMp26, hMp27, hMs1, hMs2, hMs3, hMs4, hMs5, hMs6, hMs7, hMs8, hMs9, hMs10, hMs11, hMs12, hMs13⟩ := id hM
  refine mx_C_of (ls0 := [some (.ref (mo)), some (.int (nI (k)))]) (by decide +kernel) rfl rfl (Nat.le_of_ble_eq_true rfl) rfl ?_
  refine mx_al0 d_Mo_letter_0 ?_
  refine mx_getI d_Mo_letter_1 fl_Mo_84 (by assumption) ?_
  refine mx_ti (y := nI (619)) (hb) ?_
  refine mx_ic_m1 d_Mo_letter_4 ?_
  refine mx_icmp_ne 17 d_Mo_letter_5 (by decide) (fun c_5 => ?_) (fun c_5 => absurd c_5 (by decide))
  refine mx_al0 d_Mo_letter_17 ?_
  refine mx_getR d_Mo_letter_18 fl_Mo_7 (by assumption) (by assumption) ?_
  refine mx_al0 d_Mo_letter_21 ?_
  refine mx_getI d_Mo_letter_22 fl_Mo_84 (by assumption) ?_
  refine mx_ti (y := nI (619)) (hb) ?_
  refine mx_il1 d_Mo_letter_25 ?_
  refine mx_iaddN d_Mo_letter_26 ?_
  refine mx_iald d_Mo_letter_27 (by assumption) (nI_inb (by omega) (by omega)) ?_
  refine mx_ti (y := I (mo + 1) (619 + k)) (by rw [nI_clamp (by omega)]) ?_
  refine mx_ti (y := nI (f k)) (hT k hk) ?_
  exact mx_iret d_Mo_letter_28 rfl (mx_ri_of rfl)
theorem c_Mo_letter (hM : mo_ok S P mo) (hx : mt_tx I mo f L) (hk : k < 400) : mx_C l E M_Mo_letter 0 0 0 [.ref (mo), .int (nI (k))] (t, S, I, P, J) (mx_ri (nI (f k)) (t, S, I, P, J)) := by
  rcases hx.2.2.2 with ⟨h1, h2⟩ | ⟨h1, h2⟩
  · exact c_Mo_letterT hM h1 h2 hk
  · exact c_Mo_letterM hM h1 h2 hk
theorem c_Mo_skip (hM : mo_ok S P mo) (hx : mt_tx I mo f L) (hat : I mo 11 = nI a) (ha : a < 1000)  : mx_C l E M_Mo_skip 1 0 0 [.ref (mo)] (t, S, I, P, J) (mx_rv (t, S, (mx_up I mo 11 (nI (tq_sk f L a))), P, J)) := by
  obtain ⟨hM0, hMp1, hMp2, hMp4, hMp5, hMp7, hMp14, hMp21, hMp22, hMp23, hMp24, hMp25, hMp26, hMp27, hMs1, hMs2, hMs3, hMs4, hMs5, hMs6, hMs7, hMs8, hMs9, hMs10, hMs11, hMs12, hMs13⟩ := id hM
  have hL := hx.2.1
  have hge := tq_sk_ge (f := f) (L := L) (a := a)
  have hle := tq_sk_le (f := f) (L := L) (a := a)
  have e0 : (t, S, I, P, J) = (t, S, mx_up I mo 11 (nI (a + 0)), P, J) := by rw [mu_i (show I mo 11 = nI (a + 0) from hat)]
  rw [e0]
  refine mx_C_of (ls0 := [some (.ref (mo))]) (by decide +kernel) rfl rfl (Nat.le_of_ble_eq_true rfl) rfl ?_
  refine mx_loop (N := tq_sk f L a - a) (ls := fun k9 => [some (.ref (mo))]) (X := fun k9 => (t, S, (mx_up I mo 11 (nI (a + k9))), P, J)) (fun k9 hk9 ih => ?_) ?_
  · try dsimp only
    have hlt := tq_sk_lt (f := f) (L := L) (a := a) (k := k9) (by omega)
    have hin := tq_sk_in (f := f) (L := L) (a := a) (k := k9) (by omega)
    have hf9 := hx.2.2.1 (a + k9) (by omega)
    refine mx_al0 d_Mo_skip_0 ?_
    refine mx_getI d_Mo_skip_1 fl_Mo_87 (by assumption) ?_
    refine mx_ti (y := nI (a + k9)) (mu_e) ?_
    refine mx_al0 d_Mo_skip_4 ?_
    refine mx_getI d_Mo_skip_5 fl_Mo_90 (by assumption) ?_
    refine mx_ti (y := nI (L)) (((hx.up (by omega)).1)) ?_
    refine mx_icN_ge 37 d_Mo_skip_8 (by decide) (by omega) (by omega) (fun c_8 => absurd c_8 (by omega)) (fun c_8 => ?_)
    refine mx_al0 d_Mo_skip_11 ?_
    refine mx_al0 d_Mo_skip_12 ?_
    refine mx_getI d_Mo_skip_13 fl_Mo_87 (by assumption) ?_
    refine mx_ti (y := nI (a + k9)) (mu_e) ?_
    refine mx_cV1i d_Mo_skip_16 (c_Mo_letter hM (hx.up (by omega)) (by omega)) ok_Mo_letter ml_Mo_93 (by assumption) ⟨rfl, rfl⟩ (by decide) (Nat.le_of_ble_eq_true rfl) ?_
    refine mx_bip 32 d_Mo_skip_19 (by decide) ?_
    refine mx_icN_ne 37 d_Mo_skip_21 (by decide) (by omega) (by omega) (fun c_21 => absurd c_21 (by rw [hin]; simp)) (fun c_21 => ?_)
    refine mx_al0 d_Mo_skip_24 ?_
    refine mx_dup d_Mo_skip_25 rfl ?_
    refine mx_getI d_Mo_skip_26 fl_Mo_87 (by assumption) ?_
    refine mx_ti (y := nI (a + k9)) (mu_e) ?_
    refine mx_in_1 d_Mo_skip_29 ?_
    refine mx_iaddN d_Mo_skip_30 ?_
    refine mx_putI d_Mo_skip_31 fl_Mo_87 (by assumption) ?_
    refine mx_goto 0 d_Mo_skip_34 (by decide) ?_
    have eh2 : (mx_up (mx_up I mo 11 (nI (a + k9))) (mo) 11 (nI (a + k9 + 1))) = (mx_up I mo 11 (nI (a + (k9 + 1)))) := by rw [mu_u]; rfl
    rw [eh2]
    exact ih
  · try dsimp only
    have hf9 := fun h => hx.2.2.1 (a + (tq_sk f L a - a)) h
    refine mx_al0 d_Mo_skip_0 ?_
    refine mx_getI d_Mo_skip_1 fl_Mo_87 (by assumption) ?_
    refine mx_ti (y := nI (a + (tq_sk f L a - a))) (mu_e) ?_
    refine mx_al0 d_Mo_skip_4 ?_
    refine mx_getI d_Mo_skip_5 fl_Mo_90 (by assumption) ?_
    refine mx_ti (y := nI (L)) (((hx.up (by omega)).1)) ?_
    refine mx_icN_ge 37 d_Mo_skip_8 (by decide) (by omega) (by omega) (fun c_8 => ?_) (fun c_8 => ?_)
    · skip
      exact mx_vret d_Mo_skip_37 rfl (mx_rv_of (by rw [show a + (tq_sk f L a - a) = tq_sk f L a by omega]))
    · skip
      refine mx_al0 d_Mo_skip_11 ?_
      refine mx_al0 d_Mo_skip_12 ?_
      refine mx_getI d_Mo_skip_13 fl_Mo_87 (by assumption) ?_
      refine mx_ti (y := nI (a + (tq_sk f L a - a))) (mu_e) ?_
      refine mx_cV1i d_Mo_skip_16 (c_Mo_letter hM (hx.up (by omega)) (by omega)) ok_Mo_letter ml_Mo_93 (by assumption) ⟨rfl, rfl⟩ (by decide) (Nat.le_of_ble_eq_true rfl) ?_
      refine mx_bip 32 d_Mo_skip_19 (by decide) ?_
      refine mx_icN_ne 37 d_Mo_skip_21 (by decide) (by omega) (by omega) (fun c_21 => ?_) (fun c_21 => absurd c_21 (by have h9 := tq_sk_out (f := f) (L := L) (a := a) (by omega); rw [show a + (tq_sk f L a - a) = tq_sk f L a by omega]; exact h9))
      exact mx_vret d_Mo_skip_37 rfl (mx_rv_of (by rw [show a + (tq_sk f L a - a) = tq_sk f L a by omega]))
theorem c_Mo_isSignP (hM : mo_ok S P mo) (hx : mt_tx I mo f L) (hat : I mo 11 = nI a) (ha : a < 1000) (hc : c < 128)  : mx_C l E M_Mo_isSign 2 0 0 [.ref (mo), .int (nI (c))] (t, S, I, P, J) (mx_ri (bI (decide (tq_sk f L a < L) && decide (f (tq_sk f L a) = c))) (t, S, (mx_up I mo 11 (nI (tq_sk f L a))), P, J)) := by
  obtain ⟨hM0, hMp1, hMp2, hMp4, hMp5, hMp7, hMp14, hMp21, hMp22, hMp23, hMp24, hMp25, hMp26, hMp27, hMs1, hMs2, hMs3, hMs4, hMs5, hMs6, hMs7, hMs8, hMs9, hMs10, hMs11, hMs12, hMs13⟩ := id hM
  have hL := hx.2.1
  have hle := tq_sk_le (f := f) (L := L) (a := a)
  refine mx_C_of (ls0 := [some (.ref (mo)), some (.int (nI (c)))]) (by decide +kernel) rfl rfl (Nat.le_of_ble_eq_true rfl) rfl ?_
  refine mx_al0 d_Mo_isSign_0 ?_
  refine mx_cV0v d_Mo_isSign_1 (c_Mo_skip hM hx hat (by omega)) ok_Mo_skip ml_Mo_97 (by assumption) ⟨rfl, rfl⟩ (by decide) (Nat.le_of_ble_eq_true rfl) ?_
  refine mx_al0 d_Mo_isSign_4 ?_
  refine mx_getI d_Mo_isSign_5 fl_Mo_87 (by assumption) ?_
  refine mx_ti (y := nI (tq_sk f L a)) (mu_e) ?_
  refine mx_al0 d_Mo_isSign_8 ?_
  refine mx_getI d_Mo_isSign_9 fl_Mo_90 (by assumption) ?_
  refine mx_ti (y := nI (L)) (((hx.up (by omega)).1)) ?_
  refine mx_icN_ge 31 d_Mo_isSign_12 (by decide) (by omega) (by omega) (fun c_12 => ?_) (fun c_12 => ?_)
  · skip
    refine mx_in_0 d_Mo_isSign_31 ?_
    exact mx_zret d_Mo_isSign_32 rfl (by first | exact Or.inl rfl | exact Or.inr rfl) (mx_ri_of2 (by first | (rw [decide_eq_false (show ¬ tq_sk f L a < L by omega), Bool.false_and]; rfl) | (rw [decide_eq_false c_24, Bool.and_false]; rfl) | (rw [decide_eq_true (show tq_sk f L a < L by omega), decide_eq_true c_24]; rfl)) rfl)
  · skip
    refine mx_al0 d_Mo_isSign_15 ?_
    have hf9 := hx.2.2.1 (tq_sk f L a) (by omega)
    refine mx_al0 d_Mo_isSign_16 ?_
    refine mx_getI d_Mo_isSign_17 fl_Mo_87 (by assumption) ?_
    refine mx_ti (y := nI (tq_sk f L a)) (mu_e) ?_
    refine mx_cV1i d_Mo_isSign_20 (c_Mo_letter hM (hx.up (by omega)) (by omega)) ok_Mo_letter ml_Mo_93 (by assumption) ⟨rfl, rfl⟩ (by decide) (Nat.le_of_ble_eq_true rfl) ?_
    refine mx_il1 d_Mo_isSign_23 ?_
    refine mx_icN_ne 31 d_Mo_isSign_24 (by decide) (by omega) (by omega) (fun c_24 => ?_) (fun c_24 => ?_)
    · skip
      refine mx_in_0 d_Mo_isSign_31 ?_
      exact mx_zret d_Mo_isSign_32 rfl (by first | exact Or.inl rfl | exact Or.inr rfl) (mx_ri_of2 (by first | (rw [decide_eq_false (show ¬ tq_sk f L a < L by omega), Bool.false_and]; rfl) | (rw [decide_eq_false c_24, Bool.and_false]; rfl) | (rw [decide_eq_true (show tq_sk f L a < L by omega), decide_eq_true c_24]; rfl)) rfl)
    · skip
      refine mx_in_1 d_Mo_isSign_27 ?_
      refine mx_goto 32 d_Mo_isSign_28 (by decide) ?_
      exact mx_zret d_Mo_isSign_32 rfl (by first | exact Or.inl rfl | exact Or.inr rfl) (mx_ri_of2 (by first | (rw [decide_eq_false (show ¬ tq_sk f L a < L by omega), Bool.false_and]; rfl) | (rw [decide_eq_false c_24, Bool.and_false]; rfl) | (rw [decide_eq_true (show tq_sk f L a < L by omega), decide_eq_true c_24]; rfl)) rfl)
theorem c_Mo_here (hM : mo_ok S P mo) (hx : mt_tx I mo f L) (hat : I mo 11 = nI a) (ha : a < 1000)  : mx_C l E M_Mo_here 2 0 0 [.ref (mo)] (t, S, I, P, J) (mx_ri (nI (tq_sk f L a)) (t, S, (mx_up I mo 11 (nI (tq_sk f L a))), P, J)) := by
  obtain ⟨hM0, hMp1, hMp2, hMp4, hMp5, hMp7, hMp14, hMp21, hMp22, hMp23, hMp24, hMp25, hMp26, hMp27, hMs1, hMs2, hMs3, hMs4, hMs5, hMs6, hMs7, hMs8, hMs9, hMs10, hMs11, hMs12, hMs13⟩ := id hM
  have hL := hx.2.1
  refine mx_C_of (ls0 := [some (.ref (mo))]) (by decide +kernel) rfl rfl (Nat.le_of_ble_eq_true rfl) rfl ?_
  refine mx_al0 d_Mo_here_0 ?_
  refine mx_cV0v d_Mo_here_1 (c_Mo_skip hM hx hat (by omega)) ok_Mo_skip ml_Mo_97 (by assumption) ⟨rfl, rfl⟩ (by decide) (Nat.le_of_ble_eq_true rfl) ?_
  refine mx_al0 d_Mo_here_4 ?_
  refine mx_getI d_Mo_here_5 fl_Mo_87 (by assumption) ?_
  refine mx_ti (y := nI (tq_sk f L a)) (mu_e) ?_
  exact mx_iret d_Mo_here_8 rfl (mx_ri_of2 rfl rfl)
theorem c_Mo_wrong0 (hM : mo_ok S P mo) (hf : I mo 12 = -1)  : mx_C l E M_Mo_wrong 0 0 0 [.ref (mo), .int (v)] (t, S, I, P, J) (mx_rv (t, S, mx_up I mo 12 v, P, J)) := by
  obtain ⟨hM0, hMp1, hMp2, hMp4, hMp5, hMp7, hMp14, hMp21, hMp22, hMp23, hMp24, hMp25, hMp26, hMp27, hMs1, hMs2, hMs3, hMs4, hMs5, hMs6, hMs7, hMs8, hMs9, hMs10, hMs11, hMs12, hMs13⟩ := id hM
  refine mx_C_of (ls0 := [some (.ref (mo)), some (.int (v))]) (by decide +kernel) rfl rfl (Nat.le_of_ble_eq_true rfl) rfl ?_
  refine mx_al0 d_Mo_wrong_0 ?_
  refine mx_getI d_Mo_wrong_1 fl_Mo_25 (by assumption) ?_
  refine mx_ti (y := (-1)) (hf) ?_
  refine mx_ic_m1 d_Mo_wrong_4 ?_
  refine mx_icmp_ne 13 d_Mo_wrong_5 (by decide) (fun c_5 => absurd c_5 (fun z => z rfl)) (fun c_5 => ?_)
  refine mx_al0 d_Mo_wrong_8 ?_
  refine mx_il1 d_Mo_wrong_9 ?_
  refine mx_putI d_Mo_wrong_10 fl_Mo_25 (by assumption) ?_
  exact mx_vret d_Mo_wrong_13 rfl (mx_rv_of rfl)
theorem c_Mo_wrongX (hM : mo_ok S P mo) (hf : I mo 12 = nI e) (he : e < 1000)  : mx_C l E M_Mo_wrong 0 0 0 [.ref (mo), .int (v)] (t, S, I, P, J) (mx_rv (t, S, I, P, J)) := by
  obtain ⟨hM0, hMp1, hMp2, hMp4, hMp5, hMp7, hMp14, hMp21, hMp22, hMp23, hMp24, hMp25, hMp26, hMp27, hMs1, hMs2, hMs3, hMs4, hMs5, hMs6, hMs7, hMs8, hMs9, hMs10, hMs11, hMs12, hMs13⟩ := id hM
  refine mx_C_of (ls0 := [some (.ref (mo)), some (.int (v))]) (by decide +kernel) rfl rfl (Nat.le_of_ble_eq_true rfl) rfl ?_
  refine mx_al0 d_Mo_wrong_0 ?_
  refine mx_getI d_Mo_wrong_1 fl_Mo_25 (by assumption) ?_
  refine mx_ti (y := nI (e)) (hf) ?_
  refine mx_ic_m1 d_Mo_wrong_4 ?_
  refine mx_icmp_ne 13 d_Mo_wrong_5 (by decide) (fun c_5 => ?_) (fun c_5 => absurd c_5 (nI_m1b (by omega)))
  exact mx_vret d_Mo_wrong_13 rfl (mx_rv_of rfl)
theorem c_Mo_isInL {z : Nat} (hz : z < 256) : mx_C l E M_Mo_isIn 0 0 0 [.int (nI z), .int (nI 97), .int (nI 122)] (t, S, I, P, J) (mx_ri (bI (tq_l z)) (t, S, I, P, J)) := by
  have h := c_Mo_isIn (l := l) (E := E) (t := t) (S := S) (I := I) (P := P) (J := J) (x := nI z) (a := nI 97) (b := nI 122)
  have e : (decide (nI 97 ≤ nI z) && decide (nI z ≤ nI 122)) = tq_l z := by
    unfold tq_l
    congr 1
    · exact decide_eq_decide.mpr (nI_leI (by omega) (by omega))
    · exact decide_eq_decide.mpr (nI_leI (by omega) (by omega))
  rw [e] at h
  exact h
theorem c_Mo_isInF {z : Nat} (hz : z < 256) : mx_C l E M_Mo_isIn 0 0 0 [.int (nI z), .int (nI 48), .int (nI 57)] (t, S, I, P, J) (mx_ri (bI (tq_f z)) (t, S, I, P, J)) := by
  have h := c_Mo_isIn (l := l) (E := E) (t := t) (S := S) (I := I) (P := P) (J := J) (x := nI z) (a := nI 48) (b := nI 57)
  have e : (decide (nI 48 ≤ nI z) && decide (nI z ≤ nI 57)) = tq_f z := by
    unfold tq_f
    congr 1
    · exact decide_eq_decide.mpr (nI_leI (by omega) (by omega))
    · exact decide_eq_decide.mpr (nI_leI (by omega) (by omega))
  rw [e] at h
  exact h
theorem c_Mo_hasP (hM : mo_ok S P mo) (hx : mt_tx I mo f L) (hat : I mo 11 = nI a) (ha : a < 1000) (hw : sx_w i w) (hi : i < 69) (h0 : 0 < w.length) (hl0 : tq_l (w.getD 0 0) = true) (hp : tq_sk f L a = p)  : mx_C l E M_Mo_has 4 0 0 [.ref (mo), .ref (mx_aK E i)] (t, S, I, P, J) (mx_ri (bI (decide (p < L) && tq_w f p (tq_lz f L p) w)) (t, S, (mx_up I mo 11 (nI (if (decide (p < L) && tq_w f p (tq_lz f L p) w) = true then tq_lz f L p else p))), P, J)) := by
  obtain ⟨hM0, hMp1, hMp2, hMp4, hMp5, hMp7, hMp14, hMp21, hMp22, hMp23, hMp24, hMp25, hMp26, hMp27, hMs1, hMs2, hMs3, hMs4, hMs5, hMs6, hMs7, hMs8, hMs9, hMs10, hMs11, hMs12, hMs13⟩ := id hM
  have hL := hx.2.1
  have hle := tq_sk_le (f := f) (L := L) (a := a)
  rw [hp] at hle
  have hsk := c_Mo_skip (l := l) (E := E) (t := t) (J := J) hM hx hat ha
  rw [hp] at hsk
  have hln := (sx_all i hi).1
  refine mx_C_of (ls0 := [some (.ref (mo)), some (.ref (mx_aK E i)), none, none]) (by decide +kernel) rfl rfl (Nat.le_of_ble_eq_true rfl) rfl ?_
  refine mx_al0 d_Mo_has_0 ?_
  refine mx_cV0v d_Mo_has_1 (hsk) ok_Mo_skip ml_Mo_97 (by assumption) ⟨rfl, rfl⟩ (by decide) (Nat.le_of_ble_eq_true rfl) ?_
  refine mx_al0 d_Mo_has_4 ?_
  refine mx_getI d_Mo_has_5 fl_Mo_87 (by assumption) ?_
  refine mx_ti (y := nI (p)) (mu_e) ?_
  refine mx_al0 d_Mo_has_8 ?_
  refine mx_getI d_Mo_has_9 fl_Mo_90 (by assumption) ?_
  refine mx_ti (y := nI (L)) (((hx.up (by omega)).1)) ?_
  refine mx_icN_ge 31 d_Mo_has_12 (by decide) (by omega) (by omega) (fun c_12 => ?_) (fun c_12 => ?_)
  · skip
    have k0 : (decide (p < L) && tq_w f p (tq_lz f L p) w) = false := tq_w_n0 (by omega)
    refine mx_in_0 d_Mo_has_31 ?_
    exact mx_zret d_Mo_has_32 rfl (by first | exact Or.inl rfl | exact Or.inr rfl) (mx_ri_of2 (by rw [k0]; rfl) (by rw [k0]; rfl))
  · skip
    refine mx_al0 d_Mo_has_15 ?_
    have hf9 := hx.2.2.1 p (by omega)
    have hw0 := (hw.2 0 h0).2
    have hl := hw.1
    refine mx_al0 d_Mo_has_16 ?_
    refine mx_getI d_Mo_has_17 fl_Mo_87 (by assumption) ?_
    refine mx_ti (y := nI (p)) (mu_e) ?_
    refine mx_cV1i d_Mo_has_20 (c_Mo_letter hM (hx.up (by omega)) (by omega)) ok_Mo_letter ml_Mo_93 (by assumption) ⟨rfl, rfl⟩ (by decide) (Nat.le_of_ble_eq_true rfl) ?_
    refine mx_al1 d_Mo_has_23 ?_
    refine mx_in_0 d_Mo_has_24 ?_
    refine sx_call1 d_Mo_has_25 hi (c_Sx_charAt (j := 0) hi (by omega)) ok_Jd_String_charAt ml_Mo_100 rfl (by decide) (Nat.le_of_ble_eq_true rfl) ?_
    refine mx_ti (y := nI (w.getD 0 0)) ((hw.2 0 h0).1) ?_
    refine mx_icN_eq 33 d_Mo_has_28 (by decide) (by omega) (by omega) (fun c_28 => ?_) (fun c_28 => ?_)
    · skip
      have hlp : tq_l (f p) = true := by rw [c_28]; exact hl0
      have hz1 : p ≤ tq_lz f L p := tq_ge _ L p
      have hz2 : tq_lz f L p ≤ L := tq_le (by omega)
      refine mx_al0 d_Mo_has_33 ?_
      refine mx_getI d_Mo_has_34 fl_Mo_87 (by assumption) ?_
      refine mx_ti (y := nI (p)) (mu_e) ?_
      refine mx_is2 d_Mo_has_37 ?_
      refine mx_lsc (congrArg (fun z9 => ([some (.ref (mo)), some (.ref (mx_aK E i)), some (.int (z9)), none] : List (Option Value))) ((show nI p = nI (p + 0) from rfl))) ?_
      refine mx_loop (N := tq_lz f L p - p) (ls := fun k9 => [some (.ref (mo)), some (.ref (mx_aK E i)), some (.int (nI (p + k9))), none]) (X := fun k9 => (t, S, (mx_up I mo 11 (nI (p))), P, J)) (fun k9 hk9 ih => ?_) ?_
      · try dsimp only
        have hin : tq_l (f (p + k9)) = true := tq_in (p := fun q => tq_l (f q)) (L := L) (a := p) (by omega) (by have h9 := hk9; unfold tq_lz at h9; omega)
        have hf7 := hx.2.2.1 (p + k9) (by omega)
        refine mx_il2 d_Mo_has_38 ?_
        refine mx_al0 d_Mo_has_39 ?_
        refine mx_getI d_Mo_has_40 fl_Mo_90 (by assumption) ?_
        refine mx_ti (y := nI (L)) (((hx.up (by omega)).1)) ?_
        refine mx_icN_ge 67 d_Mo_has_43 (by decide) (by omega) (by omega) (fun c_43 => absurd c_43 (by omega)) (fun c_43 => ?_)
        refine mx_al0 d_Mo_has_46 ?_
        refine mx_il2 d_Mo_has_47 ?_
        refine mx_cV1i d_Mo_has_48 (c_Mo_letter hM (hx.up (by omega)) (by omega)) ok_Mo_letter ml_Mo_93 (by assumption) ⟨rfl, rfl⟩ (by decide) (Nat.le_of_ble_eq_true rfl) ?_
        refine mx_bip 97 d_Mo_has_51 (by decide) ?_
        refine mx_bip 122 d_Mo_has_53 (by decide) ?_
        refine mx_cS3i d_Mo_has_55 (c_Mo_isInL (by omega)) ok_Mo_isIn ml_Mo_57 (by decide) (Nat.le_of_ble_eq_true rfl) ?_
        refine mx_ifB_eq 67 d_Mo_has_58 (by decide) (fun c_58 => absurd c_58 (by rw [hin]; decide)) (fun c_58 => ?_)
        refine mx_iN2 d_Mo_has_61 ?_
        refine mx_goto 38 d_Mo_has_64 (by decide) ?_
        have e2 : nI (p + k9 + 1) = nI (p + (k9 + 1)) := by rfl
        refine mx_lsc (congrArg (fun z9 => ([some (.ref (mo)), some (.ref (mx_aK E i)), some (.int (z9)), none] : List (Option Value))) e2) ?_
        exact ih
      · try dsimp only
        have hout : tq_lz f L p < L → tq_l (f (p + (tq_lz f L p - p))) = false := fun h9 => by have h8 := tq_out (p := fun q => tq_l (f q)) (L := L) (a := p) (by unfold tq_lz at h9; exact h9); rw [show p + (tq_lz f L p - p) = tq_lz f L p by omega]; exact h8
        have hf6 := fun h => hx.2.2.1 (p + (tq_lz f L p - p)) h
        refine mx_il2 d_Mo_has_38 ?_
        refine mx_al0 d_Mo_has_39 ?_
        refine mx_getI d_Mo_has_40 fl_Mo_90 (by assumption) ?_
        refine mx_ti (y := nI (L)) (((hx.up (by omega)).1)) ?_
        refine mx_icN_ge 67 d_Mo_has_43 (by decide) (by omega) (by omega) (fun c_43 => ?_) (fun c_43 => ?_)
        · skip
          refine mx_il2 d_Mo_has_67 ?_
          refine mx_al0 d_Mo_has_68 ?_
          refine mx_getI d_Mo_has_69 fl_Mo_87 (by assumption) ?_
          refine mx_ti (y := nI (p)) (mu_e) ?_
          refine mx_isubN d_Mo_has_72 (by omega) ?_
          refine mx_al1 d_Mo_has_73 ?_
          refine sx_call0 d_Mo_has_74 hi (c_Sx_length hi) ok_Jd_String_length ml_Mo_106 rfl (by decide) (Nat.le_of_ble_eq_true rfl) ?_
          refine mx_icN_eq 82 d_Mo_has_77 (by decide) (by omega) (by omega) (fun c_77 => ?_) (fun c_77 => ?_)
          · skip
            refine mx_in_0 d_Mo_has_82 ?_
            refine mx_is3 d_Mo_has_83 ?_
            refine mx_loopI (N := w.length) (fun q9 => ∀ j, j < q9 → f (p + j) = w.getD j 0) (ls := fun q9 => [some (.ref (mo)), some (.ref (mx_aK E i)), some (.int (nI (p + (tq_lz f L p - p)))), some (.int (nI (q9)))]) (X := fun q9 => (t, S, (mx_up I mo 11 (nI (p))), P, J)) (fun j hj => absurd hj (by omega)) (fun q9 hq9 hinv ih => ?_) (fun hinv => ?_)
            · try dsimp only at hinv ih ⊢
              refine mx_il3 d_Mo_has_84 ?_
              refine mx_al1 d_Mo_has_85 ?_
              refine sx_call0 d_Mo_has_86 hi (c_Sx_length hi) ok_Jd_String_length ml_Mo_106 rfl (by decide) (Nat.le_of_ble_eq_true rfl) ?_
              refine mx_icN_ge 118 d_Mo_has_89 (by decide) (by omega) (by omega) (fun c_89 => absurd c_89 (by omega)) (fun c_89 => ?_)
              have hf8 := hx.2.2.1 (p + q9) (by omega)
              have hw9 := (hw.2 q9 (by omega)).2
              refine mx_al0 d_Mo_has_92 ?_
              refine mx_al0 d_Mo_has_93 ?_
              refine mx_getI d_Mo_has_94 fl_Mo_87 (by assumption) ?_
              refine mx_ti (y := nI (p)) (mu_e) ?_
              refine mx_il3 d_Mo_has_97 ?_
              refine mx_iaddN d_Mo_has_98 ?_
              refine mx_cV1i d_Mo_has_99 (c_Mo_letter hM (hx.up (by omega)) (by omega)) ok_Mo_letter ml_Mo_93 (by assumption) ⟨rfl, rfl⟩ (by decide) (Nat.le_of_ble_eq_true rfl) ?_
              refine mx_al1 d_Mo_has_102 ?_
              refine mx_il3 d_Mo_has_103 ?_
              refine sx_call1 d_Mo_has_104 hi (c_Sx_charAt (j := q9) hi (by omega)) ok_Jd_String_charAt ml_Mo_100 rfl (by decide) (Nat.le_of_ble_eq_true rfl) ?_
              refine mx_ti (y := nI (w.getD q9 0)) ((hw.2 q9 (by omega)).1) ?_
              refine mx_icN_eq 112 d_Mo_has_107 (by decide) (by omega) (by omega) (fun c_107 => ?_) (fun c_107 => ?_)
              · skip
                refine mx_iN3 d_Mo_has_112 ?_
                refine mx_goto 84 d_Mo_has_115 (by decide) ?_
                exact ih (vs_nextT hinv c_107)
              · skip
                have k0 : (decide (p < L) && tq_w f p (tq_lz f L p) w) = false := tq_w_n2 (j := q9) (by omega) c_107
                refine mx_in_0 d_Mo_has_110 ?_
                exact mx_zret d_Mo_has_111 rfl (by first | exact Or.inl rfl | exact Or.inr rfl) (mx_ri_of2 (by rw [k0]; rfl) (by rw [k0]; rfl))
            · try dsimp only at hinv ⊢
              refine mx_il3 d_Mo_has_84 ?_
              refine mx_al1 d_Mo_has_85 ?_
              refine sx_call0 d_Mo_has_86 hi (c_Sx_length hi) ok_Jd_String_length ml_Mo_106 rfl (by decide) (Nat.le_of_ble_eq_true rfl) ?_
              refine mx_icN_ge 118 d_Mo_has_89 (by decide) (by omega) (by omega) (fun c_89 => ?_) (fun c_89 => absurd c_89 (by omega))
              refine mx_al0 d_Mo_has_118 ?_
              refine mx_il2 d_Mo_has_119 ?_
              refine mx_putI d_Mo_has_120 fl_Mo_87 (by assumption) ?_
              have k1 : (decide (p < L) && tq_w f p (tq_lz f L p) w) = true := tq_w_y (by omega) (by omega) hinv
              refine mx_in_1 d_Mo_has_123 ?_
              exact mx_zret d_Mo_has_124 rfl (by first | exact Or.inl rfl | exact Or.inr rfl) (mx_ri_of2 (by rw [k1]; rfl) (by rw [mu_u, k1, show p + (tq_lz f L p - p) = tq_lz f L p by omega]; rfl))
          · skip
            have k0 : (decide (p < L) && tq_w f p (tq_lz f L p) w) = false := tq_w_n1 (by omega)
            refine mx_in_0 d_Mo_has_80 ?_
            exact mx_zret d_Mo_has_81 rfl (by first | exact Or.inl rfl | exact Or.inr rfl) (mx_ri_of2 (by rw [k0]; rfl) (by rw [k0]; rfl))
        · skip
          refine mx_al0 d_Mo_has_46 ?_
          refine mx_il2 d_Mo_has_47 ?_
          refine mx_cV1i d_Mo_has_48 (c_Mo_letter hM (hx.up (by omega)) (by omega)) ok_Mo_letter ml_Mo_93 (by assumption) ⟨rfl, rfl⟩ (by decide) (Nat.le_of_ble_eq_true rfl) ?_
          refine mx_bip 97 d_Mo_has_51 (by decide) ?_
          refine mx_bip 122 d_Mo_has_53 (by decide) ?_
          refine mx_cS3i d_Mo_has_55 (c_Mo_isInL (by omega)) ok_Mo_isIn ml_Mo_57 (by decide) (Nat.le_of_ble_eq_true rfl) ?_
          refine mx_ifB_eq 67 d_Mo_has_58 (by decide) (fun c_58 => ?_) (fun c_58 => absurd c_58 (by rw [hout (by omega)]; decide))
          refine mx_il2 d_Mo_has_67 ?_
          refine mx_al0 d_Mo_has_68 ?_
          refine mx_getI d_Mo_has_69 fl_Mo_87 (by assumption) ?_
          refine mx_ti (y := nI (p)) (mu_e) ?_
          refine mx_isubN d_Mo_has_72 (by omega) ?_
          refine mx_al1 d_Mo_has_73 ?_
          refine sx_call0 d_Mo_has_74 hi (c_Sx_length hi) ok_Jd_String_length ml_Mo_106 rfl (by decide) (Nat.le_of_ble_eq_true rfl) ?_
          refine mx_icN_eq 82 d_Mo_has_77 (by decide) (by omega) (by omega) (fun c_77 => ?_) (fun c_77 => ?_)
          · skip
            refine mx_in_0 d_Mo_has_82 ?_
            refine mx_is3 d_Mo_has_83 ?_
            refine mx_loopI (N := w.length) (fun q9 => ∀ j, j < q9 → f (p + j) = w.getD j 0) (ls := fun q9 => [some (.ref (mo)), some (.ref (mx_aK E i)), some (.int (nI (p + (tq_lz f L p - p)))), some (.int (nI (q9)))]) (X := fun q9 => (t, S, (mx_up I mo 11 (nI (p))), P, J)) (fun j hj => absurd hj (by omega)) (fun q9 hq9 hinv ih => ?_) (fun hinv => ?_)
            · try dsimp only at hinv ih ⊢
              refine mx_il3 d_Mo_has_84 ?_
              refine mx_al1 d_Mo_has_85 ?_
              refine sx_call0 d_Mo_has_86 hi (c_Sx_length hi) ok_Jd_String_length ml_Mo_106 rfl (by decide) (Nat.le_of_ble_eq_true rfl) ?_
              refine mx_icN_ge 118 d_Mo_has_89 (by decide) (by omega) (by omega) (fun c_89 => absurd c_89 (by omega)) (fun c_89 => ?_)
              have hf8 := hx.2.2.1 (p + q9) (by omega)
              have hw9 := (hw.2 q9 (by omega)).2
              refine mx_al0 d_Mo_has_92 ?_
              refine mx_al0 d_Mo_has_93 ?_
              refine mx_getI d_Mo_has_94 fl_Mo_87 (by assumption) ?_
              refine mx_ti (y := nI (p)) (mu_e) ?_
              refine mx_il3 d_Mo_has_97 ?_
              refine mx_iaddN d_Mo_has_98 ?_
              refine mx_cV1i d_Mo_has_99 (c_Mo_letter hM (hx.up (by omega)) (by omega)) ok_Mo_letter ml_Mo_93 (by assumption) ⟨rfl, rfl⟩ (by decide) (Nat.le_of_ble_eq_true rfl) ?_
              refine mx_al1 d_Mo_has_102 ?_
              refine mx_il3 d_Mo_has_103 ?_
              refine sx_call1 d_Mo_has_104 hi (c_Sx_charAt (j := q9) hi (by omega)) ok_Jd_String_charAt ml_Mo_100 rfl (by decide) (Nat.le_of_ble_eq_true rfl) ?_
              refine mx_ti (y := nI (w.getD q9 0)) ((hw.2 q9 (by omega)).1) ?_
              refine mx_icN_eq 112 d_Mo_has_107 (by decide) (by omega) (by omega) (fun c_107 => ?_) (fun c_107 => ?_)
              · skip
                refine mx_iN3 d_Mo_has_112 ?_
                refine mx_goto 84 d_Mo_has_115 (by decide) ?_
                exact ih (vs_nextT hinv c_107)
              · skip
                have k0 : (decide (p < L) && tq_w f p (tq_lz f L p) w) = false := tq_w_n2 (j := q9) (by omega) c_107
                refine mx_in_0 d_Mo_has_110 ?_
                exact mx_zret d_Mo_has_111 rfl (by first | exact Or.inl rfl | exact Or.inr rfl) (mx_ri_of2 (by rw [k0]; rfl) (by rw [k0]; rfl))
            · try dsimp only at hinv ⊢
              refine mx_il3 d_Mo_has_84 ?_
              refine mx_al1 d_Mo_has_85 ?_
              refine sx_call0 d_Mo_has_86 hi (c_Sx_length hi) ok_Jd_String_length ml_Mo_106 rfl (by decide) (Nat.le_of_ble_eq_true rfl) ?_
              refine mx_icN_ge 118 d_Mo_has_89 (by decide) (by omega) (by omega) (fun c_89 => ?_) (fun c_89 => absurd c_89 (by omega))
              refine mx_al0 d_Mo_has_118 ?_
              refine mx_il2 d_Mo_has_119 ?_
              refine mx_putI d_Mo_has_120 fl_Mo_87 (by assumption) ?_
              have k1 : (decide (p < L) && tq_w f p (tq_lz f L p) w) = true := tq_w_y (by omega) (by omega) hinv
              refine mx_in_1 d_Mo_has_123 ?_
              exact mx_zret d_Mo_has_124 rfl (by first | exact Or.inl rfl | exact Or.inr rfl) (mx_ri_of2 (by rw [k1]; rfl) (by rw [mu_u, k1, show p + (tq_lz f L p - p) = tq_lz f L p by omega]; rfl))
          · skip
            have k0 : (decide (p < L) && tq_w f p (tq_lz f L p) w) = false := tq_w_n1 (by omega)
            refine mx_in_0 d_Mo_has_80 ?_
            exact mx_zret d_Mo_has_81 rfl (by first | exact Or.inl rfl | exact Or.inr rfl) (mx_ri_of2 (by rw [k0]; rfl) (by rw [k0]; rfl))
    · skip
      have k0 : (decide (p < L) && tq_w f p (tq_lz f L p) w) = false := tq_w_n2 (j := 0) h0 c_28
      refine mx_in_0 d_Mo_has_31 ?_
      exact mx_zret d_Mo_has_32 rfl (by first | exact Or.inl rfl | exact Or.inr rfl) (mx_ri_of2 (by rw [k0]; rfl) (by rw [k0]; rfl))
/-- the reference stands ahead of the token c, and nothing is wrong -/
def mt_cur (I : mx_I) (mo : Nat) (f : Nat → Nat) (L c : Nat) : Prop := ∃ a, I mo 11 = nI a ∧ a ≤ L ∧ tq_sk f L a = tq_b f L c ∧ c ≤ tq_n f L
def mt_off (I K : mx_I) (mo : Nat) : Prop := (∀ c, c ≠ mo → K c = I c) ∧ ∀ k, k ≠ 11 → k ≠ 12 → K mo k = I mo k
theorem mt_off.rf : mt_off I I mo := ⟨fun _ _ => rfl, fun _ _ _ => rfl⟩
theorem mt_off.tr {K2 : mx_I} (h : mt_off I K mo) (h2 : mt_off K K2 mo) : mt_off I K2 mo := ⟨fun c hc => (h2.1 c hc).trans (h.1 c hc), fun k a b => (h2.2 k a b).trans (h.2 k a b)⟩
theorem mt_off.u (h : mt_off I K mo) (hk : k = 11 ∨ k = 12) : mt_off I (mx_up K mo k v) mo := ⟨fun c hc => by rw [← h.1 c hc, mx_up_ne hc], fun j h1 h2 => by rw [← h.2 j h1 h2]; simp [mx_up, show j ≠ k by omega]⟩
theorem mt_off.tx (h : mt_off I K mo) (hx : mt_tx I mo f L) : mt_tx K mo f L := hx.of (h.1 _ (by omega)) (h.1 _ (by omega)) (h.2 9 (by omega) (by omega)) (h.2 10 (by omega) (by omega))
/-- what a reader leaves: nothing wrong, and the token that comes next; or where it is wrong -/
def mt_out (I K : mx_I) (mo : Nat) (f : Nat → Nat) (L : Nat) (r : Nat ⊕ Nat) : Prop := mt_off I K mo ∧ match r with
  | .inl e => K mo 12 = nI (tq_b f L e) ∧ ∃ a, K mo 11 = nI a ∧ a ≤ 500
  | .inr c => K mo 12 = -1 ∧ mt_cur K mo f L c
theorem mt_cur.up12 {x : Int32} (h : mt_cur I mo f L c) : mt_cur (mx_up I mo 12 x) mo f L c := by
  obtain ⟨a, h1, h2⟩ := h
  exact ⟨a, by simp [mx_up, h1], h2⟩
theorem mt_cur_en (hc : c < tq_n f L) : mt_cur (mx_up I mo 11 (nI (tq_en f L (tq_b f L c)))) mo f L (c + 1) := by
  have hb := tq_T_iff.mpr hc
  exact ⟨_, mu_e, (tq_en_gt hb).2, (tq_bs hb).symm, hc⟩
theorem mt_cur_b (hc : c ≤ tq_n f L) : mt_cur (mx_up I mo 11 (nI (tq_b f L c))) mo f L c := by
  refine ⟨_, mu_e, tq_bL f L c, ?_, hc⟩
  cases c with
  | zero =>
    show tq_sk f L (tq_sk f L 0) = tq_sk f L 0
    rcases Nat.lt_or_ge (tq_sk f L 0) L with q | q
    · exact tq_at (decide_eq_false (tq_sk_out q))
    · exact tq_end q
  | succ c =>
    have hb := tq_T_iff.mpr (show c < tq_n f L by omega)
    rw [tq_bs hb]
    rcases Nat.lt_or_ge (tq_sk f L (tq_en f L (tq_b f L c))) L with q | q
    · exact tq_at (decide_eq_false (tq_sk_out q))
    · exact tq_end q
theorem c_Mo_isSign (hM : mo_ok S P mo) (hx : mt_tx I mo f L) (hcu : mt_cur I mo f L c) {q : Nat × Nat} (hq : q ∈ tq_SL) : mx_C l E M_Mo_isSign 2 0 0 [.ref (mo), .int (nI q.1)] (t, S, I, P, J) (mx_ri (bI (decide (tK f L c = q.2))) (t, S, mx_up I mo 11 (nI (tq_b f L c)), P, J)) := by
  obtain ⟨a, h1, h2, h3, -⟩ := hcu
  have hL := hx.2.1
  have hq1 : q.1 < 128 := by revert q; decide
  have h := c_Mo_isSignP (l := l) (E := E) (t := t) (J := J) hM hx h1 (by omega) hq1
  rw [h3] at h
  have e : (decide (tq_b f L c < L) && decide (f (tq_b f L c) = q.1)) = decide (tK f L c = q.2) := by
    rw [← Bool.decide_and]
    exact decide_eq_decide.mpr (tq_ks hq).symm
  rw [e] at h
  exact h
theorem c_Mo_has (hM : mo_ok S P mo) (hx : mt_tx I mo f L) (hcu : mt_cur I mo f L c) {q : List Nat × Nat} (hq : q ∈ tq_WL) (hi : i < 69) (hw : sx_w i q.1) : mx_C l E M_Mo_has 4 0 0 [.ref (mo), .ref (mx_aK E i)] (t, S, I, P, J) (mx_ri (bI (decide (tK f L c = q.2))) (t, S, mx_up I mo 11 (nI (if tK f L c = q.2 then tq_en f L (tq_b f L c) else tq_b f L c)), P, J)) := by
  obtain ⟨a, h1, h2, h3, -⟩ := hcu
  have hL := hx.2.1
  have hq3 := tq_WL3 q hq
  have hl0 : tq_l (q.1.getD 0 0) = true := by
    rw [List.getD_eq_getElem?_getD, List.getElem?_eq_getElem hq3.2.2.2.1]
    have := hq3.2.2.2.2 _ (List.getElem_mem hq3.2.2.2.1)
    show tq_l (q.1[0]'hq3.2.2.2.1) = true
    exact tq_l_of (by omega) (by omega)
  have h := c_Mo_hasP (l := l) (E := E) (t := t) (J := J) hM hx h1 (by omega) hw hi hq3.2.2.2.1 hl0 h3
  have e : (decide (tq_b f L c < L) && tq_w f (tq_b f L c) (tq_lz f L (tq_b f L c)) q.1) = decide (tK f L c = q.2) := by
    by_cases d : tK f L c = q.2
    · obtain ⟨g1, g2, g3⟩ := (tq_kw hq).mp d
      rw [decide_eq_true d, decide_eq_true g1, Bool.true_and]
      rw [show tq_en f L (tq_b f L c) = tq_lz f L (tq_b f L c) from if_pos g2] at g3
      exact g3
    · rw [decide_eq_false d]
      cases z : (decide (tq_b f L c < L) && tq_w f (tq_b f L c) (tq_lz f L (tq_b f L c)) q.1) with
      | false => rfl
      | true =>
        rw [Bool.and_eq_true, decide_eq_true_iff] at z
        have g2 : tq_l (f (tq_b f L c)) = true := by
          have z2 := z.2
          unfold tq_w at z2
          rw [Bool.and_eq_true, decide_eq_true_iff, decide_eq_true_iff] at z2
          have := z2.2 0 hq3.2.2.2.1
          rw [Nat.add_zero] at this
          rw [this]; exact hl0
        exact absurd ((tq_kw hq).mpr ⟨z.1, g2, by rw [show tq_en f L (tq_b f L c) = tq_lz f L (tq_b f L c) from if_pos g2]; exact z.2⟩) d
  rw [e] at h
  by_cases d : tK f L c = q.2
  · obtain ⟨g1, g2, g3⟩ := (tq_kw hq).mp d
    rw [decide_eq_true d] at h ⊢
    rw [if_pos rfl] at h
    rw [if_pos d, show tq_en f L (tq_b f L c) = tq_lz f L (tq_b f L c) from if_pos g2]
    exact h
  · rw [decide_eq_false d] at h ⊢
    rw [if_neg (by simp)] at h
    rw [if_neg d]
    exact h
/-- the figures that the reference reads: no more than 4 -/
def fg_n (f : Nat → Nat) (L p : Nat) : Nat := min (tq_fe f L p - p) 4
def fg_v (f : Nat → Nat) (L p : Nat) : Nat := tq_nm f p (fg_n f L p)
theorem fg_in {j : Nat} (h : j < fg_n f L p) : tq_f (f (p + j)) = true := tq_in (p := fun q => tq_f (f q)) (L := L) (a := p) (by omega) (by unfold fg_n tq_fe at h; omega)
theorem fg_lt : fg_v f L p < 10000 := Nat.lt_of_lt_of_le (tq_nm_lt (fun i hi => fg_in hi)) (Nat.pow_le_pow_right (n := 10) (by omega) (show fg_n f L p ≤ 4 by unfold fg_n; omega))
theorem fg_fe (hp : p ≤ L) : p ≤ tq_fe f L p ∧ tq_fe f L p ≤ L := ⟨tq_ge _ L p, tq_le hp⟩
/-- the figures are no good number -/
theorem fg_bad {lo hb : Nat} (h : fg_n f L (tq_b f L c) = 0 ∨ 3 < fg_n f L (tq_b f L c) ∨ fg_v f L (tq_b f L c) < lo ∨ hb ≤ fg_v f L (tq_b f L c)) : gq_num (tK f L) (tV f L) lo hb c = .inl c := by
  unfold gq_num
  split
  · rename_i h2
    obtain ⟨g1, g2⟩ := tq_k2.mp h2
    have nl : ¬ tq_l (f (tq_b f L c)) = true := fun z => by rw [tq_lf z] at g2; cases g2
    have en : tq_en f L (tq_b f L c) = tq_fe f L (tq_b f L c) := by unfold tq_en; rw [if_neg nl, if_pos g2]
    have hgt := (tq_en_gt (f := f) g1).1
    rw [en] at hgt
    by_cases c3 : tq_fe f L (tq_b f L c) - tq_b f L c ≤ 3
    · have ev : tV f L c = some (tq_nm f (tq_b f L c) (tq_fe f L (tq_b f L c) - tq_b f L c)) := by
        show tq_v f L (tq_b f L c) = _
        unfold tq_v
        rw [if_pos g1, if_neg nl, en, if_pos ⟨g2, c3⟩]
      have en2 : fg_n f L (tq_b f L c) = tq_fe f L (tq_b f L c) - tq_b f L c := by unfold fg_n; omega
      have hv : fg_v f L (tq_b f L c) = tq_nm f (tq_b f L c) (tq_fe f L (tq_b f L c) - tq_b f L c) := by unfold fg_v; rw [en2]
      rw [ev]
      simp only
      rw [← hv, if_neg (by omega)]
    · have ev : tV f L c = none := by
        show tq_v f L (tq_b f L c) = _
        unfold tq_v
        rw [if_pos g1, if_neg nl, en, if_neg (fun z => c3 z.2)]
      rw [ev]
  · rfl
theorem fg_good {lo hb : Nat} (h0 : 0 < fg_n f L (tq_b f L c)) (h3 : fg_n f L (tq_b f L c) ≤ 3) (hl : lo ≤ fg_v f L (tq_b f L c)) (hh : fg_v f L (tq_b f L c) < hb) (hc : c ≤ tq_n f L) : gq_num (tK f L) (tV f L) lo hb c = .inr (fg_v f L (tq_b f L c), c + 1) ∧ tq_b f L c + fg_n f L (tq_b f L c) = tq_en f L (tq_b f L c) ∧ c < tq_n f L := by
  have hbL := tq_bL f L c
  have hfe := fg_fe (f := f) hbL
  have en2 : fg_n f L (tq_b f L c) = tq_fe f L (tq_b f L c) - tq_b f L c := by unfold fg_n at h3 ⊢; omega
  have g2 : tq_f (f (tq_b f L c)) = true := fg_in (j := 0) h0
  have g1 : tq_b f L c < L := by omega
  have nl : ¬ tq_l (f (tq_b f L c)) = true := fun z => by rw [tq_lf z] at g2; cases g2
  have en : tq_en f L (tq_b f L c) = tq_fe f L (tq_b f L c) := by unfold tq_en; rw [if_neg nl, if_pos g2]
  have hv : fg_v f L (tq_b f L c) = tq_nm f (tq_b f L c) (tq_fe f L (tq_b f L c) - tq_b f L c) := by unfold fg_v; rw [en2]
  refine ⟨?_, by omega, tq_T_iff.mp g1⟩
  unfold gq_num
  have ev : tV f L c = some (fg_v f L (tq_b f L c)) := by
    show tq_v f L (tq_b f L c) = _
    unfold tq_v
    rw [if_pos g1, if_neg nl, en, if_pos ⟨g2, by omega⟩, hv]
  rw [if_pos (show tK f L c = 2 from tq_k2.mpr ⟨g1, g2⟩), ev]
  simp only
  rw [if_pos ⟨hl, hh⟩]
theorem fg_out_bad {n : Nat} (hn : n ≤ 4) (hp : p ≤ 400) (hb : p = tq_b f L c) : mt_out I (mx_up (mx_up I mo 11 (nI (p + n))) mo 12 (nI p)) mo f L (.inl c) := by
  subst hb
  exact ⟨(mt_off.rf.u (by omega)).u (by omega), mu_e, tq_b f L c + n, by simp [mx_up], by omega⟩
theorem fg_out_good {q : Nat} (hq : q = tq_en f L (tq_b f L c)) (hc : c < tq_n f L) (hf : I mo 12 = -1) : mt_out I (mx_up I mo 11 (nI q)) mo f L (.inr (c + 1)) := by
  subst hq
  exact ⟨mt_off.rf.u (by omega), by simp [mx_up, hf], mt_cur_en hc⟩
theorem c_Mo_figures0 (hM : mo_ok S P mo) (hx : mt_tx I mo f L) (hcu : mt_cur I mo f L c) (hf : I mo 12 = -1) {lo hb : Nat} {hi : Int32} (hlo : lo < 10000) (hhi : ∀ v, v < 10000 → (nI v ≤ hi ↔ v < hb))  : mx_C l E M_Mo_figures 3 0 0 [.ref (mo), .int (nI (lo)), .int (hi)] (t, S, I, P, J) (mx_sR (some (.int (nI (fg_v f L (tq_b f L c))))) t S P J (fun K => mt_out I K mo f L (gq_nx (gq_num (tK f L) (tV f L) lo hb c)))) := by
  obtain ⟨hM0, hMp1, hMp2, hMp4, hMp5, hMp7, hMp14, hMp21, hMp22, hMp23, hMp24, hMp25, hMp26, hMp27, hMs1, hMs2, hMs3, hMs4, hMs5, hMs6, hMs7, hMs8, hMs9, hMs10, hMs11, hMs12, hMs13⟩ := id hM
  obtain ⟨a, hat, haL, h3, hcT⟩ := id hcu
  have hL := hx.2.1
  have hpL := tq_bL f L c
  have hh := c_Mo_here (l := l) (E := E) (t := t) (J := J) hM hx hat (by omega)
  rw [h3] at hh
  refine mx_C_of (ls0 := [some (.ref (mo)), some (.int (nI (lo))), some (.int (hi)), none, none]) (by decide +kernel) rfl rfl (Nat.le_of_ble_eq_true rfl) rfl ?_
  refine mx_al0 d_Mo_figures_0 ?_
  refine mx_getI d_Mo_figures_1 fl_Mo_25 (by assumption) ?_
  refine mx_ti (y := (-1)) (hf) ?_
  refine mx_ic_m1 d_Mo_figures_4 ?_
  refine mx_icmp_eq 10 d_Mo_figures_5 (by decide) (fun c_5 => ?_) (fun c_5 => absurd c_5 (fun z => z rfl))
  refine mx_al0 d_Mo_figures_10 ?_
  refine mx_cV0i d_Mo_figures_11 (hh) ok_Mo_here ml_Mo_110 (by assumption) ⟨rfl, rfl⟩ (by decide) (Nat.le_of_ble_eq_true rfl) ?_
  refine mx_is3 d_Mo_figures_14 ?_
  refine mx_in_0 d_Mo_figures_15 ?_
  refine mx_is4 d_Mo_figures_16 ?_
  refine mx_lsc (congrArg (fun z9 => ([some (.ref (mo)), some (.int (nI (lo))), some (.int (hi)), some (.int (nI (tq_b f L c))), some (.int (z9))] : List (Option Value))) ((show nI 0 = nI (tq_nm f (tq_b f L c) 0) from rfl))) ?_
  refine mx_loop (N := fg_n f L (tq_b f L c)) (ls := fun k9 => [some (.ref (mo)), some (.int (nI (lo))), some (.int (hi)), some (.int (nI (tq_b f L c))), some (.int (nI (tq_nm f (tq_b f L c) k9)))]) (X := fun k9 => (t, S, (mx_up I mo 11 (nI (tq_b f L c + k9))), P, J)) (fun k9 hk9 ih => ?_) ?_
  · try dsimp only
    have hfk := fg_fe (f := f) hpL
    have hkn : k9 < min (tq_fe f L (tq_b f L c) - tq_b f L c) 4 := hk9
    have hin : tq_f (f (tq_b f L c + k9)) = true := fg_in (L := L) hk9
    have hf9 := hx.2.2.1 (tq_b f L c + k9) (by omega)
    refine mx_al0 d_Mo_figures_18 ?_
    refine mx_getI d_Mo_figures_19 fl_Mo_87 (by assumption) ?_
    refine mx_ti (y := nI (tq_b f L c + k9)) (mu_e) ?_
    refine mx_al0 d_Mo_figures_22 ?_
    refine mx_getI d_Mo_figures_23 fl_Mo_90 (by assumption) ?_
    refine mx_ti (y := nI (L)) (((hx.up (by omega)).1)) ?_
    refine mx_icN_ge 89 d_Mo_figures_26 (by decide) (by omega) (by omega) (fun c_26 => absurd c_26 (by omega)) (fun c_26 => ?_)
    refine mx_al0 d_Mo_figures_29 ?_
    refine mx_al0 d_Mo_figures_30 ?_
    refine mx_getI d_Mo_figures_31 fl_Mo_87 (by assumption) ?_
    refine mx_ti (y := nI (tq_b f L c + k9)) (mu_e) ?_
    refine mx_cV1i d_Mo_figures_34 (c_Mo_letter hM (hx.up (by omega)) (by omega)) ok_Mo_letter ml_Mo_93 (by assumption) ⟨rfl, rfl⟩ (by decide) (Nat.le_of_ble_eq_true rfl) ?_
    refine mx_bip 48 d_Mo_figures_37 (by decide) ?_
    refine mx_bip 57 d_Mo_figures_39 (by decide) ?_
    refine mx_cS3i d_Mo_figures_41 (c_Mo_isInF (by omega)) ok_Mo_isIn ml_Mo_57 (by decide) (Nat.le_of_ble_eq_true rfl) ?_
    refine mx_ifB_eq 89 d_Mo_figures_44 (by decide) (fun c_44 => absurd c_44 (by rw [hin]; decide)) (fun c_44 => ?_)
    refine mx_al0 d_Mo_figures_47 ?_
    refine mx_getI d_Mo_figures_48 fl_Mo_87 (by assumption) ?_
    refine mx_ti (y := nI (tq_b f L c + k9)) (mu_e) ?_
    refine mx_il3 d_Mo_figures_51 ?_
    refine mx_isubN d_Mo_figures_52 (by omega) ?_
    refine mx_in_3 d_Mo_figures_53 ?_
    have hf3 : fg_n f L (tq_b f L c) ≤ 4 := by unfold fg_n; omega
    refine mx_icN_gt 89 d_Mo_figures_54 (by decide) (by omega) (by omega) (fun c_54 => absurd c_54 (by omega)) (fun c_54 => ?_)
    refine mx_bip 10 d_Mo_figures_57 (by decide) ?_
    refine mx_il4 d_Mo_figures_59 ?_
    refine mx_imulN d_Mo_figures_61 ?_
    have hg9 := tq_f_v hin
    have hn9 : tq_nm f (tq_b f L c) k9 < 10 ^ k9 := tq_nm_lt (fun i hi => fg_in (L := L) (by omega))
    have hp9 : 10 ^ k9 ≤ 10 ^ 3 := Nat.pow_le_pow_right (by omega) (by omega)
    refine mx_al0 d_Mo_figures_62 ?_
    refine mx_al0 d_Mo_figures_63 ?_
    refine mx_getI d_Mo_figures_64 fl_Mo_87 (by assumption) ?_
    refine mx_ti (y := nI (tq_b f L c + k9)) (mu_e) ?_
    refine mx_cV1i d_Mo_figures_67 (c_Mo_letter hM (hx.up (by omega)) (by omega)) ok_Mo_letter ml_Mo_93 (by assumption) ⟨rfl, rfl⟩ (by decide) (Nat.le_of_ble_eq_true rfl) ?_
    refine mx_iaddN d_Mo_figures_70 ?_
    refine mx_bip 48 d_Mo_figures_71 (by decide) ?_
    refine mx_isubN d_Mo_figures_73 (by omega) ?_
    refine mx_is4 d_Mo_figures_74 ?_
    refine mx_al0 d_Mo_figures_76 ?_
    refine mx_dup d_Mo_figures_77 rfl ?_
    refine mx_getI d_Mo_figures_78 fl_Mo_87 (by assumption) ?_
    refine mx_ti (y := nI (tq_b f L c + k9)) (mu_e) ?_
    refine mx_in_1 d_Mo_figures_81 ?_
    refine mx_iaddN d_Mo_figures_82 ?_
    refine mx_putI d_Mo_figures_83 fl_Mo_87 (by assumption) ?_
    refine mx_goto 18 d_Mo_figures_86 (by decide) ?_
    have e4 : nI ((10 * (tq_nm f (tq_b f L c) k9) + (f (tq_b f L c + k9))) - 48) = nI (tq_nm f (tq_b f L c) (k9 + 1)) := by exact congrArg nI (show 10 * tq_nm f (tq_b f L c) k9 + f (tq_b f L c + k9) - 48 = 10 * tq_nm f (tq_b f L c) k9 + (f (tq_b f L c + k9) - 48) by omega)
    refine mx_lsc (congrArg (fun z9 => ([some (.ref (mo)), some (.int (nI (lo))), some (.int (hi)), some (.int (nI (tq_b f L c))), some (.int (z9))] : List (Option Value))) e4) ?_
    have eh2 : (mx_up (mx_up I mo 11 (nI (tq_b f L c + k9))) (mo) 11 (nI (tq_b f L c + k9 + 1))) = (mx_up I mo 11 (nI (tq_b f L c + (k9 + 1)))) := by rw [mu_u]; rfl
    rw [eh2]
    exact ih
  · try dsimp only
    have hfk := fg_fe (f := f) hpL
    have hfn : fg_n f L (tq_b f L c) = min (tq_fe f L (tq_b f L c) - tq_b f L c) 4 := rfl
    have hout : fg_n f L (tq_b f L c) < 4 → tq_b f L c + fg_n f L (tq_b f L c) < L → tq_f (f (tq_b f L c + fg_n f L (tq_b f L c))) = false := fun h9 h8 => by have h7 := tq_out (p := fun q => tq_f (f q)) (L := L) (a := tq_b f L c) (by show tq_fe f L (tq_b f L c) < L; omega); rw [show tq_b f L c + fg_n f L (tq_b f L c) = tq_fe f L (tq_b f L c) by omega]; exact h7
    have hf6 := fun h => hx.2.2.1 (tq_b f L c + fg_n f L (tq_b f L c)) h
    have hfl := fg_lt (f := f) (L := L) (p := tq_b f L c)
    have hfl2 : tq_nm f (tq_b f L c) (fg_n f L (tq_b f L c)) < 10000 := hfl
    refine mx_al0 d_Mo_figures_18 ?_
    refine mx_getI d_Mo_figures_19 fl_Mo_87 (by assumption) ?_
    refine mx_ti (y := nI (tq_b f L c + (fg_n f L (tq_b f L c)))) (mu_e) ?_
    refine mx_al0 d_Mo_figures_22 ?_
    refine mx_getI d_Mo_figures_23 fl_Mo_90 (by assumption) ?_
    refine mx_ti (y := nI (L)) (((hx.up (by omega)).1)) ?_
    refine mx_icN_ge 89 d_Mo_figures_26 (by decide) (by omega) (by omega) (fun c_26 => ?_) (fun c_26 => ?_)
    · skip
      refine mx_al0 d_Mo_figures_89 ?_
      refine mx_getI d_Mo_figures_90 fl_Mo_87 (by assumption) ?_
      refine mx_ti (y := nI (tq_b f L c + (fg_n f L (tq_b f L c)))) (mu_e) ?_
      refine mx_il3 d_Mo_figures_93 ?_
      refine mx_icN_eq 119 d_Mo_figures_94 (by decide) (by omega) (by omega) (fun c_94 => ?_) (fun c_94 => ?_)
      · skip
        have hq : gq_num (tK f L) (tV f L) lo hb c = .inl c := fg_bad (Or.inl (by omega))
        refine mx_al0 d_Mo_figures_119 ?_
        refine mx_il3 d_Mo_figures_120 ?_
        refine mx_cV1v d_Mo_figures_121 (c_Mo_wrong0 hM (by simp [mx_up, hf])) ok_Mo_wrong ml_Mo_113 (by assumption) ⟨rfl, rfl⟩ (by decide) (Nat.le_of_ble_eq_true rfl) ?_
        refine mx_il4 d_Mo_figures_124 ?_
        exact mx_iret d_Mo_figures_126 rfl (mx_sR_i rfl (by rw [hq]; exact fg_out_bad (by omega) (by omega) rfl))
      · skip
        refine mx_al0 d_Mo_figures_97 ?_
        refine mx_getI d_Mo_figures_98 fl_Mo_87 (by assumption) ?_
        refine mx_ti (y := nI (tq_b f L c + (fg_n f L (tq_b f L c)))) (mu_e) ?_
        refine mx_il3 d_Mo_figures_101 ?_
        refine mx_isubN d_Mo_figures_102 (by omega) ?_
        refine mx_in_3 d_Mo_figures_103 ?_
        refine mx_icN_gt 119 d_Mo_figures_104 (by decide) (by omega) (by omega) (fun c_104 => ?_) (fun c_104 => ?_)
        · skip
          have hq : gq_num (tK f L) (tV f L) lo hb c = .inl c := fg_bad (Or.inr (Or.inl (by omega)))
          refine mx_al0 d_Mo_figures_119 ?_
          refine mx_il3 d_Mo_figures_120 ?_
          refine mx_cV1v d_Mo_figures_121 (c_Mo_wrong0 hM (by simp [mx_up, hf])) ok_Mo_wrong ml_Mo_113 (by assumption) ⟨rfl, rfl⟩ (by decide) (Nat.le_of_ble_eq_true rfl) ?_
          refine mx_il4 d_Mo_figures_124 ?_
          exact mx_iret d_Mo_figures_126 rfl (mx_sR_i rfl (by rw [hq]; exact fg_out_bad (by omega) (by omega) rfl))
        · skip
          refine mx_il4 d_Mo_figures_107 ?_
          refine mx_il1 d_Mo_figures_109 ?_
          refine mx_icN_lt 119 d_Mo_figures_110 (by decide) (by omega) (by omega) (fun c_110 => ?_) (fun c_110 => ?_)
          · skip
            have hq : gq_num (tK f L) (tV f L) lo hb c = .inl c := fg_bad (Or.inr (Or.inr (Or.inl (by show tq_nm f (tq_b f L c) (fg_n f L (tq_b f L c)) < lo; omega))))
            refine mx_al0 d_Mo_figures_119 ?_
            refine mx_il3 d_Mo_figures_120 ?_
            refine mx_cV1v d_Mo_figures_121 (c_Mo_wrong0 hM (by simp [mx_up, hf])) ok_Mo_wrong ml_Mo_113 (by assumption) ⟨rfl, rfl⟩ (by decide) (Nat.le_of_ble_eq_true rfl) ?_
            refine mx_il4 d_Mo_figures_124 ?_
            exact mx_iret d_Mo_figures_126 rfl (mx_sR_i rfl (by rw [hq]; exact fg_out_bad (by omega) (by omega) rfl))
          · skip
            refine mx_il4 d_Mo_figures_113 ?_
            refine mx_il2 d_Mo_figures_115 ?_
            refine mx_icmp_le 124 d_Mo_figures_116 (by decide) (fun c_116 => ?_) (fun c_116 => ?_)
            · skip
              obtain ⟨hq, he1, he2⟩ := fg_good (f := f) (L := L) (c := c) (lo := lo) (hb := hb) (by omega) (by omega) (by show lo ≤ tq_nm f (tq_b f L c) (fg_n f L (tq_b f L c)); omega) ((hhi _ hfl).mp c_116) hcT
              refine mx_il4 d_Mo_figures_124 ?_
              exact mx_iret d_Mo_figures_126 rfl (mx_sR_i rfl (by rw [hq]; exact fg_out_good he1 he2 hf))
            · skip
              have hq : gq_num (tK f L) (tV f L) lo hb c = .inl c := fg_bad (Or.inr (Or.inr (Or.inr (Nat.not_lt.mp (fun z => c_116 ((hhi _ hfl).mpr z))))))
              refine mx_al0 d_Mo_figures_119 ?_
              refine mx_il3 d_Mo_figures_120 ?_
              refine mx_cV1v d_Mo_figures_121 (c_Mo_wrong0 hM (by simp [mx_up, hf])) ok_Mo_wrong ml_Mo_113 (by assumption) ⟨rfl, rfl⟩ (by decide) (Nat.le_of_ble_eq_true rfl) ?_
              refine mx_il4 d_Mo_figures_124 ?_
              exact mx_iret d_Mo_figures_126 rfl (mx_sR_i rfl (by rw [hq]; exact fg_out_bad (by omega) (by omega) rfl))
    · skip
      refine mx_al0 d_Mo_figures_29 ?_
      refine mx_al0 d_Mo_figures_30 ?_
      refine mx_getI d_Mo_figures_31 fl_Mo_87 (by assumption) ?_
      refine mx_ti (y := nI (tq_b f L c + (fg_n f L (tq_b f L c)))) (mu_e) ?_
      refine mx_cV1i d_Mo_figures_34 (c_Mo_letter hM (hx.up (by omega)) (by omega)) ok_Mo_letter ml_Mo_93 (by assumption) ⟨rfl, rfl⟩ (by decide) (Nat.le_of_ble_eq_true rfl) ?_
      refine mx_bip 48 d_Mo_figures_37 (by decide) ?_
      refine mx_bip 57 d_Mo_figures_39 (by decide) ?_
      refine mx_cS3i d_Mo_figures_41 (c_Mo_isInF (by omega)) ok_Mo_isIn ml_Mo_57 (by decide) (Nat.le_of_ble_eq_true rfl) ?_
      refine mx_ifB_eq 89 d_Mo_figures_44 (by decide) (fun c_44 => ?_) (fun c_44 => ?_)
      · skip
        refine mx_al0 d_Mo_figures_89 ?_
        refine mx_getI d_Mo_figures_90 fl_Mo_87 (by assumption) ?_
        refine mx_ti (y := nI (tq_b f L c + (fg_n f L (tq_b f L c)))) (mu_e) ?_
        refine mx_il3 d_Mo_figures_93 ?_
        refine mx_icN_eq 119 d_Mo_figures_94 (by decide) (by omega) (by omega) (fun c_94 => ?_) (fun c_94 => ?_)
        · skip
          have hq : gq_num (tK f L) (tV f L) lo hb c = .inl c := fg_bad (Or.inl (by omega))
          refine mx_al0 d_Mo_figures_119 ?_
          refine mx_il3 d_Mo_figures_120 ?_
          refine mx_cV1v d_Mo_figures_121 (c_Mo_wrong0 hM (by simp [mx_up, hf])) ok_Mo_wrong ml_Mo_113 (by assumption) ⟨rfl, rfl⟩ (by decide) (Nat.le_of_ble_eq_true rfl) ?_
          refine mx_il4 d_Mo_figures_124 ?_
          exact mx_iret d_Mo_figures_126 rfl (mx_sR_i rfl (by rw [hq]; exact fg_out_bad (by omega) (by omega) rfl))
        · skip
          refine mx_al0 d_Mo_figures_97 ?_
          refine mx_getI d_Mo_figures_98 fl_Mo_87 (by assumption) ?_
          refine mx_ti (y := nI (tq_b f L c + (fg_n f L (tq_b f L c)))) (mu_e) ?_
          refine mx_il3 d_Mo_figures_101 ?_
          refine mx_isubN d_Mo_figures_102 (by omega) ?_
          refine mx_in_3 d_Mo_figures_103 ?_
          refine mx_icN_gt 119 d_Mo_figures_104 (by decide) (by omega) (by omega) (fun c_104 => ?_) (fun c_104 => ?_)
          · skip
            have hq : gq_num (tK f L) (tV f L) lo hb c = .inl c := fg_bad (Or.inr (Or.inl (by omega)))
            refine mx_al0 d_Mo_figures_119 ?_
            refine mx_il3 d_Mo_figures_120 ?_
            refine mx_cV1v d_Mo_figures_121 (c_Mo_wrong0 hM (by simp [mx_up, hf])) ok_Mo_wrong ml_Mo_113 (by assumption) ⟨rfl, rfl⟩ (by decide) (Nat.le_of_ble_eq_true rfl) ?_
            refine mx_il4 d_Mo_figures_124 ?_
            exact mx_iret d_Mo_figures_126 rfl (mx_sR_i rfl (by rw [hq]; exact fg_out_bad (by omega) (by omega) rfl))
          · skip
            refine mx_il4 d_Mo_figures_107 ?_
            refine mx_il1 d_Mo_figures_109 ?_
            refine mx_icN_lt 119 d_Mo_figures_110 (by decide) (by omega) (by omega) (fun c_110 => ?_) (fun c_110 => ?_)
            · skip
              have hq : gq_num (tK f L) (tV f L) lo hb c = .inl c := fg_bad (Or.inr (Or.inr (Or.inl (by show tq_nm f (tq_b f L c) (fg_n f L (tq_b f L c)) < lo; omega))))
              refine mx_al0 d_Mo_figures_119 ?_
              refine mx_il3 d_Mo_figures_120 ?_
              refine mx_cV1v d_Mo_figures_121 (c_Mo_wrong0 hM (by simp [mx_up, hf])) ok_Mo_wrong ml_Mo_113 (by assumption) ⟨rfl, rfl⟩ (by decide) (Nat.le_of_ble_eq_true rfl) ?_
              refine mx_il4 d_Mo_figures_124 ?_
              exact mx_iret d_Mo_figures_126 rfl (mx_sR_i rfl (by rw [hq]; exact fg_out_bad (by omega) (by omega) rfl))
            · skip
              refine mx_il4 d_Mo_figures_113 ?_
              refine mx_il2 d_Mo_figures_115 ?_
              refine mx_icmp_le 124 d_Mo_figures_116 (by decide) (fun c_116 => ?_) (fun c_116 => ?_)
              · skip
                obtain ⟨hq, he1, he2⟩ := fg_good (f := f) (L := L) (c := c) (lo := lo) (hb := hb) (by omega) (by omega) (by show lo ≤ tq_nm f (tq_b f L c) (fg_n f L (tq_b f L c)); omega) ((hhi _ hfl).mp c_116) hcT
                refine mx_il4 d_Mo_figures_124 ?_
                exact mx_iret d_Mo_figures_126 rfl (mx_sR_i rfl (by rw [hq]; exact fg_out_good he1 he2 hf))
              · skip
                have hq : gq_num (tK f L) (tV f L) lo hb c = .inl c := fg_bad (Or.inr (Or.inr (Or.inr (Nat.not_lt.mp (fun z => c_116 ((hhi _ hfl).mpr z))))))
                refine mx_al0 d_Mo_figures_119 ?_
                refine mx_il3 d_Mo_figures_120 ?_
                refine mx_cV1v d_Mo_figures_121 (c_Mo_wrong0 hM (by simp [mx_up, hf])) ok_Mo_wrong ml_Mo_113 (by assumption) ⟨rfl, rfl⟩ (by decide) (Nat.le_of_ble_eq_true rfl) ?_
                refine mx_il4 d_Mo_figures_124 ?_
                exact mx_iret d_Mo_figures_126 rfl (mx_sR_i rfl (by rw [hq]; exact fg_out_bad (by omega) (by omega) rfl))
      · skip
        refine mx_al0 d_Mo_figures_47 ?_
        refine mx_getI d_Mo_figures_48 fl_Mo_87 (by assumption) ?_
        refine mx_ti (y := nI (tq_b f L c + (fg_n f L (tq_b f L c)))) (mu_e) ?_
        refine mx_il3 d_Mo_figures_51 ?_
        refine mx_isubN d_Mo_figures_52 (by omega) ?_
        refine mx_in_3 d_Mo_figures_53 ?_
        have hf3 : fg_n f L (tq_b f L c) ≤ 4 := by unfold fg_n; omega
        refine mx_icN_gt 89 d_Mo_figures_54 (by decide) (by omega) (by omega) (fun c_54 => ?_) (fun c_54 => absurd c_54 (fun z => by have h8 := hout (by omega) (by omega); rw [h8] at c_44; cases c_44))
        refine mx_al0 d_Mo_figures_89 ?_
        refine mx_getI d_Mo_figures_90 fl_Mo_87 (by assumption) ?_
        refine mx_ti (y := nI (tq_b f L c + (fg_n f L (tq_b f L c)))) (mu_e) ?_
        refine mx_il3 d_Mo_figures_93 ?_
        refine mx_icN_eq 119 d_Mo_figures_94 (by decide) (by omega) (by omega) (fun c_94 => ?_) (fun c_94 => ?_)
        · skip
          have hq : gq_num (tK f L) (tV f L) lo hb c = .inl c := fg_bad (Or.inl (by omega))
          refine mx_al0 d_Mo_figures_119 ?_
          refine mx_il3 d_Mo_figures_120 ?_
          refine mx_cV1v d_Mo_figures_121 (c_Mo_wrong0 hM (by simp [mx_up, hf])) ok_Mo_wrong ml_Mo_113 (by assumption) ⟨rfl, rfl⟩ (by decide) (Nat.le_of_ble_eq_true rfl) ?_
          refine mx_il4 d_Mo_figures_124 ?_
          exact mx_iret d_Mo_figures_126 rfl (mx_sR_i rfl (by rw [hq]; exact fg_out_bad (by omega) (by omega) rfl))
        · skip
          refine mx_al0 d_Mo_figures_97 ?_
          refine mx_getI d_Mo_figures_98 fl_Mo_87 (by assumption) ?_
          refine mx_ti (y := nI (tq_b f L c + (fg_n f L (tq_b f L c)))) (mu_e) ?_
          refine mx_il3 d_Mo_figures_101 ?_
          refine mx_isubN d_Mo_figures_102 (by omega) ?_
          refine mx_in_3 d_Mo_figures_103 ?_
          refine mx_icN_gt 119 d_Mo_figures_104 (by decide) (by omega) (by omega) (fun c_104 => ?_) (fun c_104 => ?_)
          · skip
            have hq : gq_num (tK f L) (tV f L) lo hb c = .inl c := fg_bad (Or.inr (Or.inl (by omega)))
            refine mx_al0 d_Mo_figures_119 ?_
            refine mx_il3 d_Mo_figures_120 ?_
            refine mx_cV1v d_Mo_figures_121 (c_Mo_wrong0 hM (by simp [mx_up, hf])) ok_Mo_wrong ml_Mo_113 (by assumption) ⟨rfl, rfl⟩ (by decide) (Nat.le_of_ble_eq_true rfl) ?_
            refine mx_il4 d_Mo_figures_124 ?_
            exact mx_iret d_Mo_figures_126 rfl (mx_sR_i rfl (by rw [hq]; exact fg_out_bad (by omega) (by omega) rfl))
          · skip
            refine mx_il4 d_Mo_figures_107 ?_
            refine mx_il1 d_Mo_figures_109 ?_
            refine mx_icN_lt 119 d_Mo_figures_110 (by decide) (by omega) (by omega) (fun c_110 => ?_) (fun c_110 => ?_)
            · skip
              have hq : gq_num (tK f L) (tV f L) lo hb c = .inl c := fg_bad (Or.inr (Or.inr (Or.inl (by show tq_nm f (tq_b f L c) (fg_n f L (tq_b f L c)) < lo; omega))))
              refine mx_al0 d_Mo_figures_119 ?_
              refine mx_il3 d_Mo_figures_120 ?_
              refine mx_cV1v d_Mo_figures_121 (c_Mo_wrong0 hM (by simp [mx_up, hf])) ok_Mo_wrong ml_Mo_113 (by assumption) ⟨rfl, rfl⟩ (by decide) (Nat.le_of_ble_eq_true rfl) ?_
              refine mx_il4 d_Mo_figures_124 ?_
              exact mx_iret d_Mo_figures_126 rfl (mx_sR_i rfl (by rw [hq]; exact fg_out_bad (by omega) (by omega) rfl))
            · skip
              refine mx_il4 d_Mo_figures_113 ?_
              refine mx_il2 d_Mo_figures_115 ?_
              refine mx_icmp_le 124 d_Mo_figures_116 (by decide) (fun c_116 => ?_) (fun c_116 => ?_)
              · skip
                obtain ⟨hq, he1, he2⟩ := fg_good (f := f) (L := L) (c := c) (lo := lo) (hb := hb) (by omega) (by omega) (by show lo ≤ tq_nm f (tq_b f L c) (fg_n f L (tq_b f L c)); omega) ((hhi _ hfl).mp c_116) hcT
                refine mx_il4 d_Mo_figures_124 ?_
                exact mx_iret d_Mo_figures_126 rfl (mx_sR_i rfl (by rw [hq]; exact fg_out_good he1 he2 hf))
              · skip
                have hq : gq_num (tK f L) (tV f L) lo hb c = .inl c := fg_bad (Or.inr (Or.inr (Or.inr (Nat.not_lt.mp (fun z => c_116 ((hhi _ hfl).mpr z))))))
                refine mx_al0 d_Mo_figures_119 ?_
                refine mx_il3 d_Mo_figures_120 ?_
                refine mx_cV1v d_Mo_figures_121 (c_Mo_wrong0 hM (by simp [mx_up, hf])) ok_Mo_wrong ml_Mo_113 (by assumption) ⟨rfl, rfl⟩ (by decide) (Nat.le_of_ble_eq_true rfl) ?_
                refine mx_il4 d_Mo_figures_124 ?_
                exact mx_iret d_Mo_figures_126 rfl (mx_sR_i rfl (by rw [hq]; exact fg_out_bad (by omega) (by omega) rfl))
theorem c_Mo_figuresX (hM : mo_ok S P mo) (hf : I mo 12 = nI e) (he : e < 1000) {lo hi : Int32}  : mx_C l E M_Mo_figures 3 0 0 [.ref (mo), .int (lo), .int (hi)] (t, S, I, P, J) (mx_ri (nI 0) (t, S, I, P, J)) := by
  obtain ⟨hM0, hMp1, hMp2, hMp4, hMp5, hMp7, hMp14, hMp21, hMp22, hMp23, hMp24, hMp25, hMp26, hMp27, hMs1, hMs2, hMs3, hMs4, hMs5, hMs6, hMs7, hMs8, hMs9, hMs10, hMs11, hMs12, hMs13⟩ := id hM
  refine mx_C_of (ls0 := [some (.ref (mo)), some (.int (lo)), some (.int (hi)), none, none]) (by decide +kernel) rfl rfl (Nat.le_of_ble_eq_true rfl) rfl ?_
  refine mx_al0 d_Mo_figures_0 ?_
  refine mx_getI d_Mo_figures_1 fl_Mo_25 (by assumption) ?_
  refine mx_ti (y := nI (e)) (hf) ?_
  refine mx_ic_m1 d_Mo_figures_4 ?_
  refine mx_icmp_eq 10 d_Mo_figures_5 (by decide) (fun c_5 => absurd c_5 (nI_m1b (by omega))) (fun c_5 => ?_)
  refine mx_in_0 d_Mo_figures_8 ?_
  exact mx_iret d_Mo_figures_9 rfl (mx_ri_of rfl)
def gq_aft (K : Nat → Nat) (V : Nat → Option Nat) (kw lo hb t : Nat) : Nat ⊕ (Nat × Nat) := if K t = kw then gq_num K V lo hb (t + 1) else .inl t
theorem tK_lt {c : Nat} {k : Nat} (h : tK f L c = k) (hk : 0 < k) : c < tq_n f L := tK_T (by omega)
theorem mt_out.of (h : mt_off I K mo) {K2 : mx_I} {r : Nat ⊕ Nat} (h2 : mt_out K K2 mo f L r) : mt_out I K2 mo f L r := ⟨h.tr h2.1, h2.2⟩
theorem c_Mo_after0 (hM : mo_ok S P mo) (hx : mt_tx I mo f L) (hcu : mt_cur I mo f L c) (hf : I mo 12 = -1) {q : List Nat × Nat} (hq : q ∈ tq_WL) (hi9 : i < 69) (hw : sx_w i q.1) {lo hb : Nat} {hi : Int32} (hlo : lo < 10000) (hhi : ∀ v, v < 10000 → (nI v ≤ hi ↔ v < hb))  : mx_C l E M_Mo_after 5 0 0 [.ref (mo), .ref (mx_aK E i), .int (nI (lo)), .int (hi)] (t, S, I, P, J) (mx_sR (some (.int (nI (if tK f L c = q.2 then fg_v f L (tq_b f L (c + 1)) else 0)))) t S P J (fun K => mt_out I K mo f L (gq_nx (gq_aft (tK f L) (tV f L) q.2 lo hb c)))) := by
  obtain ⟨hM0, hMp1, hMp2, hMp4, hMp5, hMp7, hMp14, hMp21, hMp22, hMp23, hMp24, hMp25, hMp26, hMp27, hMs1, hMs2, hMs3, hMs4, hMs5, hMs6, hMs7, hMs8, hMs9, hMs10, hMs11, hMs12, hMs13⟩ := id hM
  obtain ⟨a, hat, haL, h3, hcT⟩ := id hcu
  have hL := hx.2.1
  have hpL := tq_bL f L c
  have hq3 := tq_WL3 q hq
  refine mx_C_of (ls0 := [some (.ref (mo)), some (.ref (mx_aK E i)), some (.int (nI (lo))), some (.int (hi))]) (by decide +kernel) rfl rfl (Nat.le_of_ble_eq_true rfl) rfl ?_
  refine mx_al0 d_Mo_after_0 ?_
  refine mx_getI d_Mo_after_1 fl_Mo_25 (by assumption) ?_
  refine mx_ti (y := (-1)) (hf) ?_
  refine mx_ic_m1 d_Mo_after_4 ?_
  refine mx_icmp_ne 24 d_Mo_after_5 (by decide) (fun c_5 => absurd c_5 (fun z => z rfl)) (fun c_5 => ?_)
  refine mx_al0 d_Mo_after_8 ?_
  refine mx_al1 d_Mo_after_9 ?_
  refine mx_cV1i d_Mo_after_10 (c_Mo_has hM hx hcu hq hi9 hw) ok_Mo_has ml_Mo_117 (by assumption) ⟨rfl, rfl⟩ (by decide) (Nat.le_of_ble_eq_true rfl) ?_
  refine mx_ifB_ne 24 d_Mo_after_13 (by decide) (fun c_13 => ?_) (fun c_13 => ?_)
  · skip
    have hk : tK f L c = q.2 := of_decide_eq_true c_13
    have hlt := tK_lt hk (by omega)
    refine mx_al0 d_Mo_after_24 ?_
    refine mx_il2 d_Mo_after_25 ?_
    refine mx_il3 d_Mo_after_26 ?_
    refine mx_cV2iR d_Mo_after_27 (c_Mo_figures0 hM (hx.up (by omega)) (by rw [if_pos hk]; exact mt_cur_en hlt) (by simp [mx_up, hf]) hlo hhi) ok_Mo_figures ml_Mo_121 (by assumption) ⟨rfl, rfl⟩ (by decide) (Nat.le_of_ble_eq_true rfl) (fun K1 hK1 => ?_)
    exact mx_iret d_Mo_after_30 rfl (mx_sR_i (by rw [if_pos hk]) (by rw [show gq_aft (tK f L) (tV f L) q.2 lo hb c = gq_num (tK f L) (tV f L) lo hb (c + 1) from if_pos hk]; exact mt_out.of (mt_off.rf.u (by omega)) hK1))
  · skip
    have hk : ¬ tK f L c = q.2 := of_decide_eq_false c_13
    refine mx_al0 d_Mo_after_16 ?_
    refine mx_al0 d_Mo_after_17 ?_
    refine mx_getI d_Mo_after_18 fl_Mo_87 (by assumption) ?_
    refine mx_ti (y := nI (tq_b f L c)) (mu_e.trans (congrArg nI (if_neg hk))) ?_
    refine mx_cV1v d_Mo_after_21 (c_Mo_wrong0 hM (by simp [mx_up, hf])) ok_Mo_wrong ml_Mo_113 (by assumption) ⟨rfl, rfl⟩ (by decide) (Nat.le_of_ble_eq_true rfl) ?_
    refine mx_al0 d_Mo_after_24 ?_
    refine mx_il2 d_Mo_after_25 ?_
    refine mx_il3 d_Mo_after_26 ?_
    refine mx_cV2i d_Mo_after_27 (c_Mo_figuresX hM (e := tq_b f L c) mu_e (by omega)) ok_Mo_figures ml_Mo_121 (by assumption) ⟨rfl, rfl⟩ (by decide) (Nat.le_of_ble_eq_true rfl) ?_
    exact mx_iret d_Mo_after_30 rfl (mx_sR_i (by rw [if_neg hk]) (by rw [show gq_aft (tK f L) (tV f L) q.2 lo hb c = .inl c from if_neg hk]; exact ⟨(mt_off.rf.u (by omega)).u (by omega), mu_e, tq_b f L c, by simp [mx_up, show ¬ tq_k f L (tq_b f L c) = q.2 from hk], by omega⟩))
theorem c_Mo_afterX (hM : mo_ok S P mo) (hf : I mo 12 = nI e) (he : e < 1000) {lo hi : Int32}  : mx_C l E M_Mo_after 4 0 0 [.ref (mo), .ref (a), .int (lo), .int (hi)] (t, S, I, P, J) (mx_ri (nI 0) (t, S, I, P, J)) := by
  obtain ⟨hM0, hMp1, hMp2, hMp4, hMp5, hMp7, hMp14, hMp21, hMp22, hMp23, hMp24, hMp25, hMp26, hMp27, hMs1, hMs2, hMs3, hMs4, hMs5, hMs6, hMs7, hMs8, hMs9, hMs10, hMs11, hMs12, hMs13⟩ := id hM
  refine mx_C_of (ls0 := [some (.ref (mo)), some (.ref (a)), some (.int (lo)), some (.int (hi))]) (by decide +kernel) rfl rfl (Nat.le_of_ble_eq_true rfl) rfl ?_
  refine mx_al0 d_Mo_after_0 ?_
  refine mx_getI d_Mo_after_1 fl_Mo_25 (by assumption) ?_
  refine mx_ti (y := nI (e)) (hf) ?_
  refine mx_ic_m1 d_Mo_after_4 ?_
  refine mx_icmp_ne 24 d_Mo_after_5 (by decide) (fun c_5 => ?_) (fun c_5 => absurd c_5 (nI_m1b (by omega)))
  refine mx_al0 d_Mo_after_24 ?_
  refine mx_il2 d_Mo_after_25 ?_
  refine mx_il3 d_Mo_after_26 ?_
  refine mx_cV2i d_Mo_after_27 (c_Mo_figuresX hM hf he) ok_Mo_figures ml_Mo_121 (by assumption) ⟨rfl, rfl⟩ (by decide) (Nat.le_of_ble_eq_true rfl) ?_
  exact mx_iret d_Mo_after_30 rfl (mx_ri_of rfl)
/-- MARKS as the reference gathers them -/
def mq (f : Nat → Nat) (p : Nat) : Nat → Nat
  | 0 => 0
  | n + 1 => match tq_ms f p (n + 1) with | some s => s | none => mq f p n
theorem mq_s {n s : Nat} (h : tq_ms f p n = some s) : mq f p n = s := by
  cases n with
  | zero => cases h; rfl
  | succ n => show (match tq_ms f p (n + 1) with | some s => s | none => mq f p n) = s; rw [h]
theorem mq_n {n : Nat} (h : tq_ms f p (n + 1) = none) : mq f p (n + 1) = mq f p n := by show (match tq_ms f p (n + 1) with | some s => s | none => mq f p n) = _; rw [h]
theorem mq_lt : ∀ n, mq f p n < 64
  | 0 => by show 0 < 64; omega
  | n + 1 => by
    cases h : tq_ms f p (n + 1) with
    | some s => rw [mq_s h]; exact tq_ms_lt _ _ h
    | none => rw [mq_n h]; exact mq_lt n
theorem ms_y {n : Nat} (h : (tq_ms f p n).isSome = true) (c1 : f (p + n) - 97 < 6) (c2 : bt (nI (mq f p n)) (f (p + n) - 97) = false) : (tq_ms f p (n + 1)).isSome = true ∧ mq f p (n + 1) = bset (mq f p n) (f (p + n) - 97) := by
  obtain ⟨s, hs⟩ := Option.isSome_iff_exists.mp h
  have e := mq_s hs
  have h64 := mq_lt (f := f) (p := p) n
  have h3 : tq_ms f p (n + 1) = some (bset s (f (p + n) - 97)) := tq_ms_s hs (by omega) (by rw [← e, ← vs_bt_nI _ _ (by omega)]; exact c2)
  exact ⟨by rw [h3]; rfl, by rw [mq_s h3, e]⟩
theorem ms_n {n : Nat} (h : (tq_ms f p n).isSome = false ∨ ¬ f (p + n) - 97 < 6 ∨ bt (nI (mq f p n)) (f (p + n) - 97) = true) : (tq_ms f p (n + 1)).isSome = false ∧ mq f p (n + 1) = mq f p n := by
  have h3 : tq_ms f p (n + 1) = none := by
    cases hs : tq_ms f p n with
    | none => exact tq_ms_none hs (by omega)
    | some s =>
      have e := mq_s hs
      have h64 := mq_lt (f := f) (p := p) n
      rcases h with z | z | z
      · rw [hs] at z; cases z
      · exact tq_ms_n hs (Or.inl (by omega))
      · rw [vs_bt_nI _ _ (by omega), e] at z; exact tq_ms_n hs (Or.inr z)
  exact ⟨by rw [h3]; rfl, mq_n h3⟩
theorem ls5 {k : Nat} (h : k < 6) : (if nI 5 ≤ nI k then nI 5 else nI k) = nI k := (by decide +kernel : ∀ k, k < 6 → (if nI 5 ≤ nI k then nI 5 else nI k) = nI k) k h
theorem bset_and0 {s : Nat} (h : s < 256) : nI s ||| nI 0 = nI s := (by decide +kernel : ∀ s, s < 256 → nI s ||| nI 0 = nI s) s h
theorem lt_bad (h : tq_lz f L (tq_b f L c) - tq_b f L c = 0 ∨ (tq_ms f (tq_b f L c) (tq_lz f L (tq_b f L c) - tq_b f L c)).isSome = false) : gq_let (tK f L) (tV f L) c = .inl c := by
  unfold gq_let
  split
  · rename_i h9
    obtain ⟨g1, g2⟩ := tq_k9.mp h9
    have en : tq_en f L (tq_b f L c) = tq_lz f L (tq_b f L c) := if_pos g2
    have hgt := (tq_en_gt (f := f) g1).1
    rw [en] at hgt
    have hs := h.resolve_left (by omega)
    have ev : tV f L c = tq_ms f (tq_b f L c) (tq_lz f L (tq_b f L c) - tq_b f L c) := by
      show tq_v f L (tq_b f L c) = _
      unfold tq_v
      rw [if_pos g1, if_pos g2, en]
    rw [ev]
    cases z : tq_ms f (tq_b f L c) (tq_lz f L (tq_b f L c) - tq_b f L c) with
    | none => rfl
    | some s => rw [z] at hs; cases hs
  · rfl
theorem lt_good (h : ¬ tq_lz f L (tq_b f L c) - tq_b f L c = 0) (hs : (tq_ms f (tq_b f L c) (tq_lz f L (tq_b f L c) - tq_b f L c)).isSome = true) : gq_let (tK f L) (tV f L) c = .inr (mq f (tq_b f L c) (tq_lz f L (tq_b f L c) - tq_b f L c), c + 1) ∧ tq_lz f L (tq_b f L c) = tq_en f L (tq_b f L c) ∧ c < tq_n f L := by
  have hbL := tq_bL f L c
  have g2 : tq_l (f (tq_b f L c)) = true := tq_in (p := fun q => tq_l (f q)) (L := L) (a := tq_b f L c) (Nat.le_refl _) (by show tq_b f L c < tq_lz f L (tq_b f L c); omega)
  have hle : tq_lz f L (tq_b f L c) ≤ L := tq_le hbL
  have g1 : tq_b f L c < L := by omega
  have en : tq_en f L (tq_b f L c) = tq_lz f L (tq_b f L c) := if_pos g2
  obtain ⟨s, hs⟩ := Option.isSome_iff_exists.mp hs
  refine ⟨?_, en.symm, tq_T_iff.mp g1⟩
  unfold gq_let
  have ev : tV f L c = some s := by
    show tq_v f L (tq_b f L c) = _
    unfold tq_v
    rw [if_pos g1, if_pos g2, en, hs]
  rw [if_pos (show 9 ≤ tK f L c from tq_k9.mpr ⟨g1, g2⟩), ev, mq_s hs]
theorem lt_out_bad {n : Nat} (hn : tq_b f L c + n ≤ L) (hL : L ≤ 400) : mt_out I (mx_up (mx_up I mo 11 (nI (tq_b f L c + n))) mo 12 (nI (tq_b f L c))) mo f L (.inl c) := ⟨(mt_off.rf.u (by omega)).u (by omega), mu_e, tq_b f L c + n, by simp [mx_up], by omega⟩
theorem c_Mo_letters0 (hM : mo_ok S P mo) (hx : mt_tx I mo f L) (hcu : mt_cur I mo f L c) (hf : I mo 12 = -1)  : mx_C l E M_Mo_letters 3 0 0 [.ref (mo)] (t, S, I, P, J) (mx_sR (some (.int (nI (mq f (tq_b f L c) (tq_lz f L (tq_b f L c) - tq_b f L c))))) t S P J (fun K => mt_out I K mo f L (gq_nx (gq_let (tK f L) (tV f L) c)))) := by
  obtain ⟨hM0, hMp1, hMp2, hMp4, hMp5, hMp7, hMp14, hMp21, hMp22, hMp23, hMp24, hMp25, hMp26, hMp27, hMs1, hMs2, hMs3, hMs4, hMs5, hMs6, hMs7, hMs8, hMs9, hMs10, hMs11, hMs12, hMs13⟩ := id hM
  obtain ⟨a, hat, haL, h3, hcT⟩ := id hcu
  have hL := hx.2.1
  have hpL := tq_bL f L c
  have hh := c_Mo_here (l := l) (E := E) (t := t) (J := J) hM hx hat (by omega)
  rw [h3] at hh
  refine mx_C_of (ls0 := [some (.ref (mo)), none, none, none, none]) (by decide +kernel) rfl rfl (Nat.le_of_ble_eq_true rfl) rfl ?_
  refine mx_al0 d_Mo_letters_0 ?_
  refine mx_getI d_Mo_letters_1 fl_Mo_25 (by assumption) ?_
  refine mx_ti (y := (-1)) (hf) ?_
  refine mx_ic_m1 d_Mo_letters_4 ?_
  refine mx_icmp_eq 10 d_Mo_letters_5 (by decide) (fun c_5 => ?_) (fun c_5 => absurd c_5 (fun z => z rfl))
  refine mx_al0 d_Mo_letters_10 ?_
  refine mx_cV0i d_Mo_letters_11 (hh) ok_Mo_here ml_Mo_110 (by assumption) ⟨rfl, rfl⟩ (by decide) (Nat.le_of_ble_eq_true rfl) ?_
  refine mx_is1 d_Mo_letters_14 ?_
  refine mx_in_0 d_Mo_letters_15 ?_
  refine mx_is2 d_Mo_letters_16 ?_
  refine mx_in_1 d_Mo_letters_17 ?_
  refine mx_is3 d_Mo_letters_18 ?_
  refine mx_lsc (congrArg (fun z9 => ([some (.ref (mo)), some (.int (nI (tq_b f L c))), some (.int (z9)), some (.int (nI (1))), none] : List (Option Value))) ((show nI 0 = nI (mq f (tq_b f L c) (0)) from rfl))) ?_
  refine mx_lsc (congrArg (fun z9 => ([some (.ref (mo)), some (.int (nI (tq_b f L c))), some (.int (nI (mq f (tq_b f L c) (0)))), some (.int (z9)), none] : List (Option Value))) ((show nI 1 = bI ((tq_ms f (tq_b f L c) (0)).isSome) from rfl))) ?_
  refine mx_loop (N := tq_lz f L (tq_b f L c) - tq_b f L c) (ls := fun k9 => [some (.ref (mo)), some (.int (nI (tq_b f L c))), some (.int (nI (mq f (tq_b f L c) (k9)))), some (.int (bI ((tq_ms f (tq_b f L c) (k9)).isSome))), none]) (X := fun k9 => (t, S, (mx_up I mo 11 (nI (tq_b f L c + k9))), P, J)) (fun k9 hk9 ih => ?_) ?_
  · try dsimp only
    have hlk : tq_lz f L (tq_b f L c) ≤ L := tq_le hpL
    have hin : tq_l (f (tq_b f L c + k9)) = true := tq_in (p := fun q => tq_l (f q)) (L := L) (a := tq_b f L c) (by omega) (by show tq_b f L c + k9 < tq_lz f L (tq_b f L c); omega)
    have hf9 := hx.2.2.1 (tq_b f L c + k9) (by omega)
    refine mx_al0 d_Mo_letters_19 ?_
    refine mx_getI d_Mo_letters_20 fl_Mo_87 (by assumption) ?_
    refine mx_ti (y := nI (tq_b f L c + k9)) (mu_e) ?_
    refine mx_al0 d_Mo_letters_23 ?_
    refine mx_getI d_Mo_letters_24 fl_Mo_90 (by assumption) ?_
    refine mx_ti (y := nI (L)) (((hx.up (by omega)).1)) ?_
    refine mx_icN_ge 119 d_Mo_letters_27 (by decide) (by omega) (by omega) (fun c_27 => absurd c_27 (by omega)) (fun c_27 => ?_)
    refine mx_al0 d_Mo_letters_30 ?_
    refine mx_al0 d_Mo_letters_31 ?_
    refine mx_getI d_Mo_letters_32 fl_Mo_87 (by assumption) ?_
    refine mx_ti (y := nI (tq_b f L c + k9)) (mu_e) ?_
    refine mx_cV1i d_Mo_letters_35 (c_Mo_letter hM (hx.up (by omega)) (by omega)) ok_Mo_letter ml_Mo_93 (by assumption) ⟨rfl, rfl⟩ (by decide) (Nat.le_of_ble_eq_true rfl) ?_
    refine mx_bip 97 d_Mo_letters_38 (by decide) ?_
    refine mx_bip 122 d_Mo_letters_40 (by decide) ?_
    refine mx_cS3i d_Mo_letters_42 (c_Mo_isInL (by omega)) ok_Mo_isIn ml_Mo_57 (by decide) (Nat.le_of_ble_eq_true rfl) ?_
    refine mx_ifB_eq 119 d_Mo_letters_45 (by decide) (fun c_45 => absurd c_45 (by rw [hin]; decide)) (fun c_45 => ?_)
    refine mx_al0 d_Mo_letters_48 ?_
    refine mx_al0 d_Mo_letters_49 ?_
    refine mx_getI d_Mo_letters_50 fl_Mo_87 (by assumption) ?_
    have hg9 := tq_l_v hin
    refine mx_ti (y := nI (tq_b f L c + k9)) (mu_e) ?_
    refine mx_cV1i d_Mo_letters_53 (c_Mo_letter hM (hx.up (by omega)) (by omega)) ok_Mo_letter ml_Mo_93 (by assumption) ⟨rfl, rfl⟩ (by decide) (Nat.le_of_ble_eq_true rfl) ?_
    refine mx_bip 97 d_Mo_letters_56 (by decide) ?_
    refine mx_isubN d_Mo_letters_58 (by omega) ?_
    refine mx_is4 d_Mo_letters_59 ?_
    have hq64 := mq_lt (f := f) (p := tq_b f L c) k9
    refine mx_il3 d_Mo_letters_61 ?_
    refine mx_ifB_eq 89 d_Mo_letters_62 (by decide) (fun c_62 => ?_) (fun c_62 => ?_)
    · skip
      have hno : (tq_ms f (tq_b f L c) (k9)).isSome = false ∨ ¬ f (tq_b f L c + k9) - 97 < 6 ∨ bt (nI (mq f (tq_b f L c) (k9))) (f (tq_b f L c + k9) - 97) = true := Or.inl c_62
      refine mx_in_0 d_Mo_letters_89 ?_
      refine mx_is3 d_Mo_letters_90 ?_
      refine mx_il2 d_Mo_letters_91 ?_
      refine mx_il3 d_Mo_letters_92 ?_
      refine mx_if_eq 103 d_Mo_letters_93 (by decide) (fun c_93 => ?_) (fun c_93 => absurd (by decide) c_93)
      refine mx_in_0 d_Mo_letters_103 ?_
      refine mx_ior d_Mo_letters_104 ?_
      refine mx_ti (y := nI (mq f (tq_b f L c) (k9 + 1))) ((bset_and0 (by omega)).trans (congrArg nI (ms_n hno).2.symm)) ?_
      refine mx_is2 d_Mo_letters_105 ?_
      refine mx_al0 d_Mo_letters_106 ?_
      refine mx_dup d_Mo_letters_107 rfl ?_
      refine mx_getI d_Mo_letters_108 fl_Mo_87 (by assumption) ?_
      refine mx_ti (y := nI (tq_b f L c + k9)) (mu_e) ?_
      refine mx_in_1 d_Mo_letters_111 ?_
      refine mx_iaddN d_Mo_letters_112 ?_
      refine mx_putI d_Mo_letters_113 fl_Mo_87 (by assumption) ?_
      refine mx_goto 19 d_Mo_letters_116 (by decide) ?_
      refine mx_dn4 ?_
      have e2 : nI (mq f (tq_b f L c) (k9 + 1)) = nI (mq f (tq_b f L c) ((k9 + 1))) := by rfl
      refine mx_lsc (congrArg (fun z9 => ([some (.ref (mo)), some (.int (nI (tq_b f L c))), some (.int (z9)), some (.int (nI (0))), none] : List (Option Value))) e2) ?_
      have e3 : nI (0) = bI ((tq_ms f (tq_b f L c) ((k9 + 1))).isSome) := by first | (rw [(ms_n hno).1]; rfl) | (rw [(ms_y c_62 (by omega) c_82).1]; rfl)
      refine mx_lsc (congrArg (fun z9 => ([some (.ref (mo)), some (.int (nI (tq_b f L c))), some (.int (nI (mq f (tq_b f L c) ((k9 + 1))))), some (.int (z9)), none] : List (Option Value))) e3) ?_
      have eh2 : (mx_up (mx_up I mo 11 (nI (tq_b f L c + k9))) (mo) 11 (nI (tq_b f L c + k9 + 1))) = (mx_up I mo 11 (nI (tq_b f L c + (k9 + 1)))) := by rw [mu_u]; rfl
      rw [eh2]
      exact ih
    · skip
      refine mx_il4 d_Mo_letters_65 ?_
      refine mx_bip 6 d_Mo_letters_67 (by decide) ?_
      refine mx_icN_ge 89 d_Mo_letters_69 (by decide) (by omega) (by omega) (fun c_69 => ?_) (fun c_69 => ?_)
      · skip
        have hno : (tq_ms f (tq_b f L c) (k9)).isSome = false ∨ ¬ f (tq_b f L c + k9) - 97 < 6 ∨ bt (nI (mq f (tq_b f L c) (k9))) (f (tq_b f L c + k9) - 97) = true := Or.inr (Or.inl (by omega))
        refine mx_in_0 d_Mo_letters_89 ?_
        refine mx_is3 d_Mo_letters_90 ?_
        refine mx_il2 d_Mo_letters_91 ?_
        refine mx_il3 d_Mo_letters_92 ?_
        refine mx_if_eq 103 d_Mo_letters_93 (by decide) (fun c_93 => ?_) (fun c_93 => absurd (by decide) c_93)
        refine mx_in_0 d_Mo_letters_103 ?_
        refine mx_ior d_Mo_letters_104 ?_
        refine mx_ti (y := nI (mq f (tq_b f L c) (k9 + 1))) ((bset_and0 (by omega)).trans (congrArg nI (ms_n hno).2.symm)) ?_
        refine mx_is2 d_Mo_letters_105 ?_
        refine mx_al0 d_Mo_letters_106 ?_
        refine mx_dup d_Mo_letters_107 rfl ?_
        refine mx_getI d_Mo_letters_108 fl_Mo_87 (by assumption) ?_
        refine mx_ti (y := nI (tq_b f L c + k9)) (mu_e) ?_
        refine mx_in_1 d_Mo_letters_111 ?_
        refine mx_iaddN d_Mo_letters_112 ?_
        refine mx_putI d_Mo_letters_113 fl_Mo_87 (by assumption) ?_
        refine mx_goto 19 d_Mo_letters_116 (by decide) ?_
        refine mx_dn4 ?_
        have e2 : nI (mq f (tq_b f L c) (k9 + 1)) = nI (mq f (tq_b f L c) ((k9 + 1))) := by rfl
        refine mx_lsc (congrArg (fun z9 => ([some (.ref (mo)), some (.int (nI (tq_b f L c))), some (.int (z9)), some (.int (nI (0))), none] : List (Option Value))) e2) ?_
        have e3 : nI (0) = bI ((tq_ms f (tq_b f L c) ((k9 + 1))).isSome) := by first | (rw [(ms_n hno).1]; rfl) | (rw [(ms_y c_62 (by omega) c_82).1]; rfl)
        refine mx_lsc (congrArg (fun z9 => ([some (.ref (mo)), some (.int (nI (tq_b f L c))), some (.int (nI (mq f (tq_b f L c) ((k9 + 1))))), some (.int (z9)), none] : List (Option Value))) e3) ?_
        have eh2 : (mx_up (mx_up I mo 11 (nI (tq_b f L c + k9))) (mo) 11 (nI (tq_b f L c + k9 + 1))) = (mx_up I mo 11 (nI (tq_b f L c + (k9 + 1)))) := by rw [mu_u]; rfl
        rw [eh2]
        exact ih
      · skip
        refine mx_il2 d_Mo_letters_72 ?_
        refine mx_il4 d_Mo_letters_73 ?_
        refine mx_in_5 d_Mo_letters_75 ?_
        refine mx_cS2i d_Mo_letters_76 (c_Mo_lesser) ok_Mo_lesser ml_Mo_124 (by decide) (Nat.le_of_ble_eq_true rfl) ?_
        refine mx_ti (y := nI (f (tq_b f L c + k9) - 97)) (ls5 (by omega)) ?_
        refine mx_cS2i d_Mo_letters_79 (c_Mo_isOf (j := f (tq_b f L c + k9) - 97) (by omega)) ok_Mo_isOf ml_Mo_74 (by decide) (Nat.le_of_ble_eq_true rfl) ?_
        refine mx_ifB_ne 89 d_Mo_letters_82 (by decide) (fun c_82 => ?_) (fun c_82 => ?_)
        · skip
          have hno : (tq_ms f (tq_b f L c) (k9)).isSome = false ∨ ¬ f (tq_b f L c + k9) - 97 < 6 ∨ bt (nI (mq f (tq_b f L c) (k9))) (f (tq_b f L c + k9) - 97) = true := Or.inr (Or.inr c_82)
          refine mx_in_0 d_Mo_letters_89 ?_
          refine mx_is3 d_Mo_letters_90 ?_
          refine mx_il2 d_Mo_letters_91 ?_
          refine mx_il3 d_Mo_letters_92 ?_
          refine mx_if_eq 103 d_Mo_letters_93 (by decide) (fun c_93 => ?_) (fun c_93 => absurd (by decide) c_93)
          refine mx_in_0 d_Mo_letters_103 ?_
          refine mx_ior d_Mo_letters_104 ?_
          refine mx_ti (y := nI (mq f (tq_b f L c) (k9 + 1))) ((bset_and0 (by omega)).trans (congrArg nI (ms_n hno).2.symm)) ?_
          refine mx_is2 d_Mo_letters_105 ?_
          refine mx_al0 d_Mo_letters_106 ?_
          refine mx_dup d_Mo_letters_107 rfl ?_
          refine mx_getI d_Mo_letters_108 fl_Mo_87 (by assumption) ?_
          refine mx_ti (y := nI (tq_b f L c + k9)) (mu_e) ?_
          refine mx_in_1 d_Mo_letters_111 ?_
          refine mx_iaddN d_Mo_letters_112 ?_
          refine mx_putI d_Mo_letters_113 fl_Mo_87 (by assumption) ?_
          refine mx_goto 19 d_Mo_letters_116 (by decide) ?_
          refine mx_dn4 ?_
          have e2 : nI (mq f (tq_b f L c) (k9 + 1)) = nI (mq f (tq_b f L c) ((k9 + 1))) := by rfl
          refine mx_lsc (congrArg (fun z9 => ([some (.ref (mo)), some (.int (nI (tq_b f L c))), some (.int (z9)), some (.int (nI (0))), none] : List (Option Value))) e2) ?_
          have e3 : nI (0) = bI ((tq_ms f (tq_b f L c) ((k9 + 1))).isSome) := by first | (rw [(ms_n hno).1]; rfl) | (rw [(ms_y c_62 (by omega) c_82).1]; rfl)
          refine mx_lsc (congrArg (fun z9 => ([some (.ref (mo)), some (.int (nI (tq_b f L c))), some (.int (nI (mq f (tq_b f L c) ((k9 + 1))))), some (.int (z9)), none] : List (Option Value))) e3) ?_
          have eh2 : (mx_up (mx_up I mo 11 (nI (tq_b f L c + k9))) (mo) 11 (nI (tq_b f L c + k9 + 1))) = (mx_up I mo 11 (nI (tq_b f L c + (k9 + 1)))) := by rw [mu_u]; rfl
          rw [eh2]
          exact ih
        · skip
          refine mx_in_1 d_Mo_letters_85 ?_
          refine mx_goto 90 d_Mo_letters_86 (by decide) ?_
          refine mx_is3 d_Mo_letters_90 ?_
          refine mx_il2 d_Mo_letters_91 ?_
          refine mx_il3 d_Mo_letters_92 ?_
          refine mx_if_eq 103 d_Mo_letters_93 (by decide) (fun c_93 => absurd c_93 (by decide)) (fun c_93 => ?_)
          refine mx_in_1 d_Mo_letters_96 ?_
          refine mx_il4 d_Mo_letters_97 ?_
          refine mx_ishl d_Mo_letters_99 ?_
          refine mx_goto 104 d_Mo_letters_100 (by decide) ?_
          refine mx_ior d_Mo_letters_104 ?_
          refine mx_ti (y := nI (mq f (tq_b f L c) (k9 + 1))) ((bset_nI _ (by omega) _ (by omega)).trans (congrArg nI (ms_y c_62 (by omega) c_82).2.symm)) ?_
          refine mx_is2 d_Mo_letters_105 ?_
          refine mx_al0 d_Mo_letters_106 ?_
          refine mx_dup d_Mo_letters_107 rfl ?_
          refine mx_getI d_Mo_letters_108 fl_Mo_87 (by assumption) ?_
          refine mx_ti (y := nI (tq_b f L c + k9)) (mu_e) ?_
          refine mx_in_1 d_Mo_letters_111 ?_
          refine mx_iaddN d_Mo_letters_112 ?_
          refine mx_putI d_Mo_letters_113 fl_Mo_87 (by assumption) ?_
          refine mx_goto 19 d_Mo_letters_116 (by decide) ?_
          refine mx_dn4 ?_
          have e2 : nI (mq f (tq_b f L c) (k9 + 1)) = nI (mq f (tq_b f L c) ((k9 + 1))) := by rfl
          refine mx_lsc (congrArg (fun z9 => ([some (.ref (mo)), some (.int (nI (tq_b f L c))), some (.int (z9)), some (.int (nI (1))), none] : List (Option Value))) e2) ?_
          have e3 : nI (1) = bI ((tq_ms f (tq_b f L c) ((k9 + 1))).isSome) := by first | (rw [(ms_n hno).1]; rfl) | (rw [(ms_y c_62 (by omega) c_82).1]; rfl)
          refine mx_lsc (congrArg (fun z9 => ([some (.ref (mo)), some (.int (nI (tq_b f L c))), some (.int (nI (mq f (tq_b f L c) ((k9 + 1))))), some (.int (z9)), none] : List (Option Value))) e3) ?_
          have eh2 : (mx_up (mx_up I mo 11 (nI (tq_b f L c + k9))) (mo) 11 (nI (tq_b f L c + k9 + 1))) = (mx_up I mo 11 (nI (tq_b f L c + (k9 + 1)))) := by rw [mu_u]; rfl
          rw [eh2]
          exact ih
  · try dsimp only
    have hlk : tq_lz f L (tq_b f L c) ≤ L := tq_le hpL
    have hlg : tq_b f L c ≤ tq_lz f L (tq_b f L c) := tq_ge _ L _
    have hout : tq_lz f L (tq_b f L c) < L → tq_l (f (tq_b f L c + (tq_lz f L (tq_b f L c) - tq_b f L c))) = false := fun h9 => by have h7 := tq_out (p := fun q => tq_l (f q)) (L := L) (a := tq_b f L c) h9; rw [show tq_b f L c + (tq_lz f L (tq_b f L c) - tq_b f L c) = tq_lz f L (tq_b f L c) by omega]; exact h7
    have hf6 := fun h => hx.2.2.1 (tq_b f L c + (tq_lz f L (tq_b f L c) - tq_b f L c)) h
    refine mx_al0 d_Mo_letters_19 ?_
    refine mx_getI d_Mo_letters_20 fl_Mo_87 (by assumption) ?_
    refine mx_ti (y := nI (tq_b f L c + (tq_lz f L (tq_b f L c) - tq_b f L c))) (mu_e) ?_
    refine mx_al0 d_Mo_letters_23 ?_
    refine mx_getI d_Mo_letters_24 fl_Mo_90 (by assumption) ?_
    refine mx_ti (y := nI (L)) (((hx.up (by omega)).1)) ?_
    refine mx_icN_ge 119 d_Mo_letters_27 (by decide) (by omega) (by omega) (fun c_27 => ?_) (fun c_27 => ?_)
    · skip
      refine mx_al0 d_Mo_letters_119 ?_
      refine mx_getI d_Mo_letters_120 fl_Mo_87 (by assumption) ?_
      refine mx_ti (y := nI (tq_b f L c + (tq_lz f L (tq_b f L c) - tq_b f L c))) (mu_e) ?_
      refine mx_il1 d_Mo_letters_123 ?_
      refine mx_icN_eq 131 d_Mo_letters_124 (by decide) (by omega) (by omega) (fun c_124 => ?_) (fun c_124 => ?_)
      · skip
        have hq : gq_let (tK f L) (tV f L) c = .inl c := lt_bad (Or.inl (by omega))
        refine mx_al0 d_Mo_letters_131 ?_
        refine mx_il1 d_Mo_letters_132 ?_
        refine mx_cV1v d_Mo_letters_133 (c_Mo_wrong0 hM (by simp [mx_up, hf])) ok_Mo_wrong ml_Mo_113 (by assumption) ⟨rfl, rfl⟩ (by decide) (Nat.le_of_ble_eq_true rfl) ?_
        refine mx_il2 d_Mo_letters_136 ?_
        exact mx_iret d_Mo_letters_137 rfl (mx_sR_i rfl (by rw [hq]; exact lt_out_bad (by omega) hL))
      · skip
        refine mx_il3 d_Mo_letters_127 ?_
        refine mx_ifB_ne 136 d_Mo_letters_128 (by decide) (fun c_128 => ?_) (fun c_128 => ?_)
        · skip
          obtain ⟨hq, he1, he2⟩ := lt_good (f := f) (L := L) (c := c) (by omega) c_128
          refine mx_il2 d_Mo_letters_136 ?_
          exact mx_iret d_Mo_letters_137 rfl (mx_sR_i rfl (by rw [hq]; exact fg_out_good (by omega) he2 hf))
        · skip
          have hq : gq_let (tK f L) (tV f L) c = .inl c := lt_bad (Or.inr c_128)
          refine mx_al0 d_Mo_letters_131 ?_
          refine mx_il1 d_Mo_letters_132 ?_
          refine mx_cV1v d_Mo_letters_133 (c_Mo_wrong0 hM (by simp [mx_up, hf])) ok_Mo_wrong ml_Mo_113 (by assumption) ⟨rfl, rfl⟩ (by decide) (Nat.le_of_ble_eq_true rfl) ?_
          refine mx_il2 d_Mo_letters_136 ?_
          exact mx_iret d_Mo_letters_137 rfl (mx_sR_i rfl (by rw [hq]; exact lt_out_bad (by omega) hL))
    · skip
      refine mx_al0 d_Mo_letters_30 ?_
      refine mx_al0 d_Mo_letters_31 ?_
      refine mx_getI d_Mo_letters_32 fl_Mo_87 (by assumption) ?_
      refine mx_ti (y := nI (tq_b f L c + (tq_lz f L (tq_b f L c) - tq_b f L c))) (mu_e) ?_
      refine mx_cV1i d_Mo_letters_35 (c_Mo_letter hM (hx.up (by omega)) (by omega)) ok_Mo_letter ml_Mo_93 (by assumption) ⟨rfl, rfl⟩ (by decide) (Nat.le_of_ble_eq_true rfl) ?_
      refine mx_bip 97 d_Mo_letters_38 (by decide) ?_
      refine mx_bip 122 d_Mo_letters_40 (by decide) ?_
      refine mx_cS3i d_Mo_letters_42 (c_Mo_isInL (by omega)) ok_Mo_isIn ml_Mo_57 (by decide) (Nat.le_of_ble_eq_true rfl) ?_
      refine mx_ifB_eq 119 d_Mo_letters_45 (by decide) (fun c_45 => ?_) (fun c_45 => absurd c_45 (by rw [hout (by omega)]; decide))
      refine mx_al0 d_Mo_letters_119 ?_
      refine mx_getI d_Mo_letters_120 fl_Mo_87 (by assumption) ?_
      refine mx_ti (y := nI (tq_b f L c + (tq_lz f L (tq_b f L c) - tq_b f L c))) (mu_e) ?_
      refine mx_il1 d_Mo_letters_123 ?_
      refine mx_icN_eq 131 d_Mo_letters_124 (by decide) (by omega) (by omega) (fun c_124 => ?_) (fun c_124 => ?_)
      · skip
        have hq : gq_let (tK f L) (tV f L) c = .inl c := lt_bad (Or.inl (by omega))
        refine mx_al0 d_Mo_letters_131 ?_
        refine mx_il1 d_Mo_letters_132 ?_
        refine mx_cV1v d_Mo_letters_133 (c_Mo_wrong0 hM (by simp [mx_up, hf])) ok_Mo_wrong ml_Mo_113 (by assumption) ⟨rfl, rfl⟩ (by decide) (Nat.le_of_ble_eq_true rfl) ?_
        refine mx_il2 d_Mo_letters_136 ?_
        exact mx_iret d_Mo_letters_137 rfl (mx_sR_i rfl (by rw [hq]; exact lt_out_bad (by omega) hL))
      · skip
        refine mx_il3 d_Mo_letters_127 ?_
        refine mx_ifB_ne 136 d_Mo_letters_128 (by decide) (fun c_128 => ?_) (fun c_128 => ?_)
        · skip
          obtain ⟨hq, he1, he2⟩ := lt_good (f := f) (L := L) (c := c) (by omega) c_128
          refine mx_il2 d_Mo_letters_136 ?_
          exact mx_iret d_Mo_letters_137 rfl (mx_sR_i rfl (by rw [hq]; exact fg_out_good (by omega) he2 hf))
        · skip
          have hq : gq_let (tK f L) (tV f L) c = .inl c := lt_bad (Or.inr c_128)
          refine mx_al0 d_Mo_letters_131 ?_
          refine mx_il1 d_Mo_letters_132 ?_
          refine mx_cV1v d_Mo_letters_133 (c_Mo_wrong0 hM (by simp [mx_up, hf])) ok_Mo_wrong ml_Mo_113 (by assumption) ⟨rfl, rfl⟩ (by decide) (Nat.le_of_ble_eq_true rfl) ?_
          refine mx_il2 d_Mo_letters_136 ?_
          exact mx_iret d_Mo_letters_137 rfl (mx_sR_i rfl (by rw [hq]; exact lt_out_bad (by omega) hL))
theorem c_Mo_lettersX (hM : mo_ok S P mo) (hf : I mo 12 = nI e) (he : e < 1000)  : mx_C l E M_Mo_letters 3 0 0 [.ref (mo)] (t, S, I, P, J) (mx_ri (nI 0) (t, S, I, P, J)) := by
  obtain ⟨hM0, hMp1, hMp2, hMp4, hMp5, hMp7, hMp14, hMp21, hMp22, hMp23, hMp24, hMp25, hMp26, hMp27, hMs1, hMs2, hMs3, hMs4, hMs5, hMs6, hMs7, hMs8, hMs9, hMs10, hMs11, hMs12, hMs13⟩ := id hM
  refine mx_C_of (ls0 := [some (.ref (mo)), none, none, none, none]) (by decide +kernel) rfl rfl (Nat.le_of_ble_eq_true rfl) rfl ?_
  refine mx_al0 d_Mo_letters_0 ?_
  refine mx_getI d_Mo_letters_1 fl_Mo_25 (by assumption) ?_
  refine mx_ti (y := nI (e)) (hf) ?_
  refine mx_ic_m1 d_Mo_letters_4 ?_
  refine mx_icmp_eq 10 d_Mo_letters_5 (by decide) (fun c_5 => absurd c_5 (nI_m1b (by omega))) (fun c_5 => ?_)
  refine mx_in_0 d_Mo_letters_8 ?_
  exact mx_iret d_Mo_letters_9 rfl (mx_ri_of rfl)
end AQ58
