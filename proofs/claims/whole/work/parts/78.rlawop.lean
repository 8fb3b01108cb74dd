/-! THE REFERENCE'S LAW -/
section BK78
variable {l : Launch} {E : mx_Env} {t : Nat} {S : mx_S} {I K K2 I0 : mx_I} {P : mx_P} {J : mx_G} {mo L e n k : Nat} {f : Nat → Nat} {v w : Int32} {m : Nat → Int32} {s : List gq_L} {fc : Nat → Int32}
/-- the law's text in the row -/
def lx_row (m : Nat → Int32) (f : Nat → Nat) (k : Nat) : Nat → Int32 := fun j => if 619 ≤ j ∧ j < 619 + k then nI (f (j - 619)) else m j
theorem lx_row_0 : lx_row m f 0 = m := by funext j; exact if_neg (by omega)
theorem lx_row_s : lx_row m f (k + 1) = updI (lx_row m f k) (619 + k) (nI (f k)) := by
  funext j
  unfold lx_row updI
  by_cases e : j = 619 + k
  · subst e
    rw [if_pos (by omega), if_pos rfl, show 619 + k - 619 = k by omega]
  · rw [if_neg e]
    dsimp only
    by_cases q : 619 ≤ j ∧ j < 619 + k
    · rw [if_pos (by omega), if_pos q]
    · rw [if_neg (by omega), if_neg q]
/-- what the reference's law leaves -/
def rlo (I K : mx_I) (mo : Nat) (f : Nat → Nat) (L : Nat) (r : Nat ⊕ List gq_L) : Prop := (∀ c, c ≠ mo → c ≠ mo + 1 → K c = I c) ∧ (∀ k, k ≠ 0 → k ≠ 6 → k ≠ 8 → k ≠ 9 → k ≠ 10 → k ≠ 11 → k ≠ 12 → k ≠ 13 → k ≠ 17 → k ≠ 18 → k ≠ 19 → K mo k = I mo k) ∧ K mo 8 = nI 0 ∧ match r with
  | .inl e => K mo 0 = nI 1 ∧ K mo 12 = nI (tq_b f L e) ∧ K (mo + 1) = I (mo + 1) ∧ K mo 6 = I mo 6
  | .inr s => K mo 0 = nI 0 ∧ K mo 12 = -1 ∧ K (mo + 1) = lx_row (updI (updI (I (mo + 1)) 1 (nI s.length)) 2 (nI L)) f L ∧ K mo 6 = nI 0
def rl_an (r : Nat ⊕ List gq_L) : Nat := match r with | .inl _ => 0 | .inr s => s.length
theorem mb_ml (hx : mp_tx I mo f L) : ml_s (mb_up I mo L) (mb_up I mo L) mo f L 0 := ⟨ml_off.rf, mb_is.2.2.2.2.1, mb_cur, mb_is.2.2.2.2.2⟩
theorem mb_mf : mf_ok (mb_up I mo L) mo (fun k => if k < 7 then I (mo + 6) k else if k = 7 then I mo 15 &&& 1 else I mo 16 &&& 1) := by
  refine ⟨fun k hk => ?_, ?_, ?_⟩
  · dsimp only; rw [if_pos hk, mb_ne (by omega)]
  · rw [mb_k (by omega)]; rfl
  · rw [mb_k (by omega)]; rfl
theorem rw_no9 {r : Nat ⊕ List gq_L} (h : rw_out I K mo f L fc v r) (hf : ¬ K mo 12 = -1) : ∃ e, r = .inl e ∧ ml_bad I K mo f L e 700 := by
  cases r with
  | inl e => exact ⟨e, rfl, h⟩
  | inr q => exact absurd h.2.1 hf
theorem rw_ok9 {r : Nat ⊕ List gq_L} (h : rw_out I K mo f L fc v r) (hf : K mo 12 = -1) (hL : L ≤ 400) : ∃ s, r = .inr s ∧ ml_off I K mo ∧ v = nI s.length := by
  cases r with
  | inl e => exact absurd hf (by rw [h.2.1]; exact nI_m1b (by have := tq_bL f L e; omega))
  | inr q => exact ⟨q, rfl, h.1, h.2.2.1⟩
theorem rlo_base (h : ml_off (mb_up I mo L) K mo) : (∀ c, c ≠ mo → K c = I c) ∧ (∀ k, k ≠ 8 → k ≠ 9 → k ≠ 10 → k ≠ 11 → k ≠ 12 → k ≠ 13 → k ≠ 17 → k ≠ 18 → k ≠ 19 → K mo k = I mo k) ∧ K mo 8 = nI 0 ∧ K mo 10 = nI L := by
  refine ⟨fun c hc => ?_, fun k a b c d e g i j q => ?_, ?_, ?_⟩
  · rw [h.1 c hc, mb_ne hc]
  · rw [h.2 k d e g i j q, mb_k ⟨a, b, c, d, e, g⟩]
  · rw [h.2 8 (by omega) (by omega) (by omega) (by omega) (by omega) (by omega)]; exact mb_is.1
  · rw [h.2 10 (by omega) (by omega) (by omega) (by omega) (by omega) (by omega)]; exact mb_is.2.2.1
theorem rlo_bad (h : ml_bad (mb_up I mo L) K mo f L e 700) : rlo I (mx_up K mo 0 (nI 1)) mo f L (.inl e) := by
  obtain ⟨b1, b2, b3, b4⟩ := rlo_base h.1
  refine ⟨fun c a b => ?_, fun k a b c d e g i j q y z => ?_, ?_, mu_e, ?_, ?_, ?_⟩
  · rw [mx_up_ne a]; exact b1 c a
  · rw [mu_n a]; exact b2 k c d e g i j q y z
  · rw [mu_n (by omega)]; exact b3
  · rw [mu_n (by omega)]; exact h.2.1
  · rw [mx_up_ne (by omega)]; exact b1 _ (by omega)
  · rw [mu_n (by omega)]; exact b2 6 (by omega) (by omega) (by omega) (by omega) (by omega) (by omega) (by omega) (by omega) (by omega)
/-- the row while the text is written -/
def rlw (K1 K : mx_I) (mo : Nat) (f : Nat → Nat) (L n k : Nat) : Prop := (∀ c, c ≠ mo + 1 → K c = mx_up K1 mo 0 (nI 0) c) ∧ K (mo + 1) = lx_row (updI (updI (K1 (mo + 1)) 1 (nI n)) 2 (nI L)) f k
theorem rlw_0 : rlw K (mx_up (mx_up (mx_up K mo 0 (nI 0)) (mo + 1) 1 (nI n)) (mo + 1) 2 (nI L)) mo f L n 0 := by
  refine ⟨fun c hc => ?_, ?_⟩
  · rw [mx_up_ne hc, mx_up_ne hc]
  · rw [lx_row_0, mu_row, mu_row, mx_up_ne (by omega)]
theorem rlw.st {K1 : mx_I} (h : rlw K1 K mo f L n k) (hv : v = nI (f k)) : rlw K1 (mx_up K (mo + 1) (619 + k) v) mo f L n (k + 1) := by
  subst hv
  exact ⟨fun c hc => by rw [mx_up_ne hc]; exact h.1 c hc, by rw [lx_row_s, mu_row, h.2]⟩
theorem rlo_good {K1 : mx_I} (h : ml_off (mb_up I mo L) K1 mo) (h12 : K1 mo 12 = -1) (hr : rlw K1 K mo f L s.length L) : rlo I (mx_up K mo 6 (nI 0)) mo f L (.inr s) := by
  obtain ⟨b1, b2, b3, b4⟩ := rlo_base h
  have hm : K mo = mx_up K1 mo 0 (nI 0) mo := hr.1 mo (by omega)
  refine ⟨fun c a b => ?_, fun k a b c d e g i j q y z => ?_, ?_, ?_, ?_, ?_, mu_e⟩
  · rw [mx_up_ne a, hr.1 c b, mx_up_ne a]; exact b1 c a
  · rw [mu_n b, hm, mu_n a]; exact b2 k c d e g i j q y z
  · rw [mu_n (by omega), hm, mu_n (by omega)]; exact b3
  · rw [mu_n (by omega), hm, mu_e]
  · rw [mu_n (by omega), hm, mu_n (by omega)]; exact h12
  · rw [mx_up_ne (by omega), hr.2, b1 (mo + 1) (by omega)]
theorem c_Mo_law (hM : mo_ok S P mo) (hx : mp_tx I mo f L)  : mx_C l E M_Mo_law 32 0 0 [.ref (mo)] (t, S, I, P, J) (mx_sR (some (.int (nI (rl_an (gq_law (tK f L) (tV f L)))))) t S P J (fun K => rlo I K mo f L (gq_law (tK f L) (tV f L)))) := by
  obtain ⟨hM0, hMp1, hMp2, hMp4, hMp5, hMp7, hMp14, hMp21, hMp22, hMp23, hMp24, hMp25, hMp26, hMp27, hMs1, hMs2, hMs3, hMs4, hMs5, hMs6, hMs7, hMs8, hMs9, hMs10, hMs11, hMs12, hMs13⟩ := id hM
  have hL9 := hx.2.1
  refine mx_C_of (ls0 := [some (.ref (mo)), none, none]) (by decide +kernel) rfl rfl (Nat.le_of_ble_eq_true rfl) rfl ?_
  refine mx_al0 d_Mo_law_0 ?_
  refine mx_cV0v d_Mo_law_1 (c_Mo_begins hM hx.1) ok_Mo_begins ml_Mo_195 (by assumption) ⟨rfl, rfl⟩ (by omega) (Nat.le_of_ble_eq_true rfl) ?_
  refine mx_al0 d_Mo_law_4 ?_
  refine mx_in_1 d_Mo_law_5 ?_
  refine mx_cV1y d_Mo_law_6 (c_Mo_readL hM (mb_tx hx) (mb_ml hx) mb_mf) ok_Mo_read ml_Mo_198 (by assumption) ⟨rfl, rfl⟩ (by omega) (Nat.le_of_ble_eq_true rfl) (fun v9 K1 hK1 => ?_)
  refine mx_is1 d_Mo_law_9 ?_
  refine mx_al0 d_Mo_law_10 ?_
  refine mx_al0 d_Mo_law_11 ?_
  refine mx_getI d_Mo_law_12 fl_Mo_25 (by assumption) ?_
  refine mx_ic_m1 d_Mo_law_15 ?_
  refine mx_icmp_eq 23 d_Mo_law_16 (by decide) (fun c_16 => ?_) (fun c_16 => ?_)
  · skip
    obtain ⟨s, hr, hof, hv9⟩ := rw_ok9 hK1 c_16 hx.2.1
    have hbs := rlo_base hof
    have hTL := tq_n_le f L
    obtain ⟨g1, g2, g3⟩ := gq_law_ok (tK0 rfl) tV1 hr
    refine mx_in_0 d_Mo_law_23 ?_
    refine mx_putI d_Mo_law_24 fl_Mo_54 (by assumption) ?_
    refine mx_al0 d_Mo_law_27 ?_
    refine mx_getI d_Mo_law_28 fl_Mo_54 (by assumption) ?_
    refine mx_ti (y := nI (0)) (mu_e) ?_
    refine mx_if_le 36 d_Mo_law_31 (by decide) (fun c_31 => ?_) (fun c_31 => absurd c_31 (by decide))
    refine mx_al0 d_Mo_law_36 ?_
    refine mx_getR d_Mo_law_37 fl_Mo_7 (by assumption) (by assumption) ?_
    refine mx_in_1 d_Mo_law_40 ?_
    refine mx_il1 d_Mo_law_41 ?_
    refine mx_iast d_Mo_law_42 (by assumption) (nI_inb (by omega) (by omega)) ?_
    rw [nI_clamp (by omega)]
    refine mx_al0 d_Mo_law_43 ?_
    refine mx_getR d_Mo_law_44 fl_Mo_7 (by assumption) (by assumption) ?_
    refine mx_in_2 d_Mo_law_47 ?_
    refine mx_al0 d_Mo_law_48 ?_
    refine mx_getI d_Mo_law_49 fl_Mo_90 (by assumption) ?_
    refine mx_ti (y := nI (L)) ((by rw [mx_up_ne (by omega), mu_n (by omega)]; exact hbs.2.2.2)) ?_
    refine mx_iast d_Mo_law_52 (by assumption) (nI_inb (by omega) (by omega)) ?_
    rw [nI_clamp (by omega)]
    refine mx_in_0 d_Mo_law_53 ?_
    refine mx_is2 d_Mo_law_54 ?_
    refine mx_loopX (α := (mx_I)) (N := L) (a0 := (mx_up (mx_up (mx_up K1 (mo) 0 (nI (0))) (mo + 1) (1) (v9)) (mo + 1) (2) (nI (L)))) (fun k9 z9 => rlw K1 z9 mo f L s.length k9) (ls := fun k9 z9 => [some (.ref (mo)), some (.int (v9)), some (.int (nI (k9)))]) (X := fun k9 z9 => (t, S, z9, P, J)) ((by rw [hv9]; exact rlw_0)) (fun k9 hk9 z9 hinv ih => ?_) (fun z9 hinv => ?_)
    · skip
      obtain ⟨K, hz9⟩ : ∃ q, q = z9 := ⟨_, rfl⟩
      subst hz9
      try dsimp only at hinv ih ⊢
      refine mx_il2 d_Mo_law_55 ?_
      refine mx_al0 d_Mo_law_56 ?_
      refine mx_getI d_Mo_law_57 fl_Mo_90 (by assumption) ?_
      refine mx_ti (y := nI (L)) ((by rw [hinv.1 mo (by omega), mu_n (by omega)]; exact hbs.2.2.2)) ?_
      refine mx_icN_ge 85 d_Mo_law_60 (by decide) (by omega) (by omega) (fun c_60 => absurd c_60 (by omega)) (fun c_60 => ?_)
      refine mx_al0 d_Mo_law_63 ?_
      refine mx_getR d_Mo_law_64 fl_Mo_7 (by assumption) (by assumption) ?_
      refine mx_sip 619 d_Mo_law_67 (by decide) ?_
      refine mx_il2 d_Mo_law_70 ?_
      refine mx_iaddN d_Mo_law_71 ?_
      refine mx_al0 d_Mo_law_72 ?_
      refine mx_getR d_Mo_law_73 fl_Mo_22 (by assumption) (by assumption) ?_
      refine mx_il2 d_Mo_law_76 ?_
      refine mx_iald d_Mo_law_77 (by assumption) (nI_inb (by omega) (by omega)) ?_
      refine mx_ti (y := K (mo + 5) (k9)) (by rw [nI_clamp (by omega)]) ?_
      refine mx_iast d_Mo_law_78 (by assumption) (nI_inb (by omega) (by omega)) ?_
      rw [nI_clamp (by omega)]
      refine mx_iN2 d_Mo_law_79 ?_
      refine mx_goto 55 d_Mo_law_82 (by decide) ?_
      exact ih (mx_up K (mo + 1) (619 + k9) ((K (mo + 5) (k9)))) (hinv.st (by rw [hinv.1 (mo + 5) (by omega), mx_up_ne (by omega), hbs.1 (mo + 5) (by omega)]; exact hx.2.2.2 k9 (by omega)))
    · skip
      obtain ⟨K, hz9⟩ : ∃ q, q = z9 := ⟨_, rfl⟩
      subst hz9
      try dsimp only at hinv ⊢
      refine mx_il2 d_Mo_law_55 ?_
      refine mx_al0 d_Mo_law_56 ?_
      refine mx_getI d_Mo_law_57 fl_Mo_90 (by assumption) ?_
      refine mx_ti (y := nI (L)) ((by rw [hinv.1 mo (by omega), mu_n (by omega)]; exact hbs.2.2.2)) ?_
      refine mx_icN_ge 85 d_Mo_law_60 (by decide) (by omega) (by omega) (fun c_60 => ?_) (fun c_60 => absurd c_60 (by omega))
      refine mx_al0 d_Mo_law_85 ?_
      refine mx_in_0 d_Mo_law_86 ?_
      refine mx_putI d_Mo_law_87 fl_Mo_205 (by assumption) ?_
      refine mx_il1 d_Mo_law_90 ?_
      exact mx_iret d_Mo_law_91 rfl (mx_sR_i (by rw [hr]; exact hv9) (by rw [hr]; exact rlo_good hof c_16 hinv))
  · skip
    obtain ⟨e, hr, hb⟩ := rw_no9 hK1 c_16
    refine mx_in_1 d_Mo_law_19 ?_
    refine mx_goto 24 d_Mo_law_20 (by decide) ?_
    refine mx_putI d_Mo_law_24 fl_Mo_54 (by assumption) ?_
    refine mx_al0 d_Mo_law_27 ?_
    refine mx_getI d_Mo_law_28 fl_Mo_54 (by assumption) ?_
    refine mx_ti (y := nI (1)) (mu_e) ?_
    refine mx_if_le 36 d_Mo_law_31 (by decide) (fun c_31 => absurd c_31 (by decide)) (fun c_31 => ?_)
    refine mx_in_0 d_Mo_law_34 ?_
    exact mx_iret d_Mo_law_35 rfl (mx_sR_i (by rw [hr]; rfl) (by rw [hr]; exact rlo_bad hb))
end BK78
