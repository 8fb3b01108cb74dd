/-! THE GROUND: both sides -/
section BG74
variable {l : Launch} {E : mx_Env} {t : Nat} {S : mx_S} {I K K2 I0 : mx_I} {P : mx_P} {J : mx_G} {mo L e T Hn Gn : Nat} {f : Nat → Nat} {v w : Int32} {m : Nat → Int32} {s : gg_S}
/-- the tape holds L bytes, and f tells them -/
def mp_tx (I : mx_I) (mo : Nat) (f : Nat → Nat) (L : Nat) : Prop := I mo 8 = nI L ∧ L ≤ 400 ∧ (∀ k, k < 400 → f k < 256) ∧ ∀ k, k < 400 → I (mo + 5) k = nI (f k)
def mb_up (I : mx_I) (mo L : Nat) : mx_I := (mx_up (mx_up (mx_up (mx_up (mx_up (mx_up I mo 12 (-1)) mo 9 (-1)) mo 10 (nI L)) mo 8 (nI 0)) mo 11 (nI 0)) mo 13 (nI 0))
theorem mb_ne {c : Nat} (h : c ≠ mo) : mb_up I mo L c = I c := by
  unfold mb_up
  rw [mx_up_ne h, mx_up_ne h, mx_up_ne h, mx_up_ne h, mx_up_ne h, mx_up_ne h]
theorem mb_k {k : Nat} (h : k ≠ 8 ∧ k ≠ 9 ∧ k ≠ 10 ∧ k ≠ 11 ∧ k ≠ 12 ∧ k ≠ 13) : mb_up I mo L mo k = I mo k := by
  obtain ⟨h8, h9, h10, h11, h12, h13⟩ := h
  simp [mb_up, mx_up, h8, h9, h10, h11, h12, h13]
theorem mb_is : mb_up I mo L mo 8 = nI 0 ∧ mb_up I mo L mo 9 = -1 ∧ mb_up I mo L mo 10 = nI L ∧ mb_up I mo L mo 11 = nI 0 ∧ mb_up I mo L mo 12 = -1 ∧ mb_up I mo L mo 13 = nI 0 := by
  simp [mb_up, mx_up]
theorem mb_tx (h : mp_tx I mo f L) : mt_tx (mb_up I mo L) mo f L := ⟨mb_is.2.2.1, h.2.1, h.2.2.1, Or.inl ⟨mb_is.2.1, fun k hk => by rw [mb_ne (by omega)]; exact h.2.2.2 k hk⟩⟩
theorem mb_cur : mt_cur (mb_up I mo L) mo f L 0 := ⟨0, mb_is.2.2.2.1, by omega, rfl, by omega⟩
def gg_cd (r : Nat ⊕ gg_S) (T : Nat) : Nat := match r with | .inl _ => 1 | .inr _ => if T = 12 then 2 else 0
def gg_an (r : Nat ⊕ gg_S) (T : Nat) : Nat := match r with | .inl _ => 0 | .inr _ => if T = 12 then 0 else T + 1
/-- what the reference's ground leaves -/
def rgo (I K : mx_I) (mo : Nat) (f : Nat → Nat) (L T : Nat) (r : Nat ⊕ gg_S) : Prop := (∀ c, c ≠ mo → c ≠ mo + 1 → c ≠ mo + 3 → K c = I c) ∧ (∀ k, k ≠ 0 → k ≠ 6 → k ≠ 8 → k ≠ 9 → k ≠ 10 → k ≠ 11 → k ≠ 12 → k ≠ 13 → K mo k = I mo k) ∧ K mo 0 = nI (gg_cd r T) ∧ K mo 8 = nI 0 ∧ match r with
  | .inl e => K mo 12 = nI (tq_b f L e) ∧ K (mo + 1) = I (mo + 1) ∧ K mo 6 = I mo 6
  | .inr s => K mo 12 = -1 ∧ (T = 12 → K (mo + 1) = I (mo + 1) ∧ K mo 6 = I mo 6) ∧ (T ≠ 12 → K (mo + 1) = updI s.2.2 0 (nI (T + 1)) ∧ K mo 6 = nI 0 ∧ gg_in s ∧ ∀ k, (k < 3 ∨ k = 9 ∨ k = 10 ∨ 195 ≤ k) → s.2.2 k = I (mo + 1) k)
theorem c_Mo_begins (hM : mo_ok S P mo) (ht : I mo 8 = nI L)  : mx_C l E M_Mo_begins 0 0 0 [.ref (mo)] (t, S, I, P, J) (mx_rv (t, S, mb_up I mo L, P, J)) := by
  obtain ⟨hM0, hMp1, hMp2, hMp4, hMp5, hMp7, hMp14, hMp21, hMp22, hMp23, hMp24, hMp25, hMp26, hMp27, hMs1, hMs2, hMs3, hMs4, hMs5, hMs6, hMs7, hMs8, hMs9, hMs10, hMs11, hMs12, hMs13⟩ := id hM
  refine mx_C_of (ls0 := [some (.ref (mo))]) (by decide +kernel) rfl rfl (Nat.le_of_ble_eq_true rfl) rfl ?_
  refine mx_al0 d_Mo_begins_0 ?_
  refine mx_ic_m1 d_Mo_begins_1 ?_
  refine mx_putI d_Mo_begins_2 fl_Mo_25 (by assumption) ?_
  refine mx_al0 d_Mo_begins_5 ?_
  refine mx_ic_m1 d_Mo_begins_6 ?_
  refine mx_putI d_Mo_begins_7 fl_Mo_84 (by assumption) ?_
  refine mx_al0 d_Mo_begins_10 ?_
  refine mx_al0 d_Mo_begins_11 ?_
  refine mx_getI d_Mo_begins_12 fl_Mo_81 (by assumption) ?_
  refine mx_ti (y := nI (L)) ((by simp [mx_up]; exact ht)) ?_
  refine mx_putI d_Mo_begins_15 fl_Mo_90 (by assumption) ?_
  refine mx_al0 d_Mo_begins_18 ?_
  refine mx_in_0 d_Mo_begins_19 ?_
  refine mx_putI d_Mo_begins_20 fl_Mo_81 (by assumption) ?_
  refine mx_al0 d_Mo_begins_23 ?_
  refine mx_in_0 d_Mo_begins_24 ?_
  refine mx_putI d_Mo_begins_25 fl_Mo_87 (by assumption) ?_
  refine mx_al0 d_Mo_begins_28 ?_
  refine mx_in_0 d_Mo_begins_29 ?_
  refine mx_putI d_Mo_begins_30 fl_Mo_179 (by assumption) ?_
  exact mx_vret d_Mo_begins_33 rfl (mx_rv_of rfl)
theorem cq_row : vs_cq I (mo + 1) 0 (mo + 3) 0 619 (mo + 1) = I (mo + 1) := vs_cq_ne (by omega)
/-- the row comes back -/
theorem cq_back (h1 : ∀ k, k < 619 → K (mo + 3) k = I (mo + 1) k) (h2 : ∀ k, 619 ≤ k → K (mo + 1) k = I (mo + 1) k) : vs_cq K (mo + 3) 0 (mo + 1) 0 619 (mo + 1) = I (mo + 1) := by
  funext k
  unfold vs_cq
  by_cases h : k < 619
  · rw [if_pos ⟨rfl, by omega, by omega⟩, show 0 + (k - 0) = k by omega]; exact h1 k h
  · rw [if_neg (by omega)]; exact h2 k (by omega)
theorem cq_as {k : Nat} (h : k < 619) : vs_cq I (mo + 1) 0 (mo + 3) 0 619 (mo + 3) k = I (mo + 1) k := by
  unfold vs_cq
  rw [if_pos ⟨rfl, by omega, by omega⟩, show 0 + (k - 0) = k by omega]
theorem rg_bad9 {r : Nat ⊕ gg_S} (h : rg_out I K mo f L r) (hf : ¬ K mo 12 = -1) : ∃ e, r = .inl e ∧ mg_bad I K mo f L e := by
  cases r with
  | inl e => exact ⟨e, rfl, h⟩
  | inr q => exact absurd h.2.1 hf
theorem rg_ok9 {r : Nat ⊕ gg_S} (h : rg_out I K mo f L r) (hf : K mo 12 = -1) (hL : L ≤ 400) : ∃ s, r = .inr s ∧ mg_off I K mo ∧ K mo 12 = -1 ∧ K (mo + 1) = s.2.2 ∧ gg_in s := by
  cases r with
  | inl e => exact absurd hf (by rw [h.2.1]; exact nI_m1b (by have := tq_bL f L e; omega))
  | inr q => exact ⟨q, rfl, h⟩
theorem rg_base (h : mg_off (mb_up (vs_cq I (mo + 1) 0 (mo + 3) 0 619) mo L) K mo) : (∀ c, c ≠ mo → c ≠ mo + 1 → c ≠ mo + 3 → K c = I c) ∧ (∀ k, k ≠ 8 → k ≠ 9 → k ≠ 10 → k ≠ 11 → k ≠ 12 → k ≠ 13 → K mo k = I mo k) ∧ K mo 8 = nI 0 ∧ (∀ k, k < 619 → K (mo + 3) k = I (mo + 1) k) ∧ ∀ k, (k < 3 ∨ k = 9 ∨ k = 10 ∨ 195 ≤ k) → K (mo + 1) k = I (mo + 1) k := by
  obtain ⟨h1, h2, h3⟩ := h
  refine ⟨fun c a b d => ?_, fun k a b c d e g => ?_, ?_, fun k hk => ?_, fun k hk => ?_⟩
  · rw [h1 c a b, mb_ne a, vs_cq_ne d]
  · rw [h2 k d e g, mb_k ⟨a, b, c, d, e, g⟩, vs_cq_ne (by omega)]
  · rw [h2 8 (by omega) (by omega) (by omega)]; exact mb_is.1
  · rw [h1 (mo + 3) (by omega) (by omega), mb_ne (by omega)]; exact cq_as hk
  · rw [h3 k hk, mb_ne (by omega), cq_row]
theorem rg_fail {x : Nat} (h : mg_off (mb_up (vs_cq I (mo + 1) 0 (mo + 3) 0 619) mo L) K mo) : (∀ c, c ≠ mo → c ≠ mo + 1 → c ≠ mo + 3 → vs_cq (mx_up K mo 0 (nI x)) (mo + 3) 0 (mo + 1) 0 619 c = I c) ∧ (∀ k, k ≠ 0 → k ≠ 6 → k ≠ 8 → k ≠ 9 → k ≠ 10 → k ≠ 11 → k ≠ 12 → k ≠ 13 → vs_cq (mx_up K mo 0 (nI x)) (mo + 3) 0 (mo + 1) 0 619 mo k = I mo k) ∧ vs_cq (mx_up K mo 0 (nI x)) (mo + 3) 0 (mo + 1) 0 619 mo 0 = nI x ∧ vs_cq (mx_up K mo 0 (nI x)) (mo + 3) 0 (mo + 1) 0 619 mo 8 = nI 0 ∧ vs_cq (mx_up K mo 0 (nI x)) (mo + 3) 0 (mo + 1) 0 619 mo 12 = K mo 12 ∧ vs_cq (mx_up K mo 0 (nI x)) (mo + 3) 0 (mo + 1) 0 619 (mo + 1) = I (mo + 1) ∧ vs_cq (mx_up K mo 0 (nI x)) (mo + 3) 0 (mo + 1) 0 619 mo 6 = I mo 6 := by
  obtain ⟨b1, b2, b3, b4, b5⟩ := rg_base h
  have e : vs_cq (mx_up K mo 0 (nI x)) (mo + 3) 0 (mo + 1) 0 619 mo = mx_up K mo 0 (nI x) mo := vs_cq_ne (by omega)
  rw [e]
  refine ⟨fun c a b d => ?_, fun k a b c d e g i j => ?_, mu_e, ?_, ?_, ?_, ?_⟩
  · rw [vs_cq_ne b, mx_up_ne a]; exact b1 c a b d
  · rw [mu_n a]; exact b2 k c d e g i j
  · rw [mu_n (by omega)]; exact b3
  · rw [mu_n (by omega)]
  · exact cq_back (fun k hk => by rw [mx_up_ne (by omega)]; exact b4 k hk) (fun k hk => by rw [mx_up_ne (by omega)]; exact b5 k (by omega))
  · rw [mu_n (by omega)]; exact b2 6 (by omega) (by omega) (by omega) (by omega) (by omega) (by omega)
theorem rg_good {s : gg_S} (h : mg_off (mb_up (vs_cq I (mo + 1) 0 (mo + 3) 0 619) mo L) K mo) (h12 : K mo 12 = -1) (hrow : K (mo + 1) = s.2.2) (hgin : gg_in s) (hT : T ≠ 12) : rgo I (mx_up (mx_up (mx_up K mo 0 (nI 0)) (mo + 1) 0 (nI (T + 1))) mo 6 (nI 0)) mo f L T (.inr s) := by
  obtain ⟨b1, b2, b3, b4, b5⟩ := rg_base h
  refine ⟨fun c a b d => ?_, fun k a b c d e g i j => ?_, ?_, ?_, ?_, fun z => absurd z hT, fun _ => ⟨?_, mu_e, hgin, fun k hk => by rw [← hrow]; exact b5 k hk⟩⟩
  · rw [mx_up_ne a, mx_up_ne b, mx_up_ne a]; exact b1 c a b d
  · rw [mu_n b, mx_up_ne (by omega), mu_n a]; exact b2 k c d e g i j
  · rw [mu_n (by omega), mx_up_ne (by omega), mu_e]; exact congrArg nI (if_neg hT).symm
  · rw [mu_n (by omega), mx_up_ne (by omega), mu_n (by omega)]; exact b3
  · rw [mu_n (by omega), mx_up_ne (by omega), mu_n (by omega)]; exact h12
  · rw [mx_up_ne (by omega), mu_row, mx_up_ne (by omega), hrow]
theorem c_Mo_ground (hM : mo_ok S P mo) (hx : mp_tx I mo f L) (hT : I (mo + 1) 0 = nI T) (hT12 : T ≤ 12) (hgi : gg_in (Hn, Gn, I (mo + 1)))  : mx_C l E M_Mo_ground 10 0 0 [.ref (mo)] (t, S, I, P, J) (mx_sR (some (.int (nI (gg_an (gg_read f L (Hn, Gn, I (mo + 1))) T)))) t S P J (fun K => rgo I K mo f L T (gg_read f L (Hn, Gn, I (mo + 1))))) := by
  obtain ⟨hM0, hMp1, hMp2, hMp4, hMp5, hMp7, hMp14, hMp21, hMp22, hMp23, hMp24, hMp25, hMp26, hMp27, hMs1, hMs2, hMs3, hMs4, hMs5, hMs6, hMs7, hMs8, hMs9, hMs10, hMs11, hMs12, hMs13⟩ := id hM
  refine mx_C_of (ls0 := [some (.ref (mo)), none]) (by decide +kernel) rfl rfl (Nat.le_of_ble_eq_true rfl) rfl ?_
  refine mx_al0 d_Mo_ground_0 ?_
  refine mx_cV0v d_Mo_ground_1 (c_Mo_aside hM) ok_Mo_putsAside ml_Mo_192 (by assumption) ⟨rfl, rfl⟩ (by decide) (Nat.le_of_ble_eq_true rfl) ?_
  refine mx_al0 d_Mo_ground_4 ?_
  have hx1 : mp_tx (vs_cq I (mo + 1) (0) (mo + 3) (0) 619) mo f L := ⟨by rw [vs_cq_ne (by omega)]; exact hx.1, hx.2.1, hx.2.2.1, fun k hk => by rw [vs_cq_ne (by omega)]; exact hx.2.2.2 k hk⟩
  refine mx_cV0v d_Mo_ground_5 (c_Mo_begins hM hx1.1) ok_Mo_begins ml_Mo_195 (by assumption) ⟨rfl, rfl⟩ (by decide) (Nat.le_of_ble_eq_true rfl) ?_
  refine mx_al0 d_Mo_ground_8 ?_
  refine mx_in_0 d_Mo_ground_9 ?_
  have hs0 : mg_s (mb_up (vs_cq I (mo + 1) (0) (mo + 3) (0) 619) mo L) (mb_up (vs_cq I (mo + 1) (0) (mo + 3) (0) 619) mo L) mo f L 0 (Hn, Gn, I (mo + 1)) := ⟨mg_off.rf, mb_is.2.2.2.2.1, mb_cur, mb_is.2.2.2.2.2, by rw [mb_ne (by omega), cq_row], hgi⟩
  refine mx_cV1y d_Mo_ground_10 (c_Mo_readG hM (mb_tx hx1) mb_is.2.1 hs0) ok_Mo_read ml_Mo_198 (by assumption) ⟨rfl, rfl⟩ (by decide) (Nat.le_of_ble_eq_true rfl) (fun v9 K1 hK1 => ?_)
  refine mx_is1 d_Mo_ground_13 ?_
  refine mx_al0 d_Mo_ground_14 ?_
  refine mx_al0 d_Mo_ground_15 ?_
  refine mx_getI d_Mo_ground_16 fl_Mo_25 (by assumption) ?_
  refine mx_ic_m1 d_Mo_ground_19 ?_
  refine mx_icmp_eq 27 d_Mo_ground_20 (by decide) (fun c_20 => ?_) (fun c_20 => ?_)
  · skip
    obtain ⟨s, hr, hof, h12, hrow, hgin⟩ := rg_ok9 hK1 c_20 hx.2.1
    have hT1 : K1 (mo + 1) 0 = nI T := by rw [hof.2.2 0 (by omega), mb_ne (by omega), cq_row]; exact hT
    refine mx_al0 d_Mo_ground_27 ?_
    refine mx_getR d_Mo_ground_28 fl_Mo_7 (by assumption) (by assumption) ?_
    refine mx_in_0 d_Mo_ground_31 ?_
    refine mx_iald d_Mo_ground_32 (by assumption) (nI_inb (by omega) (by omega)) ?_
    refine mx_ti (y := K1 (mo + 1) (0)) (by rw [nI_clamp (by omega)]) ?_
    refine mx_ti (y := nI (T)) (hT1) ?_
    refine mx_bip 12 d_Mo_ground_33 (by decide) ?_
    refine mx_icN_ne 42 d_Mo_ground_35 (by decide) (by omega) (by omega) (fun c_35 => ?_) (fun c_35 => ?_)
    · skip
      refine mx_in_0 d_Mo_ground_42 ?_
      refine mx_putI d_Mo_ground_43 fl_Mo_54 (by assumption) ?_
      refine mx_al0 d_Mo_ground_46 ?_
      refine mx_getI d_Mo_ground_47 fl_Mo_54 (by assumption) ?_
      refine mx_ti (y := nI (0)) (mu_e) ?_
      refine mx_if_le 59 d_Mo_ground_50 (by decide) (fun c_50 => ?_) (fun c_50 => absurd c_50 (by decide))
      refine mx_al0 d_Mo_ground_59 ?_
      refine mx_getR d_Mo_ground_60 fl_Mo_7 (by assumption) (by assumption) ?_
      refine mx_in_0 d_Mo_ground_63 ?_
      refine mx_dup2 d_Mo_ground_64 rfl rfl ?_
      refine mx_iald d_Mo_ground_65 (by assumption) (nI_inb (by omega) (by omega)) ?_
      refine mx_ti (y := (mx_up K1 (mo) 0 (nI (0))) (mo + 1) (0)) (by rw [nI_clamp (by omega)]) ?_
      refine mx_ti (y := nI (T)) ((by rw [mx_up_ne (by omega)]; exact hT1)) ?_
      refine mx_in_1 d_Mo_ground_66 ?_
      refine mx_iaddN d_Mo_ground_67 ?_
      refine mx_iast d_Mo_ground_68 (by assumption) (nI_inb (by omega) (by omega)) ?_
      rw [nI_clamp (by omega)]
      refine mx_al0 d_Mo_ground_69 ?_
      refine mx_in_0 d_Mo_ground_70 ?_
      refine mx_putI d_Mo_ground_71 fl_Mo_205 (by assumption) ?_
      refine mx_al0 d_Mo_ground_74 ?_
      refine mx_getR d_Mo_ground_75 fl_Mo_7 (by assumption) (by assumption) ?_
      refine mx_in_0 d_Mo_ground_78 ?_
      refine mx_iald d_Mo_ground_79 (by assumption) (nI_inb (by omega) (by omega)) ?_
      refine mx_ti (y := (mx_up (mx_up (mx_up K1 (mo) 0 (nI (0))) (mo + 1) (0) (nI (T + 1))) (mo) 6 (nI (0))) (mo + 1) (0)) (by rw [nI_clamp (by omega)]) ?_
      refine mx_ti (y := nI (T + 1)) ((by first | (rw [mx_up_ne (by omega)]; exact mu_e) | exact mu_e)) ?_
      exact mx_iret d_Mo_ground_80 rfl (mx_sR_i (by rw [hr]; exact congrArg nI (if_neg c_35).symm) (by rw [hr]; exact rg_good hof h12 hrow hgin c_35))
    · skip
      refine mx_in_2 d_Mo_ground_38 ?_
      refine mx_goto 43 d_Mo_ground_39 (by decide) ?_
      refine mx_putI d_Mo_ground_43 fl_Mo_54 (by assumption) ?_
      refine mx_al0 d_Mo_ground_46 ?_
      refine mx_getI d_Mo_ground_47 fl_Mo_54 (by assumption) ?_
      refine mx_ti (y := nI (2)) (mu_e) ?_
      refine mx_if_le 59 d_Mo_ground_50 (by decide) (fun c_50 => absurd c_50 (by decide)) (fun c_50 => ?_)
      refine mx_al0 d_Mo_ground_53 ?_
      refine mx_cV0v d_Mo_ground_54 (c_Mo_comes hM) ok_Mo_comesBack ml_Mo_202 (by assumption) ⟨rfl, rfl⟩ (by decide) (Nat.le_of_ble_eq_true rfl) ?_
      refine mx_in_0 d_Mo_ground_57 ?_
      exact mx_iret d_Mo_ground_58 rfl (mx_sR_i (by rw [hr]; exact congrArg nI (if_pos (by omega)).symm) (by rw [hr]; obtain ⟨a1, a2, a3, a4, a5, a6, a7⟩ := rg_fail (x := 2) hof; exact ⟨a1, a2, a3.trans (congrArg nI (if_pos c_35).symm), a4, a5.trans h12, fun _ => ⟨a6, a7⟩, fun z => absurd c_35 z⟩))
  · skip
    obtain ⟨e, hr, hb⟩ := rg_bad9 hK1 c_20
    refine mx_in_1 d_Mo_ground_23 ?_
    refine mx_goto 43 d_Mo_ground_24 (by decide) ?_
    refine mx_putI d_Mo_ground_43 fl_Mo_54 (by assumption) ?_
    refine mx_al0 d_Mo_ground_46 ?_
    refine mx_getI d_Mo_ground_47 fl_Mo_54 (by assumption) ?_
    refine mx_ti (y := nI (1)) (mu_e) ?_
    refine mx_if_le 59 d_Mo_ground_50 (by decide) (fun c_50 => absurd c_50 (by decide)) (fun c_50 => ?_)
    refine mx_al0 d_Mo_ground_53 ?_
    refine mx_cV0v d_Mo_ground_54 (c_Mo_comes hM) ok_Mo_comesBack ml_Mo_202 (by assumption) ⟨rfl, rfl⟩ (by decide) (Nat.le_of_ble_eq_true rfl) ?_
    refine mx_in_0 d_Mo_ground_57 ?_
    exact mx_iret d_Mo_ground_58 rfl (mx_sR_i (by rw [hr]; rfl) (by rw [hr]; obtain ⟨a1, a2, a3, a4, a5, a6, a7⟩ := rg_fail (x := 1) hb.1; exact ⟨a1, a2, a3, a4, a5.trans hb.2.1, a6, a7⟩))
end BG74
