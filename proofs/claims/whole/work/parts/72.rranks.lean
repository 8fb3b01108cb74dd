/-! THE REFERENCE READS THE GROUND: ranks, numbers, gates -/
section BE72
variable {l : Launch} {E : mx_Env} {t : Nat} {S : mx_S} {I K K2 K3 I0 : mx_I} {P : mx_P} {J : mx_G} {mo L a e c n i k j base many others : Nat} {f : Nat → Nat} {v w : Int32} {m : Nat → Int32} {r : Nat ⊕ Nat} {s : gg_S}
theorem mg_bad.sk8 {x : Nat} (h : mg_bad I K mo f L e) (hx : x ≤ 700) : mg_bad I (mx_up K mo 11 (nI x)) mo f L e := ⟨h.1.tr (mc_off.rf.uu (by omega)).mg, by rw [mu_n (by omega)]; exact h.2.1, x, mu_e, hx⟩
theorem fe_z : (if tK f L c = 2 then tZ f L c else 0) = tq_fe f L (tq_b f L c) - tq_b f L c := by
  have hbL := tq_bL f L c
  by_cases h2 : tK f L c = 2
  · rw [if_pos h2]
    obtain ⟨g1, g2⟩ := tq_k2.mp h2
    have nl : ¬ tq_l (f (tq_b f L c)) = true := fun z => by rw [tq_lf z] at g2; cases g2
    have en : tq_en f L (tq_b f L c) = tq_fe f L (tq_b f L c) := by unfold tq_en; rw [if_neg nl, if_pos g2]
    show tq_sz f L (tq_b f L c) = _
    unfold tq_sz
    rw [if_pos g1, en]
  · rw [if_neg h2]
    have e : tq_fe f L (tq_b f L c) = tq_b f L c := by
      rcases Nat.lt_or_ge (tq_b f L c) L with q | q
      · have g2 : tq_f (f (tq_b f L c)) = false := by
          cases g : tq_f (f (tq_b f L c)) with
          | false => rfl
          | true => exact absurd (tq_k2.mpr ⟨q, g⟩) h2
        exact tq_at (p := fun q => tq_f (f q)) g2
      · exact tq_end q
    omega
theorem mg_s.en {x : Nat} (h : mg_s I K mo f L c s) (hc : c < tq_n f L) (hx : x = tq_en f L (tq_b f L c)) : mg_s I (mx_up K mo 11 (nI x)) mo f L (c + 1) s := h.mct (h.mc.up hc hx)
theorem mg_s.bb {x : Nat} (h : mg_s I K mo f L c s) (hx : x = tq_b f L c) : mg_s I (mx_up K mo 11 (nI x)) mo f L c s := by subst hx; exact h.mct h.mc.bb
theorem fe_en (h : 0 < tq_fe f L (tq_b f L c) - tq_b f L c) : tq_fe f L (tq_b f L c) = tq_en f L (tq_b f L c) ∧ c < tq_n f L := by
  have hbL := tq_bL f L c
  have hfe := fg_fe (f := f) hbL
  have g2 : tq_f (f (tq_b f L c)) = true := tq_in (p := fun q => tq_f (f q)) (L := L) (a := tq_b f L c) (Nat.le_refl _) (by show tq_b f L c < tq_fe f L (tq_b f L c); omega)
  have g1 : tq_b f L c < L := by omega
  have nl : ¬ tq_l (f (tq_b f L c)) = true := fun z => by rw [tq_lf z] at g2; cases g2
  exact ⟨by unfold tq_en; rw [if_neg nl, if_pos g2], tq_T_iff.mp g1⟩
theorem rk_end (h : mg_s I K mo f L c s) (hD : tq_fe f L (tq_b f L c) - tq_b f L c = n) : mg_s I (mx_up K mo 11 (nI (tq_b f L c + (tq_fe f L (tq_b f L c) - tq_b f L c)))) mo f L (if 0 < n then c + 1 else c) s := by
  have hfe := fg_fe (f := f) (tq_bL f L c)
  split
  · obtain ⟨h1, h2⟩ := fe_en (f := f) (L := L) (c := c) (by omega)
    exact h.en h2 (by omega)
  · exact h.bb (by omega)
theorem c_Mo_tells (hM : mo_ok S P mo) {s : gg_S} (hx : mt_tx I mo f L) (hb9 : I mo 9 = -1) (hs0 : mg_s I I mo f L (c + 1) s) {hi : Int32} (hk : k = 5 ∨ k = 6) (hhi : ∀ v, v < 10000 → (nI v ≤ hi ↔ v < n)) (hc : c < tq_n f L)  : mx_C l E M_Mo_tells 4 0 0 [.ref (mo), .int (nI (k)), .int (nI (0)), .int (hi)] (t, S, I, P, J) (mx_sR none t S P J (fun K => mg_out I K mo f L (gg_fld k s (gq_num (tK f L) (tV f L) 0 n (c + 1))))) := by
  obtain ⟨hM0, hMp1, hMp2, hMp4, hMp5, hMp7, hMp14, hMp21, hMp22, hMp23, hMp24, hMp25, hMp26, hMp27, hMs1, hMs2, hMs3, hMs4, hMs5, hMs6, hMs7, hMs8, hMs9, hMs10, hMs11, hMs12, hMs13⟩ := id hM
  have hL := hx.2.1
  obtain ⟨g1, g2, g3, g4, g5⟩ := hs0.gin
  have h13 : I (mo + 1) 3 = nI s.1 := by rw [hs0.row]; exact g1
  have h14 : I (mo + 1) 4 = nI s.2.1 := by rw [hs0.row]; exact g2
  refine mx_C_of (ls0 := [some (.ref (mo)), some (.int (nI (k))), some (.int (nI (0))), some (.int (hi)), none]) (by decide +kernel) rfl rfl (Nat.le_of_ble_eq_true rfl) rfl ?_
  refine mx_al0 d_Mo_tells_0 ?_
  refine mx_il2 d_Mo_tells_1 ?_
  refine mx_il3 d_Mo_tells_2 ?_
  refine mx_cV2iR d_Mo_tells_3 (c_Mo_figuresR hM hx hs0.mc (lo := 0) (hb := n) (by omega) hhi) ok_Mo_figures ml_Mo_121 (by assumption) ⟨rfl, rfl⟩ (by decide) (Nat.le_of_ble_eq_true rfl) (fun K1 hK1 => ?_)
  refine mx_is4 d_Mo_tells_6 ?_
  refine mx_al0 d_Mo_tells_8 ?_
  refine mx_getI d_Mo_tells_9 fl_Mo_25 (by assumption) ?_
  refine mx_ic_m1 d_Mo_tells_12 ?_
  refine mx_icmp_ne 24 d_Mo_tells_13 (by decide) (fun c_13 => ?_) (fun c_13 => ?_)
  · skip
    obtain ⟨e, hr, hb⟩ := mr_no hK1 c_13
    have hq := nx_inl hr
    exact mx_vret d_Mo_tells_24 rfl (mx_sR_of rfl (by rw [hq]; exact hs0.mcb hb (by omega)))
  · skip
    obtain ⟨c2, hr, hs2⟩ := mr_ok hK1 c_13 hL
    obtain ⟨p, hp1, hp2, hp3⟩ := num_ok hr (by omega)
    refine mx_al0 d_Mo_tells_16 ?_
    refine mx_getR d_Mo_tells_17 fl_Mo_7 (by assumption) (by assumption) ?_
    refine mx_il1 d_Mo_tells_20 ?_
    refine mx_il4 d_Mo_tells_21 ?_
    refine mx_iast d_Mo_tells_23 (by assumption) (nI_inb (by omega) (by omega)) ?_
    rw [nI_clamp (by omega)]
    exact mx_vret d_Mo_tells_24 rfl (mx_sR_of rfl (by rw [hp1, hp3]; subst hp2; exact mg_fld (hs0.mct hs2) (by omega)))
theorem c_Mo_ranksX (hM : mo_ok S P mo) {s : gg_S} (hx : mt_tx I mo f L) (hb9 : I mo 9 = -1) (hs0 : mg_s I I mo f L (c + 1) s) (hb : base = 67 ∨ base = 131) (hmany : many ≤ 8) (hoth : others ≤ 8) (hc : c < tq_n f L) (hn : gq_num (tK f L) (tV f L) 0 many (c + 1) = .inl e)  : mx_C l E M_Mo_ranksLine 4 0 0 [.ref (mo), .int (nI (base)), .int (nI (many)), .int (nI (others))] (t, S, I, P, J) (mx_sR none t S P J (fun K => mg_out I K mo f L (gg_rank (tK f L) (tV f L) (tZ f L) (tq_b f L) f base many others s c))) := by
  obtain ⟨hM0, hMp1, hMp2, hMp4, hMp5, hMp7, hMp14, hMp21, hMp22, hMp23, hMp24, hMp25, hMp26, hMp27, hMs1, hMs2, hMs3, hMs4, hMs5, hMs6, hMs7, hMs8, hMs9, hMs10, hMs11, hMs12, hMs13⟩ := id hM
  have hL := hx.2.1
  obtain ⟨g1, g2, g3, g4, g5⟩ := hs0.gin
  have h13 : I (mo + 1) 3 = nI s.1 := by rw [hs0.row]; exact g1
  have h14 : I (mo + 1) 4 = nI s.2.1 := by rw [hs0.row]; exact g2
  refine mx_C_of (ls0 := [some (.ref (mo)), some (.int (nI (base))), some (.int (nI (many))), some (.int (nI (others))), none, none, none, none]) (by decide +kernel) rfl rfl (Nat.le_of_ble_eq_true rfl) rfl ?_
  refine mx_al0 d_Mo_ranksLine_0 ?_
  refine mx_in_0 d_Mo_ranksLine_1 ?_
  refine mx_il2 d_Mo_ranksLine_2 ?_
  refine mx_in_1 d_Mo_ranksLine_3 ?_
  refine mx_isub d_Mo_ranksLine_4 ?_
  refine mx_cV2iR d_Mo_ranksLine_5 (c_Mo_figuresR hM hx hs0.mc (lo := 0) (hb := many) (by omega) (hleH hmany)) ok_Mo_figures ml_Mo_121 (by assumption) ⟨rfl, rfl⟩ (by decide) (Nat.le_of_ble_eq_true rfl) (fun K1 hK1 => ?_)
  rw [hn] at hK1
  have hb1 : mc_bad I K1 mo f L e 500 := hK1
  obtain ⟨a8, ha8, hu8⟩ := hb1.2.2
  have hf1 := hb1.f1 hL
  have he := tq_bL f L e
  refine mx_is4 d_Mo_ranksLine_8 ?_
  refine mx_al0 d_Mo_ranksLine_10 ?_
  refine mx_cV0i d_Mo_ranksLine_11 (c_Mo_here hM (hb1.1.tx hx) ha8 (by omega)) ok_Mo_here ml_Mo_110 (by assumption) ⟨rfl, rfl⟩ (by decide) (Nat.le_of_ble_eq_true rfl) ?_
  refine mx_is5 d_Mo_ranksLine_14 ?_
  refine mx_in_0 d_Mo_ranksLine_16 ?_
  refine mx_is6 d_Mo_ranksLine_17 ?_
  refine mx_al0 d_Mo_ranksLine_19 ?_
  refine mx_getI d_Mo_ranksLine_20 fl_Mo_25 (by assumption) ?_
  refine mx_ti (y := (K1 mo 12)) ((mu_n (by omega))) ?_
  refine mx_ic_m1 d_Mo_ranksLine_23 ?_
  refine mx_icmp_ne 64 d_Mo_ranksLine_24 (by decide) (fun c_24 => ?_) (fun c_24 => absurd c_24 (hf1))
  refine mx_il6 d_Mo_ranksLine_64 ?_
  refine mx_il3 d_Mo_ranksLine_66 ?_
  refine mx_icN_eq 76 d_Mo_ranksLine_67 (by decide) (by omega) (by omega) (fun c_67 => ?_) (fun c_67 => ?_)
  · skip
    refine mx_al0 d_Mo_ranksLine_76 ?_
    refine mx_getI d_Mo_ranksLine_77 fl_Mo_25 (by assumption) ?_
    refine mx_ti (y := (K1 mo 12)) ((mu_n (by omega))) ?_
    refine mx_ic_m1 d_Mo_ranksLine_80 ?_
    refine mx_icmp_eq 85 d_Mo_ranksLine_81 (by decide) (fun c_81 => absurd c_81 (hf1)) (fun c_81 => ?_)
    exact mx_vret d_Mo_ranksLine_84 rfl (mx_sR_of rfl (by rw [show gg_rank (tK f L) (tV f L) (tZ f L) (tq_b f L) f base many others s c = .inl e by unfold gg_rank; rw [hn]]; exact (hs0.mcb hb1 (by omega)).sk8 (by have := tq_sk_le (f := f) (L := L) (a := a8); omega)))
  · skip
    refine mx_al0 d_Mo_ranksLine_70 ?_
    refine mx_il5 d_Mo_ranksLine_71 ?_
    refine mx_cV1v d_Mo_ranksLine_73 (c_Mo_wrongX hM (e := tq_b f L e) (by rw [mu_n (by omega)]; exact hb1.2.1) (by omega)) ok_Mo_wrong ml_Mo_113 (by assumption) ⟨rfl, rfl⟩ (by decide) (Nat.le_of_ble_eq_true rfl) ?_
    refine mx_al0 d_Mo_ranksLine_76 ?_
    refine mx_getI d_Mo_ranksLine_77 fl_Mo_25 (by assumption) ?_
    refine mx_ti (y := (K1 mo 12)) ((mu_n (by omega))) ?_
    refine mx_ic_m1 d_Mo_ranksLine_80 ?_
    refine mx_icmp_eq 85 d_Mo_ranksLine_81 (by decide) (fun c_81 => absurd c_81 (hf1)) (fun c_81 => ?_)
    exact mx_vret d_Mo_ranksLine_84 rfl (mx_sR_of rfl (by rw [show gg_rank (tK f L) (tV f L) (tZ f L) (tq_b f L) f base many others s c = .inl e by unfold gg_rank; rw [hn]]; exact (hs0.mcb hb1 (by omega)).sk8 (by have := tq_sk_le (f := f) (L := L) (a := a8); omega)))
theorem c_Mo_ranksY (hM : mo_ok S P mo) {s : gg_S} (hx : mt_tx I mo f L) (hb9 : I mo 9 = -1) (hs0 : mg_s I I mo f L (c + 1) s) (hb : base = 67 ∨ base = 131) (hmany : many ≤ 8) (hoth : others ≤ 8) (hc : c < tq_n f L) {p : Nat × Nat} (hn : gq_num (tK f L) (tV f L) 0 many (c + 1) = .inr p)  : mx_C l E M_Mo_ranksLine 4 0 0 [.ref (mo), .int (nI (base)), .int (nI (many)), .int (nI (others))] (t, S, I, P, J) (mx_sR none t S P J (fun K => mg_out I K mo f L (gg_rank (tK f L) (tV f L) (tZ f L) (tq_b f L) f base many others s c))) := by
  obtain ⟨hM0, hMp1, hMp2, hMp4, hMp5, hMp7, hMp14, hMp21, hMp22, hMp23, hMp24, hMp25, hMp26, hMp27, hMs1, hMs2, hMs3, hMs4, hMs5, hMs6, hMs7, hMs8, hMs9, hMs10, hMs11, hMs12, hMs13⟩ := id hM
  have hL := hx.2.1
  obtain ⟨g1, g2, g3, g4, g5⟩ := hs0.gin
  have h13 : I (mo + 1) 3 = nI s.1 := by rw [hs0.row]; exact g1
  have h14 : I (mo + 1) 4 = nI s.2.1 := by rw [hs0.row]; exact g2
  refine mx_C_of (ls0 := [some (.ref (mo)), some (.int (nI (base))), some (.int (nI (many))), some (.int (nI (others))), none, none, none, none]) (by decide +kernel) rfl rfl (Nat.le_of_ble_eq_true rfl) rfl ?_
  refine mx_al0 d_Mo_ranksLine_0 ?_
  refine mx_in_0 d_Mo_ranksLine_1 ?_
  refine mx_il2 d_Mo_ranksLine_2 ?_
  refine mx_in_1 d_Mo_ranksLine_3 ?_
  refine mx_isub d_Mo_ranksLine_4 ?_
  refine mx_cV2iR d_Mo_ranksLine_5 (c_Mo_figuresR hM hx hs0.mc (lo := 0) (hb := many) (by omega) (hleH hmany)) ok_Mo_figures ml_Mo_121 (by assumption) ⟨rfl, rfl⟩ (by decide) (Nat.le_of_ble_eq_true rfl) (fun K1 hK1 => ?_)
  rw [hn] at hK1
  have hs2 : mc_s I K1 mo f L p.2 0 := hK1
  have hp1 := fg_num hn (by omega)
  have hgp := (gq_num_go (tK0 rfl)).1 p hn
  have hx1 := hs2.tx hx
  have hbp := tq_bL f L p.2
  have hfe := fg_fe (f := f) hbp
  refine mx_ti (y := nI (p.1)) ((congrArg nI hp1.symm)) ?_
  refine mx_is4 d_Mo_ranksLine_8 ?_
  refine mx_al0 d_Mo_ranksLine_10 ?_
  refine mx_cV0iR d_Mo_ranksLine_11 (c_Mo_hereS hM hx1 hs2) ok_Mo_here ml_Mo_110 (by assumption) ⟨rfl, rfl⟩ (by decide) (Nat.le_of_ble_eq_true rfl) (fun K2 hK2 => ?_)
  have hs3 := hK2.1
  have hx2 := hs3.tx hx
  refine mx_is5 d_Mo_ranksLine_14 ?_
  refine mx_in_0 d_Mo_ranksLine_16 ?_
  refine mx_is6 d_Mo_ranksLine_17 ?_
  refine mx_loop (N := tq_fe f L (tq_b f L p.2) - tq_b f L p.2) (ls := fun k9 => [some (.ref (mo)), some (.int (nI (base))), some (.int (nI (many))), some (.int (nI (others))), some (.int (nI (p.1))), some (.int (nI (tq_b f L p.2))), some (.int (nI (k9))), none]) (X := fun k9 => (t, S, K2, P, J)) (fun k9 hk9 ih => ?_) ?_
  · try dsimp only
    have hin : tq_f (f (tq_b f L p.2 + k9)) = true := tq_in (p := fun q => tq_f (f q)) (L := L) (a := tq_b f L p.2) (by omega) (by show tq_b f L p.2 + k9 < tq_fe f L (tq_b f L p.2); omega)
    have hf9 := hx.2.2.1 (tq_b f L p.2 + k9) (by omega)
    refine mx_al0 d_Mo_ranksLine_19 ?_
    refine mx_getI d_Mo_ranksLine_20 fl_Mo_25 (by assumption) ?_
    refine mx_ti (y := (-1)) (hs3.f0) ?_
    refine mx_ic_m1 d_Mo_ranksLine_23 ?_
    refine mx_icmp_ne 64 d_Mo_ranksLine_24 (by decide) (fun c_24 => absurd c_24 (fun z => z rfl)) (fun c_24 => ?_)
    refine mx_il5 d_Mo_ranksLine_27 ?_
    refine mx_il6 d_Mo_ranksLine_29 ?_
    refine mx_iaddN d_Mo_ranksLine_31 ?_
    refine mx_al0 d_Mo_ranksLine_32 ?_
    refine mx_getI d_Mo_ranksLine_33 fl_Mo_90 (by assumption) ?_
    refine mx_ti (y := nI (L)) (hx2.1) ?_
    refine mx_icN_ge 64 d_Mo_ranksLine_36 (by decide) (by omega) (by omega) (fun c_36 => absurd c_36 (by omega)) (fun c_36 => ?_)
    refine mx_al0 d_Mo_ranksLine_39 ?_
    refine mx_il5 d_Mo_ranksLine_40 ?_
    refine mx_il6 d_Mo_ranksLine_42 ?_
    refine mx_iaddN d_Mo_ranksLine_44 ?_
    refine mx_cV1i d_Mo_ranksLine_45 (c_Mo_letter hM hx2 (by omega)) ok_Mo_letter ml_Mo_93 (by assumption) ⟨rfl, rfl⟩ (by decide) (Nat.le_of_ble_eq_true rfl) ?_
    refine mx_bip 48 d_Mo_ranksLine_48 (by decide) ?_
    refine mx_bip 57 d_Mo_ranksLine_50 (by decide) ?_
    refine mx_cS3i d_Mo_ranksLine_52 (c_Mo_isInF (by omega)) ok_Mo_isIn ml_Mo_57 (by decide) (Nat.le_of_ble_eq_true rfl) ?_
    refine mx_ifB_eq 64 d_Mo_ranksLine_55 (by decide) (fun c_55 => absurd c_55 (by rw [hin]; decide)) (fun c_55 => ?_)
    refine mx_iN6 d_Mo_ranksLine_58 ?_
    refine mx_goto 19 d_Mo_ranksLine_61 (by decide) ?_
    exact ih
  · try dsimp only
    have hout : tq_b f L p.2 + (tq_fe f L (tq_b f L p.2) - tq_b f L p.2) < L → tq_f (f (tq_b f L p.2 + (tq_fe f L (tq_b f L p.2) - tq_b f L p.2))) = false := fun h9 => by have h7 := tq_out (p := fun q => tq_f (f q)) (L := L) (a := tq_b f L p.2) (by show tq_fe f L (tq_b f L p.2) < L; omega); rw [show tq_b f L p.2 + (tq_fe f L (tq_b f L p.2) - tq_b f L p.2) = tq_fe f L (tq_b f L p.2) by omega]; exact h7
    have hf6 := fun h => hx.2.2.1 (tq_b f L p.2 + (tq_fe f L (tq_b f L p.2) - tq_b f L p.2)) h
    refine mx_al0 d_Mo_ranksLine_19 ?_
    refine mx_getI d_Mo_ranksLine_20 fl_Mo_25 (by assumption) ?_
    refine mx_ti (y := (-1)) (hs3.f0) ?_
    refine mx_ic_m1 d_Mo_ranksLine_23 ?_
    refine mx_icmp_ne 64 d_Mo_ranksLine_24 (by decide) (fun c_24 => absurd c_24 (fun z => z rfl)) (fun c_24 => ?_)
    refine mx_il5 d_Mo_ranksLine_27 ?_
    refine mx_il6 d_Mo_ranksLine_29 ?_
    refine mx_iaddN d_Mo_ranksLine_31 ?_
    refine mx_al0 d_Mo_ranksLine_32 ?_
    refine mx_getI d_Mo_ranksLine_33 fl_Mo_90 (by assumption) ?_
    refine mx_ti (y := nI (L)) (hx2.1) ?_
    refine mx_icN_ge 64 d_Mo_ranksLine_36 (by decide) (by omega) (by omega) (fun c_36 => ?_) (fun c_36 => ?_)
    · skip
      refine mx_il6 d_Mo_ranksLine_64 ?_
      refine mx_il3 d_Mo_ranksLine_66 ?_
      refine mx_icN_eq 76 d_Mo_ranksLine_67 (by decide) (by omega) (by omega) (fun c_67 => ?_) (fun c_67 => ?_)
      · skip
        have hfg : gq_fig (tK f L) (tZ f L) others p.2 = .inr (if 0 < others then p.2 + 1 else p.2) := gq_fig_y (by rw [fe_z]; omega)
        have hg0 : mg_s I K2 mo f L p.2 (s.1, s.2.1, gg_set s.2.2 f (tq_b f L p.2) (base + 8 * p.1) (0)) := by rw [gg_set_0]; exact hs0.mct hs3
        refine mx_al0 d_Mo_ranksLine_76 ?_
        refine mx_getI d_Mo_ranksLine_77 fl_Mo_25 (by assumption) ?_
        refine mx_ti (y := (-1)) (hs3.f0) ?_
        refine mx_ic_m1 d_Mo_ranksLine_80 ?_
        refine mx_icmp_eq 85 d_Mo_ranksLine_81 (by decide) (fun c_81 => ?_) (fun c_81 => absurd c_81 (fun z => z rfl))
        refine mx_in_0 d_Mo_ranksLine_85 ?_
        refine mx_is7 d_Mo_ranksLine_86 ?_
        refine mx_loopX (α := (mx_I)) (N := tq_fe f L (tq_b f L p.2) - tq_b f L p.2) (a0 := K2) (fun k9 z9 => mg_s I z9 mo f L p.2 (s.1, s.2.1, gg_set s.2.2 f (tq_b f L p.2) (base + 8 * p.1) (k9))) (ls := fun k9 z9 => [some (.ref (mo)), some (.int (nI (base))), some (.int (nI (many))), some (.int (nI (others))), some (.int (nI (p.1))), some (.int (nI (tq_b f L p.2))), some (.int (nI ((tq_fe f L (tq_b f L p.2) - tq_b f L p.2)))), some (.int (nI (k9)))]) (X := fun k9 z9 => (t, S, z9, P, J)) (hg0) (fun k9 hk9 z9 hinv ih => ?_) (fun z9 hinv => ?_)
        · skip
          obtain ⟨K, hz9⟩ : ∃ q, q = z9 := ⟨_, rfl⟩
          subst hz9
          try dsimp only at hinv ih ⊢
          have hg := hinv
          have hin : tq_f (f (tq_b f L p.2 + k9)) = true := tq_in (p := fun q => tq_f (f q)) (L := L) (a := tq_b f L p.2) (by omega) (by show tq_b f L p.2 + k9 < tq_fe f L (tq_b f L p.2); omega)
          have hf9 := hx.2.2.1 (tq_b f L p.2 + k9) (by omega)
          have hg9 := tq_f_v hin
          refine mx_il7 d_Mo_ranksLine_88 ?_
          refine mx_il6 d_Mo_ranksLine_90 ?_
          refine mx_icN_ge 128 d_Mo_ranksLine_92 (by decide) (by omega) (by omega) (fun c_92 => absurd c_92 (by omega)) (fun c_92 => ?_)
          refine mx_al0 d_Mo_ranksLine_95 ?_
          refine mx_getR d_Mo_ranksLine_96 fl_Mo_7 (by assumption) (by assumption) ?_
          refine mx_il1 d_Mo_ranksLine_99 ?_
          refine mx_bip 8 d_Mo_ranksLine_100 (by decide) ?_
          refine mx_il4 d_Mo_ranksLine_102 ?_
          refine mx_imulN d_Mo_ranksLine_104 ?_
          refine mx_iaddN d_Mo_ranksLine_105 ?_
          refine mx_il7 d_Mo_ranksLine_106 ?_
          refine mx_iaddN d_Mo_ranksLine_108 ?_
          refine mx_al0 d_Mo_ranksLine_109 ?_
          refine mx_il5 d_Mo_ranksLine_110 ?_
          refine mx_il7 d_Mo_ranksLine_112 ?_
          refine mx_iaddN d_Mo_ranksLine_114 ?_
          refine mx_cV1i d_Mo_ranksLine_115 (c_Mo_letter hM (hg.1.tx hx hb9) (by omega)) ok_Mo_letter ml_Mo_93 (by assumption) ⟨rfl, rfl⟩ (by decide) (Nat.le_of_ble_eq_true rfl) ?_
          refine mx_bip 48 d_Mo_ranksLine_118 (by decide) ?_
          refine mx_isub d_Mo_ranksLine_120 ?_
          refine mx_ti (y := nI (f (tq_b f L p.2 + k9) - 48)) ((nI_sub (by omega))) ?_
          refine mx_iast d_Mo_ranksLine_121 (by assumption) (nI_inb (by omega) (by omega)) ?_
          rw [nI_clamp (by omega)]
          refine mx_iN7 d_Mo_ranksLine_122 ?_
          refine mx_goto 88 d_Mo_ranksLine_125 (by decide) ?_
          exact ih (mx_up K (mo + 1) (base + (8 * (p.1)) + k9) (nI (f (tq_b f L p.2 + k9) - 48))) (hg.rk (by omega) (by omega))
        · skip
          obtain ⟨K, hz9⟩ : ∃ q, q = z9 := ⟨_, rfl⟩
          subst hz9
          try dsimp only at hinv ⊢
          have hg := hinv
          refine mx_il7 d_Mo_ranksLine_88 ?_
          refine mx_il6 d_Mo_ranksLine_90 ?_
          refine mx_icN_ge 128 d_Mo_ranksLine_92 (by decide) (by omega) (by omega) (fun c_92 => ?_) (fun c_92 => absurd c_92 (by omega))
          refine mx_al0 d_Mo_ranksLine_128 ?_
          refine mx_il5 d_Mo_ranksLine_129 ?_
          refine mx_il6 d_Mo_ranksLine_131 ?_
          refine mx_iaddN d_Mo_ranksLine_133 ?_
          refine mx_putI d_Mo_ranksLine_134 fl_Mo_87 (by assumption) ?_
          exact mx_vret d_Mo_ranksLine_137 rfl (mx_sR_of rfl (by rw [show gg_rank (tK f L) (tV f L) (tZ f L) (tq_b f L) f base many others s c = .inr ((s.1, s.2.1, gg_set s.2.2 f (tq_b f L p.2) (base + 8 * p.1) others), if 0 < others then p.2 + 1 else p.2) by unfold gg_rank; rw [hn]; simp only; rw [hfg]]; rw [← c_67]; exact rk_end hg rfl))
      · skip
        have hfg : gq_fig (tK f L) (tZ f L) others p.2 = .inl p.2 := gq_fig_n (by rw [fe_z]; omega)
        refine mx_al0 d_Mo_ranksLine_70 ?_
        refine mx_il5 d_Mo_ranksLine_71 ?_
        refine mx_cV1v d_Mo_ranksLine_73 (c_Mo_wrong0 hM hs3.f0) ok_Mo_wrong ml_Mo_113 (by assumption) ⟨rfl, rfl⟩ (by decide) (Nat.le_of_ble_eq_true rfl) ?_
        refine mx_al0 d_Mo_ranksLine_76 ?_
        refine mx_getI d_Mo_ranksLine_77 fl_Mo_25 (by assumption) ?_
        refine mx_ti (y := nI (tq_b f L p.2)) (mu_e) ?_
        refine mx_ic_m1 d_Mo_ranksLine_80 ?_
        refine mx_icmp_eq 85 d_Mo_ranksLine_81 (by decide) (fun c_81 => absurd c_81 (nI_m1b (by omega))) (fun c_81 => ?_)
        exact mx_vret d_Mo_ranksLine_84 rfl (mx_sR_of rfl (by rw [show gg_rank (tK f L) (tV f L) (tZ f L) (tq_b f L) f base many others s c = .inl p.2 by unfold gg_rank; rw [hn]; simp only; rw [hfg]]; exact ⟨(hs3.1.uu (by omega)).mg, mu_e, _, by rw [mu_n (by omega)]; exact hK2.2, by omega⟩))
    · skip
      refine mx_al0 d_Mo_ranksLine_39 ?_
      refine mx_il5 d_Mo_ranksLine_40 ?_
      refine mx_il6 d_Mo_ranksLine_42 ?_
      refine mx_iaddN d_Mo_ranksLine_44 ?_
      refine mx_cV1i d_Mo_ranksLine_45 (c_Mo_letter hM hx2 (by omega)) ok_Mo_letter ml_Mo_93 (by assumption) ⟨rfl, rfl⟩ (by decide) (Nat.le_of_ble_eq_true rfl) ?_
      refine mx_bip 48 d_Mo_ranksLine_48 (by decide) ?_
      refine mx_bip 57 d_Mo_ranksLine_50 (by decide) ?_
      refine mx_cS3i d_Mo_ranksLine_52 (c_Mo_isInF (by omega)) ok_Mo_isIn ml_Mo_57 (by decide) (Nat.le_of_ble_eq_true rfl) ?_
      refine mx_ifB_eq 64 d_Mo_ranksLine_55 (by decide) (fun c_55 => ?_) (fun c_55 => absurd c_55 (fun z => by have h8 := hout (by omega); rw [h8] at z; cases z))
      refine mx_il6 d_Mo_ranksLine_64 ?_
      refine mx_il3 d_Mo_ranksLine_66 ?_
      refine mx_icN_eq 76 d_Mo_ranksLine_67 (by decide) (by omega) (by omega) (fun c_67 => ?_) (fun c_67 => ?_)
      · skip
        have hfg : gq_fig (tK f L) (tZ f L) others p.2 = .inr (if 0 < others then p.2 + 1 else p.2) := gq_fig_y (by rw [fe_z]; omega)
        have hg0 : mg_s I K2 mo f L p.2 (s.1, s.2.1, gg_set s.2.2 f (tq_b f L p.2) (base + 8 * p.1) (0)) := by rw [gg_set_0]; exact hs0.mct hs3
        refine mx_al0 d_Mo_ranksLine_76 ?_
        refine mx_getI d_Mo_ranksLine_77 fl_Mo_25 (by assumption) ?_
        refine mx_ti (y := (-1)) (hs3.f0) ?_
        refine mx_ic_m1 d_Mo_ranksLine_80 ?_
        refine mx_icmp_eq 85 d_Mo_ranksLine_81 (by decide) (fun c_81 => ?_) (fun c_81 => absurd c_81 (fun z => z rfl))
        refine mx_in_0 d_Mo_ranksLine_85 ?_
        refine mx_is7 d_Mo_ranksLine_86 ?_
        refine mx_loopX (α := (mx_I)) (N := tq_fe f L (tq_b f L p.2) - tq_b f L p.2) (a0 := K2) (fun k9 z9 => mg_s I z9 mo f L p.2 (s.1, s.2.1, gg_set s.2.2 f (tq_b f L p.2) (base + 8 * p.1) (k9))) (ls := fun k9 z9 => [some (.ref (mo)), some (.int (nI (base))), some (.int (nI (many))), some (.int (nI (others))), some (.int (nI (p.1))), some (.int (nI (tq_b f L p.2))), some (.int (nI ((tq_fe f L (tq_b f L p.2) - tq_b f L p.2)))), some (.int (nI (k9)))]) (X := fun k9 z9 => (t, S, z9, P, J)) (hg0) (fun k9 hk9 z9 hinv ih => ?_) (fun z9 hinv => ?_)
        · skip
          obtain ⟨K, hz9⟩ : ∃ q, q = z9 := ⟨_, rfl⟩
          subst hz9
          try dsimp only at hinv ih ⊢
          have hg := hinv
          have hin : tq_f (f (tq_b f L p.2 + k9)) = true := tq_in (p := fun q => tq_f (f q)) (L := L) (a := tq_b f L p.2) (by omega) (by show tq_b f L p.2 + k9 < tq_fe f L (tq_b f L p.2); omega)
          have hf9 := hx.2.2.1 (tq_b f L p.2 + k9) (by omega)
          have hg9 := tq_f_v hin
          refine mx_il7 d_Mo_ranksLine_88 ?_
          refine mx_il6 d_Mo_ranksLine_90 ?_
          refine mx_icN_ge 128 d_Mo_ranksLine_92 (by decide) (by omega) (by omega) (fun c_92 => absurd c_92 (by omega)) (fun c_92 => ?_)
          refine mx_al0 d_Mo_ranksLine_95 ?_
          refine mx_getR d_Mo_ranksLine_96 fl_Mo_7 (by assumption) (by assumption) ?_
          refine mx_il1 d_Mo_ranksLine_99 ?_
          refine mx_bip 8 d_Mo_ranksLine_100 (by decide) ?_
          refine mx_il4 d_Mo_ranksLine_102 ?_
          refine mx_imulN d_Mo_ranksLine_104 ?_
          refine mx_iaddN d_Mo_ranksLine_105 ?_
          refine mx_il7 d_Mo_ranksLine_106 ?_
          refine mx_iaddN d_Mo_ranksLine_108 ?_
          refine mx_al0 d_Mo_ranksLine_109 ?_
          refine mx_il5 d_Mo_ranksLine_110 ?_
          refine mx_il7 d_Mo_ranksLine_112 ?_
          refine mx_iaddN d_Mo_ranksLine_114 ?_
          refine mx_cV1i d_Mo_ranksLine_115 (c_Mo_letter hM (hg.1.tx hx hb9) (by omega)) ok_Mo_letter ml_Mo_93 (by assumption) ⟨rfl, rfl⟩ (by decide) (Nat.le_of_ble_eq_true rfl) ?_
          refine mx_bip 48 d_Mo_ranksLine_118 (by decide) ?_
          refine mx_isub d_Mo_ranksLine_120 ?_
          refine mx_ti (y := nI (f (tq_b f L p.2 + k9) - 48)) ((nI_sub (by omega))) ?_
          refine mx_iast d_Mo_ranksLine_121 (by assumption) (nI_inb (by omega) (by omega)) ?_
          rw [nI_clamp (by omega)]
          refine mx_iN7 d_Mo_ranksLine_122 ?_
          refine mx_goto 88 d_Mo_ranksLine_125 (by decide) ?_
          exact ih (mx_up K (mo + 1) (base + (8 * (p.1)) + k9) (nI (f (tq_b f L p.2 + k9) - 48))) (hg.rk (by omega) (by omega))
        · skip
          obtain ⟨K, hz9⟩ : ∃ q, q = z9 := ⟨_, rfl⟩
          subst hz9
          try dsimp only at hinv ⊢
          have hg := hinv
          refine mx_il7 d_Mo_ranksLine_88 ?_
          refine mx_il6 d_Mo_ranksLine_90 ?_
          refine mx_icN_ge 128 d_Mo_ranksLine_92 (by decide) (by omega) (by omega) (fun c_92 => ?_) (fun c_92 => absurd c_92 (by omega))
          refine mx_al0 d_Mo_ranksLine_128 ?_
          refine mx_il5 d_Mo_ranksLine_129 ?_
          refine mx_il6 d_Mo_ranksLine_131 ?_
          refine mx_iaddN d_Mo_ranksLine_133 ?_
          refine mx_putI d_Mo_ranksLine_134 fl_Mo_87 (by assumption) ?_
          exact mx_vret d_Mo_ranksLine_137 rfl (mx_sR_of rfl (by rw [show gg_rank (tK f L) (tV f L) (tZ f L) (tq_b f L) f base many others s c = .inr ((s.1, s.2.1, gg_set s.2.2 f (tq_b f L p.2) (base + 8 * p.1) others), if 0 < others then p.2 + 1 else p.2) by unfold gg_rank; rw [hn]; simp only; rw [hfg]]; rw [← c_67]; exact rk_end hg rfl))
      · skip
        have hfg : gq_fig (tK f L) (tZ f L) others p.2 = .inl p.2 := gq_fig_n (by rw [fe_z]; omega)
        refine mx_al0 d_Mo_ranksLine_70 ?_
        refine mx_il5 d_Mo_ranksLine_71 ?_
        refine mx_cV1v d_Mo_ranksLine_73 (c_Mo_wrong0 hM hs3.f0) ok_Mo_wrong ml_Mo_113 (by assumption) ⟨rfl, rfl⟩ (by decide) (Nat.le_of_ble_eq_true rfl) ?_
        refine mx_al0 d_Mo_ranksLine_76 ?_
        refine mx_getI d_Mo_ranksLine_77 fl_Mo_25 (by assumption) ?_
        refine mx_ti (y := nI (tq_b f L p.2)) (mu_e) ?_
        refine mx_ic_m1 d_Mo_ranksLine_80 ?_
        refine mx_icmp_eq 85 d_Mo_ranksLine_81 (by decide) (fun c_81 => absurd c_81 (nI_m1b (by omega))) (fun c_81 => ?_)
        exact mx_vret d_Mo_ranksLine_84 rfl (mx_sR_of rfl (by rw [show gg_rank (tK f L) (tV f L) (tZ f L) (tq_b f L) f base many others s c = .inl p.2 by unfold gg_rank; rw [hn]; simp only; rw [hfg]]; exact ⟨(hs3.1.uu (by omega)).mg, mu_e, _, by rw [mu_n (by omega)]; exact hK2.2, by omega⟩))
theorem c_Mo_ranks {s : gg_S} (hM : mo_ok S P mo) (hx : mt_tx I mo f L) (hb9 : I mo 9 = -1) (hs0 : mg_s I I mo f L (c + 1) s) (hb : base = 67 ∨ base = 131) (hmany : many ≤ 8) (hoth : others ≤ 8) (hc : c < tq_n f L) : mx_C l E M_Mo_ranksLine 4 0 0 [.ref (mo), .int (nI (base)), .int (nI (many)), .int (nI (others))] (t, S, I, P, J) (mx_sR none t S P J (fun K => mg_out I K mo f L (gg_rank (tK f L) (tV f L) (tZ f L) (tq_b f L) f base many others s c))) := by
  cases h : gq_num (tK f L) (tV f L) 0 many (c + 1) with
  | inl e => exact c_Mo_ranksX hM hx hb9 hs0 hb hmany hoth hc h
  | inr p => exact c_Mo_ranksY hM hx hb9 hs0 hb hmany hoth hc h
theorem c_Mo_groundLine (hM : mo_ok S P mo) {s : gg_S} (hx : mt_tx I mo f L) (hb9 : I mo 9 = -1) (hs0 : mg_s I I mo f L c s)  : mx_C l E M_Mo_groundLine 8 0 0 [.ref (mo)] (t, S, I, P, J) (mx_sR none t S P J (fun K => mg_out I K mo f L (gg_line (tK f L) (tV f L) (tZ f L) (tq_b f L) f s c))) := by
  obtain ⟨hM0, hMp1, hMp2, hMp4, hMp5, hMp7, hMp14, hMp21, hMp22, hMp23, hMp24, hMp25, hMp26, hMp27, hMs1, hMs2, hMs3, hMs4, hMs5, hMs6, hMs7, hMs8, hMs9, hMs10, hMs11, hMs12, hMs13⟩ := id hM
  have hL := hx.2.1
  obtain ⟨g1, g2, g3, g4, g5⟩ := hs0.gin
  have h13 : I (mo + 1) 3 = nI s.1 := by rw [hs0.row]; exact g1
  have h14 : I (mo + 1) 4 = nI s.2.1 := by rw [hs0.row]; exact g2
  refine mx_C_of (ls0 := [some (.ref (mo)), none, none]) (by decide +kernel) rfl rfl (Nat.le_of_ble_eq_true rfl) rfl ?_
  refine mx_al0 d_Mo_groundLine_0 ?_
  refine mx_cV0iR d_Mo_groundLine_1 (c_Mo_hereS hM hx hs0.mc) ok_Mo_here ml_Mo_110 (by assumption) ⟨rfl, rfl⟩ (by decide) (Nat.le_of_ble_eq_true rfl) (fun K0 hK0 => ?_)
  have hs := hK0.1
  have ha := hK0.2
  refine mx_is1 d_Mo_groundLine_4 ?_
  refine mx_al0 d_Mo_groundLine_5 ?_
  refine mx_ldcS (i := 50) d_Mo_groundLine_6 rfl rfl ?_
  refine mx_cV1iR d_Mo_groundLine_8 (c_Mo_has_50 hM (hs.tx hx) hs) ok_Mo_has ml_Mo_117 (by assumption) ⟨rfl, rfl⟩ (by decide) (Nat.le_of_ble_eq_true rfl) (fun K1 hK1 => ?_)
  refine mx_ifB_eq 22 d_Mo_groundLine_11 (by decide) (fun c_11 => ?_) (fun c_11 => ?_)
  · skip
    have hk10 : ¬ tK f L c = 10 := of_decide_eq_false c_11
    rw [if_neg hk10] at hK1
    have ha := hK1.2 hk10
    have hs := hK1.1
    refine mx_al0 d_Mo_groundLine_22 ?_
    refine mx_ldcS (i := 51) d_Mo_groundLine_23 rfl rfl ?_
    refine mx_cV1iR d_Mo_groundLine_25 (c_Mo_has_51 hM (hs.tx hx) hs) ok_Mo_has ml_Mo_117 (by assumption) ⟨rfl, rfl⟩ (by decide) (Nat.le_of_ble_eq_true rfl) (fun K2 hK2 => ?_)
    refine mx_ifB_eq 39 d_Mo_groundLine_28 (by decide) (fun c_28 => ?_) (fun c_28 => ?_)
    · skip
      have hk11 : ¬ tK f L c = 11 := of_decide_eq_false c_28
      rw [if_neg hk11] at hK2
      have ha := hK2.2 hk11
      have hs := hK2.1
      refine mx_al0 d_Mo_groundLine_39 ?_
      refine mx_ldcS (i := 64) d_Mo_groundLine_40 rfl rfl ?_
      refine mx_cV1iR d_Mo_groundLine_42 (c_Mo_has_64 hM (hs.tx hx) hs) ok_Mo_has ml_Mo_117 (by assumption) ⟨rfl, rfl⟩ (by decide) (Nat.le_of_ble_eq_true rfl) (fun K3 hK3 => ?_)
      refine mx_ifB_eq 69 d_Mo_groundLine_45 (by decide) (fun c_45 => ?_) (fun c_45 => ?_)
      · skip
        have hk24 : ¬ tK f L c = 24 := of_decide_eq_false c_45
        rw [if_neg hk24] at hK3
        have ha := hK3.2 hk24
        have hs := hK3.1
        refine mx_al0 d_Mo_groundLine_69 ?_
        refine mx_ldcS (i := 65) d_Mo_groundLine_70 rfl rfl ?_
        refine mx_cV1iR d_Mo_groundLine_72 (c_Mo_has_65 hM (hs.tx hx) hs) ok_Mo_has ml_Mo_117 (by assumption) ⟨rfl, rfl⟩ (by decide) (Nat.le_of_ble_eq_true rfl) (fun K4 hK4 => ?_)
        refine mx_ifB_eq 100 d_Mo_groundLine_75 (by decide) (fun c_75 => ?_) (fun c_75 => ?_)
        · skip
          have hk25 : ¬ tK f L c = 25 := of_decide_eq_false c_75
          rw [if_neg hk25] at hK4
          have ha := hK4.2 hk25
          have hs := hK4.1
          refine mx_al0 d_Mo_groundLine_100 ?_
          refine mx_ldcS (i := 66) d_Mo_groundLine_101 rfl rfl ?_
          refine mx_cV1iR d_Mo_groundLine_103 (c_Mo_has_66 hM (hs.tx hx) hs) ok_Mo_has ml_Mo_117 (by assumption) ⟨rfl, rfl⟩ (by decide) (Nat.le_of_ble_eq_true rfl) (fun K5 hK5 => ?_)
          refine mx_ifB_eq 120 d_Mo_groundLine_106 (by decide) (fun c_106 => ?_) (fun c_106 => ?_)
          · skip
            have hk26 : ¬ tK f L c = 26 := of_decide_eq_false c_106
            rw [if_neg hk26] at hK5
            have ha := hK5.2 hk26
            have hs := hK5.1
            refine mx_al0 d_Mo_groundLine_120 ?_
            refine mx_ldcS (i := 56) d_Mo_groundLine_121 rfl rfl ?_
            refine mx_cV1iR d_Mo_groundLine_123 (c_Mo_has_56 hM (hs.tx hx) hs) ok_Mo_has ml_Mo_117 (by assumption) ⟨rfl, rfl⟩ (by decide) (Nat.le_of_ble_eq_true rfl) (fun K6 hK6 => ?_)
            refine mx_ifB_eq 142 d_Mo_groundLine_126 (by decide) (fun c_126 => ?_) (fun c_126 => ?_)
            · skip
              have hk16 : ¬ tK f L c = 16 := of_decide_eq_false c_126
              rw [if_neg hk16] at hK6
              have ha := hK6.2 hk16
              have hs := hK6.1
              refine mx_al0 d_Mo_groundLine_142 ?_
              refine mx_ldcS (i := 67) d_Mo_groundLine_143 rfl rfl ?_
              refine mx_cV1iR d_Mo_groundLine_145 (c_Mo_has_67 hM (hs.tx hx) hs) ok_Mo_has ml_Mo_117 (by assumption) ⟨rfl, rfl⟩ (by decide) (Nat.le_of_ble_eq_true rfl) (fun K7 hK7 => ?_)
              refine mx_ifB_eq 175 d_Mo_groundLine_148 (by decide) (fun c_148 => ?_) (fun c_148 => ?_)
              · skip
                have hk27 : ¬ tK f L c = 27 := of_decide_eq_false c_148
                rw [if_neg hk27] at hK7
                have ha := hK7.2 hk27
                have hs := hK7.1
                refine mx_al0 d_Mo_groundLine_175 ?_
                refine mx_ldcS (i := 68) d_Mo_groundLine_176 rfl rfl ?_
                refine mx_cV1iR d_Mo_groundLine_178 (c_Mo_has_68 hM (hs.tx hx) hs) ok_Mo_has ml_Mo_117 (by assumption) ⟨rfl, rfl⟩ (by decide) (Nat.le_of_ble_eq_true rfl) (fun K8 hK8 => ?_)
                refine mx_ifB_eq 208 d_Mo_groundLine_181 (by decide) (fun c_181 => ?_) (fun c_181 => ?_)
                · skip
                  have hk28 : ¬ tK f L c = 28 := of_decide_eq_false c_181
                  rw [if_neg hk28] at hK8
                  have ha := hK8.2 hk28
                  have hs := hK8.1
                  have hq9 : gg_line (tK f L) (tV f L) (tZ f L) (tq_b f L) f s c = .inl c := gg_line_0 (fun k hb z => fun hm => by (subst z; simp only [List.mem_cons, List.not_mem_nil, or_false] at hm; rcases hm with h9 | h9 | h9 | h9 | h9 | h9 | h9 | h9 <;> first | exact hk10 h9 | exact hk11 h9 | exact hk24 h9 | exact hk25 h9 | exact hk26 h9 | exact hk16 h9 | exact hk27 h9 | exact hk28 h9))
                  refine mx_al0 d_Mo_groundLine_208 ?_
                  refine mx_al0 d_Mo_groundLine_209 ?_
                  refine mx_getI d_Mo_groundLine_210 fl_Mo_87 (by assumption) ?_
                  refine mx_ti (y := nI (tq_b f L c)) (ha) ?_
                  refine mx_cV1vR d_Mo_groundLine_213 (c_Mo_wrongS hM hs ha (u := 500) (by omega) hL) ok_Mo_wrong ml_Mo_113 (by assumption) ⟨rfl, rfl⟩ (by decide) (Nat.le_of_ble_eq_true rfl) (fun K9 hK9 => ?_)
                  exact mx_vret d_Mo_groundLine_216 rfl (mx_sR_of rfl (by rw [hq9]; exact hs0.mcb hK9 (by omega)))
                · skip
                  have hk : tK f L c = 28 := of_decide_eq_true c_181
                  rw [if_pos hk] at hK8
                  have hs := hK8.1
                  have hg := hs0.mct hs
                  have hx2 := hs.tx hx
                  have hb2 := (hs.1.2 9 (by omega) (by omega) (by omega)).trans hb9
                  have hcT := tK_lt hk (by omega)
                  have hq9 : gg_line (tK f L) (tV f L) (tZ f L) (tq_b f L) f s c = gg_fld 8 s (gq_let (tK f L) (tV f L) (c + 1)) := by unfold gg_line; rw [if_neg (by rw [hk]; omega), if_neg (by rw [hk]; omega), if_neg (by rw [hk]; omega), if_neg (by rw [hk]; omega), if_neg (by rw [hk]; omega), if_neg (by rw [hk]; omega), if_neg (by rw [hk]; omega), if_pos hk]
                  refine mx_al0 d_Mo_groundLine_184 ?_
                  refine mx_cV0iR d_Mo_groundLine_185 (c_Mo_lettersR hM hx2 hg.mc) ok_Mo_letters ml_Mo_148 (by assumption) ⟨rfl, rfl⟩ (by decide) (Nat.le_of_ble_eq_true rfl) (fun K9 hK9 => ?_)
                  refine mx_is2 d_Mo_groundLine_188 ?_
                  refine mx_al0 d_Mo_groundLine_189 ?_
                  refine mx_getI d_Mo_groundLine_190 fl_Mo_25 (by assumption) ?_
                  refine mx_ic_m1 d_Mo_groundLine_193 ?_
                  refine mx_icmp_ne 205 d_Mo_groundLine_194 (by decide) (fun c_194 => ?_) (fun c_194 => ?_)
                  · skip
                    obtain ⟨e, hr, hb⟩ := mr_no hK9 c_194
                    have hq := nx_inl hr
                    refine mx_goto 216 d_Mo_groundLine_205 (by decide) ?_
                    exact mx_vret d_Mo_groundLine_216 rfl (mx_sR_of rfl (by rw [hq9, hq]; exact hg.mcb hb (by omega)))
                  · skip
                    obtain ⟨c3, hr, hs4⟩ := mr_ok hK9 c_194 hL
                    obtain ⟨k, hk1, hk2, hk3⟩ := gate_ok hr
                    refine mx_al0 d_Mo_groundLine_197 ?_
                    refine mx_getR d_Mo_groundLine_198 fl_Mo_7 (by assumption) (by assumption) ?_
                    refine mx_bip 8 d_Mo_groundLine_201 (by decide) ?_
                    refine mx_il2 d_Mo_groundLine_203 ?_
                    refine mx_iast d_Mo_groundLine_204 (by assumption) (nI_inb (by omega) (by omega)) ?_
                    rw [nI_clamp (by omega)]
                    refine mx_goto 216 d_Mo_groundLine_205 (by decide) ?_
                    exact mx_vret d_Mo_groundLine_216 rfl (mx_sR_of rfl (by rw [hq9, hk1, hk3]; subst hk2; exact mg_fld (hg.mct hs4) (by omega)))
              · skip
                have hk : tK f L c = 27 := of_decide_eq_true c_148
                rw [if_pos hk] at hK7
                have hs := hK7.1
                have hg := hs0.mct hs
                have hx2 := hs.tx hx
                have hb2 := (hs.1.2 9 (by omega) (by omega) (by omega)).trans hb9
                have hcT := tK_lt hk (by omega)
                have hq9 : gg_line (tK f L) (tV f L) (tZ f L) (tq_b f L) f s c = gg_fld 7 s (gq_let (tK f L) (tV f L) (c + 1)) := by unfold gg_line; rw [if_neg (by rw [hk]; omega), if_neg (by rw [hk]; omega), if_neg (by rw [hk]; omega), if_neg (by rw [hk]; omega), if_neg (by rw [hk]; omega), if_neg (by rw [hk]; omega), if_pos hk]
                refine mx_al0 d_Mo_groundLine_151 ?_
                refine mx_cV0iR d_Mo_groundLine_152 (c_Mo_lettersR hM hx2 hg.mc) ok_Mo_letters ml_Mo_148 (by assumption) ⟨rfl, rfl⟩ (by decide) (Nat.le_of_ble_eq_true rfl) (fun K9 hK9 => ?_)
                refine mx_is2 d_Mo_groundLine_155 ?_
                refine mx_al0 d_Mo_groundLine_156 ?_
                refine mx_getI d_Mo_groundLine_157 fl_Mo_25 (by assumption) ?_
                refine mx_ic_m1 d_Mo_groundLine_160 ?_
                refine mx_icmp_ne 172 d_Mo_groundLine_161 (by decide) (fun c_161 => ?_) (fun c_161 => ?_)
                · skip
                  obtain ⟨e, hr, hb⟩ := mr_no hK9 c_161
                  have hq := nx_inl hr
                  refine mx_goto 216 d_Mo_groundLine_172 (by decide) ?_
                  exact mx_vret d_Mo_groundLine_216 rfl (mx_sR_of rfl (by rw [hq9, hq]; exact hg.mcb hb (by omega)))
                · skip
                  obtain ⟨c3, hr, hs4⟩ := mr_ok hK9 c_161 hL
                  obtain ⟨k, hk1, hk2, hk3⟩ := gate_ok hr
                  refine mx_al0 d_Mo_groundLine_164 ?_
                  refine mx_getR d_Mo_groundLine_165 fl_Mo_7 (by assumption) (by assumption) ?_
                  refine mx_bip 7 d_Mo_groundLine_168 (by decide) ?_
                  refine mx_il2 d_Mo_groundLine_170 ?_
                  refine mx_iast d_Mo_groundLine_171 (by assumption) (nI_inb (by omega) (by omega)) ?_
                  rw [nI_clamp (by omega)]
                  refine mx_goto 216 d_Mo_groundLine_172 (by decide) ?_
                  exact mx_vret d_Mo_groundLine_216 rfl (mx_sR_of rfl (by rw [hq9, hk1, hk3]; subst hk2; exact mg_fld (hg.mct hs4) (by omega)))
            · skip
              have hk : tK f L c = 16 := of_decide_eq_true c_126
              rw [if_pos hk] at hK6
              have hs := hK6.1
              have hg := hs0.mct hs
              have hx2 := hs.tx hx
              have hb2 := (hs.1.2 9 (by omega) (by omega) (by omega)).trans hb9
              have hcT := tK_lt hk (by omega)
              have hq9 : gg_line (tK f L) (tV f L) (tZ f L) (tq_b f L) f s c = gg_fld 6 s (gq_num (tK f L) (tV f L) 0 1000 (c + 1)) := by unfold gg_line; rw [if_neg (by rw [hk]; omega), if_neg (by rw [hk]; omega), if_neg (by rw [hk]; omega), if_neg (by rw [hk]; omega), if_neg (by rw [hk]; omega), if_pos hk]
              refine mx_al0 d_Mo_groundLine_129 ?_
              refine mx_bip 6 d_Mo_groundLine_130 (by decide) ?_
              refine mx_in_0 d_Mo_groundLine_132 ?_
              refine mx_sip 999 d_Mo_groundLine_133 (by decide) ?_
              refine mx_cV3vR d_Mo_groundLine_136 (c_Mo_tells hM hx2 hb2 hg.self (k := 6) (n := 1000) (by omega) h999 hcT) ok_Mo_tells ml_Mo_170 (by assumption) ⟨rfl, rfl⟩ (by decide) (Nat.le_of_ble_eq_true rfl) (fun K9 hK9 => ?_)
              refine mx_goto 216 d_Mo_groundLine_139 (by decide) ?_
              exact mx_vret d_Mo_groundLine_216 rfl (mx_sR_of rfl (by rw [hq9]; exact mg_out.tr hg hK9))
          · skip
            have hk : tK f L c = 26 := of_decide_eq_true c_106
            rw [if_pos hk] at hK5
            have hs := hK5.1
            have hg := hs0.mct hs
            have hx2 := hs.tx hx
            have hb2 := (hs.1.2 9 (by omega) (by omega) (by omega)).trans hb9
            have hcT := tK_lt hk (by omega)
            have hq9 : gg_line (tK f L) (tV f L) (tZ f L) (tq_b f L) f s c = gg_fld 5 s (gq_num (tK f L) (tV f L) 0 101 (c + 1)) := by unfold gg_line; rw [if_neg (by rw [hk]; omega), if_neg (by rw [hk]; omega), if_neg (by rw [hk]; omega), if_neg (by rw [hk]; omega), if_pos hk]
            refine mx_al0 d_Mo_groundLine_109 ?_
            refine mx_in_5 d_Mo_groundLine_110 ?_
            refine mx_in_0 d_Mo_groundLine_111 ?_
            refine mx_bip 100 d_Mo_groundLine_112 (by decide) ?_
            refine mx_cV3vR d_Mo_groundLine_114 (c_Mo_tells hM hx2 hb2 hg.self (k := 5) (n := 101) (by omega) hle100 hcT) ok_Mo_tells ml_Mo_170 (by assumption) ⟨rfl, rfl⟩ (by decide) (Nat.le_of_ble_eq_true rfl) (fun K9 hK9 => ?_)
            refine mx_goto 216 d_Mo_groundLine_117 (by decide) ?_
            exact mx_vret d_Mo_groundLine_216 rfl (mx_sR_of rfl (by rw [hq9]; exact mg_out.tr hg hK9))
        · skip
          have hk : tK f L c = 25 := of_decide_eq_true c_75
          rw [if_pos hk] at hK4
          have hs := hK4.1
          have hg := hs0.mct hs
          have hx2 := hs.tx hx
          have hb2 := (hs.1.2 9 (by omega) (by omega) (by omega)).trans hb9
          have hcT := tK_lt hk (by omega)
          have hq9 : gg_line (tK f L) (tV f L) (tZ f L) (tq_b f L) f s c = gg_rank (tK f L) (tV f L) (tZ f L) (tq_b f L) f 131 s.2.1 s.1 s c := by unfold gg_line; rw [if_neg (by rw [hk]; omega), if_neg (by rw [hk]; omega), if_neg (by rw [hk]; omega), if_pos hk]
          refine mx_al0 d_Mo_groundLine_78 ?_
          refine mx_sip 131 d_Mo_groundLine_79 (by decide) ?_
          refine mx_al0 d_Mo_groundLine_82 ?_
          refine mx_getR d_Mo_groundLine_83 fl_Mo_7 (by assumption) (by assumption) ?_
          refine mx_in_4 d_Mo_groundLine_86 ?_
          refine mx_iald d_Mo_groundLine_87 (by assumption) (nI_inb (by omega) (by omega)) ?_
          refine mx_ti (y := K4 (mo + 1) (4)) (by rw [nI_clamp (by omega)]) ?_
          refine mx_ti (y := nI (s.2.1)) ((by rw [hg.row]; exact g2)) ?_
          refine mx_al0 d_Mo_groundLine_88 ?_
          refine mx_getR d_Mo_groundLine_89 fl_Mo_7 (by assumption) (by assumption) ?_
          refine mx_in_3 d_Mo_groundLine_92 ?_
          refine mx_iald d_Mo_groundLine_93 (by assumption) (nI_inb (by omega) (by omega)) ?_
          refine mx_ti (y := K4 (mo + 1) (3)) (by rw [nI_clamp (by omega)]) ?_
          refine mx_ti (y := nI (s.1)) ((by rw [hg.row]; exact g1)) ?_
          refine mx_cV3vR d_Mo_groundLine_94 (c_Mo_ranks hM hx2 hb2 hg.self (Or.inr rfl) g4 g3 hcT) ok_Mo_ranksLine ml_Mo_163 (by assumption) ⟨rfl, rfl⟩ (by decide) (Nat.le_of_ble_eq_true rfl) (fun K9 hK9 => ?_)
          refine mx_goto 216 d_Mo_groundLine_97 (by decide) ?_
          exact mx_vret d_Mo_groundLine_216 rfl (mx_sR_of rfl (by rw [hq9]; exact mg_out.tr hg hK9))
      · skip
        have hk : tK f L c = 24 := of_decide_eq_true c_45
        rw [if_pos hk] at hK3
        have hs := hK3.1
        have hg := hs0.mct hs
        have hx2 := hs.tx hx
        have hb2 := (hs.1.2 9 (by omega) (by omega) (by omega)).trans hb9
        have hcT := tK_lt hk (by omega)
        have hq9 : gg_line (tK f L) (tV f L) (tZ f L) (tq_b f L) f s c = gg_rank (tK f L) (tV f L) (tZ f L) (tq_b f L) f 67 s.1 s.2.1 s c := by unfold gg_line; rw [if_neg (by rw [hk]; omega), if_neg (by rw [hk]; omega), if_pos hk]
        refine mx_al0 d_Mo_groundLine_48 ?_
        refine mx_bip 67 d_Mo_groundLine_49 (by decide) ?_
        refine mx_al0 d_Mo_groundLine_51 ?_
        refine mx_getR d_Mo_groundLine_52 fl_Mo_7 (by assumption) (by assumption) ?_
        refine mx_in_3 d_Mo_groundLine_55 ?_
        refine mx_iald d_Mo_groundLine_56 (by assumption) (nI_inb (by omega) (by omega)) ?_
        refine mx_ti (y := K3 (mo + 1) (3)) (by rw [nI_clamp (by omega)]) ?_
        refine mx_ti (y := nI (s.1)) ((by rw [hg.row]; exact g1)) ?_
        refine mx_al0 d_Mo_groundLine_57 ?_
        refine mx_getR d_Mo_groundLine_58 fl_Mo_7 (by assumption) (by assumption) ?_
        refine mx_in_4 d_Mo_groundLine_61 ?_
        refine mx_iald d_Mo_groundLine_62 (by assumption) (nI_inb (by omega) (by omega)) ?_
        refine mx_ti (y := K3 (mo + 1) (4)) (by rw [nI_clamp (by omega)]) ?_
        refine mx_ti (y := nI (s.2.1)) ((by rw [hg.row]; exact g2)) ?_
        refine mx_cV3vR d_Mo_groundLine_63 (c_Mo_ranks hM hx2 hb2 hg.self (Or.inl rfl) g3 g4 hcT) ok_Mo_ranksLine ml_Mo_163 (by assumption) ⟨rfl, rfl⟩ (by decide) (Nat.le_of_ble_eq_true rfl) (fun K9 hK9 => ?_)
        refine mx_goto 216 d_Mo_groundLine_66 (by decide) ?_
        exact mx_vret d_Mo_groundLine_216 rfl (mx_sR_of rfl (by rw [hq9]; exact mg_out.tr hg hK9))
    · skip
      have hk : tK f L c = 11 := of_decide_eq_true c_28
      rw [if_pos hk] at hK2
      have hs := hK2.1
      have hg := hs0.mct hs
      have hx2 := hs.tx hx
      have hb2 := (hs.1.2 9 (by omega) (by omega) (by omega)).trans hb9
      have hcT := tK_lt hk (by omega)
      have hl9 : gg_line (tK f L) (tV f L) (tZ f L) (tq_b f L) f s c = if s.2.1 < 8 then gg_guest (tK f L) (tV f L) s c else .inl c := by unfold gg_line; rw [if_neg (by rw [hk]; omega), if_pos hk]
      refine mx_al0 d_Mo_groundLine_31 ?_
      refine mx_il1 d_Mo_groundLine_32 ?_
      refine mx_cV1vR d_Mo_groundLine_33 (c_Mo_guestLine hM hx2 hb2 hg.self hk) ok_Mo_guestLine ml_Mo_158 (by assumption) ⟨rfl, rfl⟩ (by decide) (Nat.le_of_ble_eq_true rfl) (fun K9 hK9 => ?_)
      refine mx_goto 216 d_Mo_groundLine_36 (by decide) ?_
      exact mx_vret d_Mo_groundLine_216 rfl (mx_sR_of rfl (by rw [hl9]; exact mg_out.tr hg hK9))
  · skip
    have hk : tK f L c = 10 := of_decide_eq_true c_11
    rw [if_pos hk] at hK1
    have hs := hK1.1
    have hg := hs0.mct hs
    have hx2 := hs.tx hx
    have hb2 := (hs.1.2 9 (by omega) (by omega) (by omega)).trans hb9
    have hcT := tK_lt hk (by omega)
    have hl9 : gg_line (tK f L) (tV f L) (tZ f L) (tq_b f L) f s c = if s.1 < 8 then gg_host (tK f L) (tV f L) s c else .inl c := by unfold gg_line; rw [if_pos hk]
    refine mx_al0 d_Mo_groundLine_14 ?_
    refine mx_il1 d_Mo_groundLine_15 ?_
    refine mx_cV1vR d_Mo_groundLine_16 (c_Mo_hostLine hM hx2 hb2 hg.self hk) ok_Mo_hostLine ml_Mo_153 (by assumption) ⟨rfl, rfl⟩ (by decide) (Nat.le_of_ble_eq_true rfl) (fun K9 hK9 => ?_)
    refine mx_goto 216 d_Mo_groundLine_19 (by decide) ?_
    exact mx_vret d_Mo_groundLine_216 rfl (mx_sR_of rfl (by rw [hl9]; exact mg_out.tr hg hK9))
end BE72
