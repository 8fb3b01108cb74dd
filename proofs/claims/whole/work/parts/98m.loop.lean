/-! THE LAW'S LOOP, AND ITS BEGINNING -/
section CP98
variable {l : Launch} {E : mx_Env} {M : mx_M} {d k n k2 n2 pc p1 p2 p3 p4 p5 p6 nx idx i j t x c : Nat} {ls : List (Option Value)} {o5 o6 : Option Value} {st : List Value} {X : mx_H} {Q : mx_R → mx_H → Prop} {S : mx_S} {I : mx_I} {P : mx_P} {J : mx_G} {v w : Int32}
/-- the law's end: true -/
def lw_one : mx_R → mx_H → Prop := fun r _ => r = .inl (some (.int 1))
theorem by_63 (v : Int32) : ∃ b, b < 64 ∧ v &&& nI 63 = nI b := by
  refine ⟨(v.toBitVec &&& 63#32).toNat, ?_, ?_⟩
  · rw [BitVec.toNat_and]; exact Nat.lt_of_le_of_lt Nat.and_le_right (by decide)
  · apply Int32.toBitVec_inj.mp
    show (v &&& Int32.ofNat 63).toBitVec = (Int32.ofNat _).toBitVec
    rw [Int32.toBitVec_and, Int32.toBitVec_ofNat']
    simp
theorem lw_gt (hL : mx_L E ≤ 3072) (hi : i ≤ 3078) : nI (mx_L E) - nI 6 < nI i ↔ mx_L E < i + 6 := by
  have e1 := nI_toInt (n := mx_L E) (by omega)
  have e2 := nI_toInt (n := 6) (by omega)
  have e3 := nI_toInt (n := i) (by omega)
  rw [Int32.lt_iff_toInt_lt, fb_subI (by rw [e1, e2]; omega) (by rw [e1, e2]; omega), e1, e2, e3]
  omega
theorem law_loop (htr : l.stackTraces = false) (hL : mx_L E ≤ 3072) (hd : 60 ≤ d) : ∀ (u i t : Nat) (S : mx_S) (I : mx_I) (P : mx_P) (J : mx_G) (o5 o6 : Option Value) (k n : Nat), mx_L E ≤ i + 6 * u + 5 → i ≤ 3078 → 6 * u ≤ k → 600 * u ≤ n → al_ok t S I P x → mx_E l E M_law d k n 23 (lw_ls E x i o5 o6) [] (t, S, I, P, J) lw_one := by
  intro u
  induction u with
  | zero =>
    intro i t S I P J o5 o6 k n h1 hi hk hn h
    refine mx_il4 d_law_23 ?_
    refine mx_al0 d_law_25 ?_
    refine mx_slen d_law_26 ?_
    refine mx_bip 6 d_law_27 (by decide) ?_
    refine mx_isub d_law_29 ?_
    refine mx_icmp_gt 3190 d_law_30 (by decide) (fun _ => ?_) (fun c => absurd ((lw_gt hL hi).mpr (by omega)) c)
    refine mx_in_1 d_law_3190 ?_
    exact mx_zret d_law_3191 rfl (Or.inr rfl) rfl
  | succ u ih =>
    intro i t S I P J o5 o6 k n h1 hi hk hn h
    refine mx_il4 d_law_23 ?_
    refine mx_al0 d_law_25 ?_
    refine mx_slen d_law_26 ?_
    refine mx_bip 6 d_law_27 (by decide) ?_
    refine mx_isub d_law_29 ?_
    refine mx_icmp_gt 3190 d_law_30 (by decide) (fun _ => ?_) (fun c => ?_)
    · refine mx_in_1 d_law_3190 ?_
      exact mx_zret d_law_3191 rfl (Or.inr rfl) rfl
    have hi6 : i + 6 ≤ mx_L E := by
      have := mt (lw_gt hL hi).mpr c
      omega
    have kk : ∀ t' S' I' P' J' o5' o6', t ≤ t' → al_ok t' S' I' P' x → mx_E l E M_law d (k - 6) (n - 600) 3184 (lw_ls E x i o5' o6') [] (t', S', I', P', J') lw_one := fun t' S' I' P' J' o5' o6' _ h' => by
      refine mx_ii4 d_law_3184 (v := nI 6) (by decide) ?_
      rw [nI_add]
      refine mx_goto 23 d_law_3187 (by decide) ?_
      exact ih (i + 6) t' S' I' P' J' o5' o6' (k - 6) (n - 600) (by omega) (by omega) (by omega) (by omega) h'
    refine mx_al0 d_law_33 ?_
    refine mx_il4 d_law_34 ?_
    refine mx_sload d_law_36 (by omega) hL ?_
    refine mx_bip 63 d_law_37 (by decide) ?_
    refine mx_iand d_law_39 ?_
    obtain ⟨z, hz, ez⟩ := by_63 (mx_xs E i)
    rw [ez]
    by_cases k_0 : z = 0
    · subst k_0
      exact mx_tabIn 268 d_law_40 (by decide) (by decide) rfl (by decide) (lc_feed htr hi6 hL hd (by omega) (by omega) h kk)
    by_cases k_1 : z = 1
    · subst k_1
      exact mx_tabIn 341 d_law_40 (by decide) (by decide) rfl (by decide) (lc_end htr hi6 hL hd (by omega) (by omega) h kk)
    by_cases k_2 : z = 2
    · subst k_2
      exact mx_tabIn 366 d_law_40 (by decide) (by decide) rfl (by decide) (lc_ground htr hi6 hL hd (by omega) (by omega) h kk)
    by_cases k_3 : z = 3
    · subst k_3
      exact mx_tabIn 410 d_law_40 (by decide) (by decide) rfl (by decide) (lc_law htr hi6 hL hd (by omega) (by omega) h kk)
    by_cases k_4 : z = 4
    · subst k_4
      exact mx_tabIn 454 d_law_40 (by decide) (by decide) rfl (by decide) (lc_fault htr hi6 hL hd (by omega) (by omega) h kk)
    by_cases k_5 : z = 5
    · subst k_5
      exact mx_tabIn 467 d_law_40 (by decide) (by decide) rfl (by decide) (lc_host htr hi6 hL hd (by omega) (by omega) h kk)
    by_cases k_6 : z = 6
    · subst k_6
      exact mx_tabIn 535 d_law_40 (by decide) (by decide) rfl (by decide) (lc_guest htr hi6 hL hd (by omega) (by omega) h kk)
    by_cases k_7 : z = 7
    · subst k_7
      exact mx_tabIn 603 d_law_40 (by decide) (by decide) rfl (by decide) (lc_rank htr hi6 hL hd (by omega) (by omega) h kk)
    by_cases k_8 : z = 8
    · subst k_8
      exact mx_tabIn 699 d_law_40 (by decide) (by decide) rfl (by decide) (lc_booked htr hi6 hL hd (by omega) (by omega) h kk)
    by_cases k_9 : z = 9
    · subst k_9
      exact mx_tabIn 767 d_law_40 (by decide) (by decide) rfl (by decide) (lc_can htr hi6 hL hd (by omega) (by omega) h kk)
    by_cases k_10 : z = 10
    · subst k_10
      exact mx_tabIn 854 d_law_40 (by decide) (by decide) rfl (by decide) (lc_lets htr hi6 hL hd (by omega) (by omega) h kk)
    by_cases k_11 : z = 11
    · subst k_11
      exact mx_tabIn 941 d_law_40 (by decide) (by decide) rfl (by decide) (lc_joy htr hi6 hL hd (by omega) (by omega) h kk)
    by_cases k_12 : z = 12
    · subst k_12
      exact mx_tabIn 1021 d_law_40 (by decide) (by decide) rfl (by decide) (lc_book htr hi6 hL hd (by omega) (by omega) h kk)
    by_cases k_13 : z = 13
    · subst k_13
      exact mx_tabIn 1101 d_law_40 (by decide) (by decide) rfl (by decide) (lc_strike htr hi6 hL hd (by omega) (by omega) h kk)
    by_cases k_14 : z = 14
    · subst k_14
      exact mx_tabIn 1169 d_law_40 (by decide) (by decide) rfl (by decide) (lc_change htr hi6 hL hd (by omega) (by omega) h kk)
    by_cases k_15 : z = 15
    · subst k_15
      exact mx_tabIn 1249 d_law_40 (by decide) (by decide) rfl (by decide) (lc_mark htr hi6 hL hd (by omega) (by omega) h kk)
    by_cases k_16 : z = 16
    · subst k_16
      exact mx_tabIn 1317 d_law_40 (by decide) (by decide) rfl (by decide) (lc_gate htr hi6 hL hd (by omega) (by omega) h kk)
    by_cases k_17 : z = 17
    · subst k_17
      exact mx_tabIn 1385 d_law_40 (by decide) (by decide) rfl (by decide) (lc_value htr hi6 hL hd (by omega) (by omega) h kk)
    by_cases k_18 : z = 18
    · subst k_18
      exact mx_tabIn 1493 d_law_40 (by decide) (by decide) rfl (by decide) (lc_weeks htr hi6 hL hd (by omega) (by omega) h kk)
    by_cases k_19 : z = 19
    · subst k_19
      exact mx_tabIn 1549 d_law_40 (by decide) (by decide) rfl (by decide) (lc_meetings htr hi6 hL hd (by omega) (by omega) h kk)
    by_cases k_20 : z = 20
    · subst k_20
      exact mx_tabIn 1590 d_law_40 (by decide) (by decide) rfl (by decide) (lc_twice htr hi6 hL hd (by omega) (by omega) h kk)
    by_cases k_21 : z = 21
    · subst k_21
      exact mx_tabIn 1603 d_law_40 (by decide) (by decide) rfl (by decide) (lc_taboo htr hi6 hL hd (by omega) (by omega) h kk)
    by_cases k_22 : z = 22
    · subst k_22
      exact mx_tabIn 1616 d_law_40 (by decide) (by decide) rfl (by decide) (lc_hostBest htr hi6 hL hd (by omega) (by omega) h kk)
    by_cases k_23 : z = 23
    · subst k_23
      exact mx_tabIn 1672 d_law_40 (by decide) (by decide) rfl (by decide) (lc_guestBest htr hi6 hL hd (by omega) (by omega) h kk)
    by_cases k_24 : z = 24
    · subst k_24
      exact mx_tabIn 1728 d_law_40 (by decide) (by decide) rfl (by decide) (lc_ways htr hi6 hL hd (by omega) (by omega) h kk)
    by_cases k_25 : z = 25
    · subst k_25
      exact mx_tabIn 1741 d_law_40 (by decide) (by decide) rfl (by decide) (lc_rather htr hi6 hL hd (by omega) (by omega) h kk)
    by_cases k_26 : z = 26
    · subst k_26
      exact mx_tabIn 1785 d_law_40 (by decide) (by decide) rfl (by decide) (lc_row htr hi6 hL hd (by omega) (by omega) h kk)
    by_cases k_27 : z = 27
    · subst k_27
      exact mx_tabIn 1881 d_law_40 (by decide) (by decide) rfl (by decide) (lc_afternoon htr hi6 hL hd (by omega) (by omega) h kk)
    by_cases k_28 : z = 28
    · subst k_28
      exact mx_tabIn 1949 d_law_40 (by decide) (by decide) rfl (by decide) (lc_rules htr hi6 hL hd (by omega) (by omega) h kk)
    by_cases k_29 : z = 29
    · subst k_29
      exact mx_tabIn 2021 d_law_40 (by decide) (by decide) rfl (by decide) (lc_send htr hi6 hL hd (by omega) (by omega) h kk)
    by_cases k_30 : z = 30
    · subst k_30
      exact mx_tabIn 2065 d_law_40 (by decide) (by decide) rfl (by decide) (lc_hand htr hi6 hL hd (by omega) (by omega) h kk)
    by_cases k_31 : z = 31
    · subst k_31
      exact mx_tabIn 2137 d_law_40 (by decide) (by decide) rfl (by decide) (lc_dry htr hi6 hL hd (by omega) (by omega) h kk)
    by_cases k_32 : z = 32
    · subst k_32
      exact mx_tabIn 2150 d_law_40 (by decide) (by decide) rfl (by decide) (lc_saved htr hi6 hL hd (by omega) (by omega) h kk)
    by_cases k_33 : z = 33
    · subst k_33
      exact mx_tabIn 2218 d_law_40 (by decide) (by decide) rfl (by decide) (lc_lend htr hi6 hL hd (by omega) (by omega) h kk)
    by_cases k_34 : z = 34
    · subst k_34
      exact mx_tabIn 2274 d_law_40 (by decide) (by decide) rfl (by decide) (lc_odds htr hi6 hL hd (by omega) (by omega) h kk)
    by_cases k_35 : z = 35
    · subst k_35
      exact mx_tabIn 2342 d_law_40 (by decide) (by decide) rfl (by decide) (lc_waits htr hi6 hL hd (by omega) (by omega) h kk)
    by_cases k_36 : z = 36
    · subst k_36
      exact mx_tabIn 2410 d_law_40 (by decide) (by decide) rfl (by decide) (lc_treaty htr hi6 hL hd (by omega) (by omega) h kk)
    by_cases k_37 : z = 37
    · subst k_37
      exact mx_tabIn 2478 d_law_40 (by decide) (by decide) rfl (by decide) (lc_rests htr hi6 hL hd (by omega) (by omega) h kk)
    by_cases k_38 : z = 38
    · subst k_38
      exact mx_tabIn 2546 d_law_40 (by decide) (by decide) rfl (by decide) (lc_dearest htr hi6 hL hd (by omega) (by omega) h kk)
    by_cases k_39 : z = 39
    · subst k_39
      exact mx_tabIn 2559 d_law_40 (by decide) (by decide) rfl (by decide) (lc_forlorn htr hi6 hL hd (by omega) (by omega) h kk)
    by_cases k_40 : z = 40
    · subst k_40
      exact mx_tabIn 2572 d_law_40 (by decide) (by decide) rfl (by decide) (lc_alike htr hi6 hL hd (by omega) (by omega) h kk)
    by_cases k_41 : z = 41
    · subst k_41
      exact mx_tabIn 2585 d_law_40 (by decide) (by decide) rfl (by decide) (lc_settle htr hi6 hL hd (by omega) (by omega) h kk)
    by_cases k_42 : z = 42
    · subst k_42
      exact mx_tabIn 2641 d_law_40 (by decide) (by decide) rfl (by decide) (lc_gladder htr hi6 hL hd (by omega) (by omega) h kk)
    by_cases k_43 : z = 43
    · subst k_43
      exact mx_tabIn 2697 d_law_40 (by decide) (by decide) rfl (by decide) (lc_ahead htr hi6 hL hd (by omega) (by omega) h kk)
    by_cases k_44 : z = 44
    · subst k_44
      exact mx_tabIn 2777 d_law_40 (by decide) (by decide) rfl (by decide) (lc_trial htr hi6 hL hd (by omega) (by omega) h kk)
    by_cases k_45 : z = 45
    · subst k_45
      exact mx_tabIn 2861 d_law_40 (by decide) (by decide) rfl (by decide) (lc_span htr hi6 hL hd (by omega) (by omega) h kk)
    by_cases k_46 : z = 46
    · subst k_46
      exact mx_tabIn 2945 d_law_40 (by decide) (by decide) rfl (by decide) (lc_led htr hi6 hL hd (by omega) (by omega) h kk)
    by_cases k_47 : z = 47
    · subst k_47
      exact mx_tabIn 3029 d_law_40 (by decide) (by decide) rfl (by decide) (lc_log htr hi6 hL hd (by omega) (by omega) h kk)
    by_cases k_48 : z = 48
    · subst k_48
      exact mx_tabIn 3097 d_law_40 (by decide) (by decide) rfl (by decide) (lc_seed htr hi6 hL hd (by omega) (by omega) h kk)
    by_cases k_49 : z = 49
    · subst k_49
      exact mx_tabIn 3122 d_law_40 (by decide) (by decide) rfl (by decide) (lc_undo htr hi6 hL hd (by omega) (by omega) h kk)
    by_cases k_50 : z = 50
    · subst k_50
      exact mx_tabIn 3135 d_law_40 (by decide) (by decide) rfl (by decide) (lc_image htr hi6 hL hd (by omega) (by omega) h kk)
    by_cases k_51 : z = 51
    · subst k_51
      exact mx_tabIn 3146 d_law_40 (by decide) (by decide) rfl (by decide) (lc_back htr hi6 hL hd (by omega) (by omega) h kk)
    by_cases k_52 : z = 52
    · subst k_52
      exact mx_tabIn 3159 d_law_40 (by decide) (by decide) rfl (by decide) (lc_count htr hi6 hL hd (by omega) (by omega) h kk)
    refine mx_tabOut 3184 d_law_40 (Or.inr (by rw [nI_toInt (by omega)]; omega)) (by decide) ?_
    exact mx_E_le (kk t S I P J o5 o6 (Nat.le_refl _) h) (by omega) (by omega)
theorem vh_new.bel {S2 : mx_S} {I2 : mx_I} {P2 : mx_P} (h : vh_new S I P x) (e : ∀ c, x ≤ c → c < x + 277 → S2 c = S c ∧ I2 c = I c ∧ P2 c = P c) : vh_new S2 I2 P2 x := by
  obtain ⟨v1, v2, v3, v4, v5, v6, v7, v8, v9, v10, v11, v12, v13, v14, v15, v16, v17, v18, v19⟩ := h
  have m : ∀ u v, x ≤ u → v ≤ x + 277 → mx_sm u v S S2 I I2 P P2 := fun u v a b c hc hd => e c (by omega) (by omega)
  refine ⟨?_, by rw [(e x (by omega) (by omega)).2.1]; exact v2, v3.sm (m _ _ (by omega) (by omega)), v4.sm (m _ _ (by omega) (by omega)), v5.sm (m _ _ (by omega) (by omega)), v6.sm (m _ _ (by omega) (by omega)), v7.sm (m _ _ (by omega) (by omega)), v8.sm (m _ _ (by omega) (by omega)), v9.sm (m _ _ (by omega) (by omega)), v10.sm (m _ _ (by omega) (by omega)), ?_, ?_, v13.sm (m _ _ (by omega) (by omega)), ?_, ?_, fun k => ?_, v17.sm (m _ _ (by omega) (by omega)), v18.sm (m _ _ (by omega) (by omega)), v19.sm (m _ _ (by omega) (by omega))⟩
  · unfold vh_ok at v1 ⊢
    rw [(e x (by omega) (by omega)).1, (e x (by omega) (by omega)).2.2, (e (x + 15) (by omega) (by omega)).1, (e (x + 16) (by omega) (by omega)).1, (e (x + 68) (by omega) (by omega)).1]
    exact v1
  · rw [(e (x + 68) (by omega) (by omega)).2.1]; exact v11
  · rw [(e (x + 68) (by omega) (by omega)).2.1]; exact v12
  · rw [(e (x + 250) (by omega) (by omega)).2.1]; exact v14
  · rw [(e (x + 250) (by omega) (by omega)).2.1]; exact v15
  · rw [(e (x + 251) (by omega) (by omega)).2.1]; exact v16 k
theorem law_all (htr : l.stackTraces = false) (hL : mx_L E ≤ 3072) (hd : 60 ≤ d) (hk : 4000 ≤ k) (hn : 400000 ≤ n) : mx_E l E M_law d k n 0 [some (.ref (mx_b E)), none, none, none, none, none, none] [] (t, S, I, P, J) lw_one := by
  refine mx_new (c := 11) (k2 := 3900) (n2 := 390000) d_law_0 rfl cl_Lw_8 (by omega) (by show _ + 13 ≤ _; omega) ?_
  refine mx_dup d_law_3 rfl ?_
  refine mx_kI0R (k2 := 3600) (n2 := 370000) d_law_4 (c_Vh_init (by simp [mx_ups])) ok_Vh_init rfl rfl ml_Lw_139 (by omega) (Nat.le_of_ble_eq_true rfl) (by omega) (by omega) (fun S1 I1 P1 hR1 => ?_)
  obtain ⟨-, hV⟩ := hR1
  refine mx_as1 d_law_7 ?_
  refine mx_new (c := 12) (k2 := 3599) (n2 := 369900) d_law_8 rfl cl_Lw_140 (by omega) (by show _ + 28 ≤ _; omega) ?_
  refine mx_dup d_law_11 rfl ?_
  refine mx_kI0R (k2 := 3500) (n2 := 350000) d_law_12 (c_Mo_init (by simp [mx_ups])) ok_Mo_init rfl rfl ml_Lw_142 (by omega) (Nat.le_of_ble_eq_true rfl) (by omega) (by omega) (fun S2 I2 P2 hR2 => ?_)
  obtain ⟨hb, hz, hM⟩ := hR2
  refine mx_as2 d_law_15 ?_
  refine mx_in_1 d_law_16 ?_
  refine mx_newJ (N := 1) (k2 := 3400) (n2 := 340000) d_law_17 ac_long (nI_nn (by omega)) (nI_clamp (by omega)) (by omega) (by omega) (by omega) ?_
  refine mx_as3 d_law_19 ?_
  refine mx_in_0 d_law_20 ?_
  refine mx_is4 d_law_21 ?_
  have hV2 : vh_new (mx_ups S2 (t + 277 + 14) (3, 1)) I2 P2 t := hV.bel (fun c a b => by
    obtain ⟨e1, e2, e3⟩ := hb c (by omega)
    refine ⟨?_, ?_, ?_⟩
    · simp only [mx_ups]
      rw [if_neg (by omega), e1]
      simp only [mx_ups]
      rw [if_neg (by omega)]
    · rw [e2, mx_z_ne (by omega)]
    · rw [e3, mx_zP_ne (by omega)])
  have hM2 : mo_new (mx_ups S2 (t + 277 + 14) (3, 1)) I2 P2 (t + 277) := by
    obtain ⟨m1, m2, m3, m4⟩ := hM
    refine ⟨?_, m2, m3, m4⟩
    unfold mo_ok at m1 ⊢
    simp only [mx_ups]
    simp only [show ¬ (t + 277 = t + 277 + 14) by omega, show ¬ (t + 277 + 1 = t + 277 + 14) by omega, show ¬ (t + 277 + 2 = t + 277 + 14) by omega, show ¬ (t + 277 + 3 = t + 277 + 14) by omega, show ¬ (t + 277 + 4 = t + 277 + 14) by omega, show ¬ (t + 277 + 5 = t + 277 + 14) by omega, show ¬ (t + 277 + 6 = t + 277 + 14) by omega, show ¬ (t + 277 + 7 = t + 277 + 14) by omega, show ¬ (t + 277 + 8 = t + 277 + 14) by omega, show ¬ (t + 277 + 9 = t + 277 + 14) by omega, show ¬ (t + 277 + 10 = t + 277 + 14) by omega, show ¬ (t + 277 + 11 = t + 277 + 14) by omega, show ¬ (t + 277 + 12 = t + 277 + 14) by omega, show ¬ (t + 277 + 13 = t + 277 + 14) by omega, if_false]
    exact m1
  have hal : al_ok (t + 277 + 14 + 1) (mx_ups S2 (t + 277 + 14) (3, 1)) I2 P2 t := al_new (by omega) hV2 hM2 (fun k hk => by rw [hz k hk]; simp [mx_z]) (by simp [mx_ups])
  exact law_loop htr hL hd 512 0 _ _ _ _ _ _ _ _ _ (by omega) (by omega) (by omega) (by omega) hal
end CP98
