/-! A WEEK OF THE REFERENCE -/
/-- the reference with the row m and the settled v, its scratch aside -/
def bz (I K : mx_I) (mo : Nat) (m : Nat → Int32) (v : Int32) : Prop := (∀ c, c ≠ mo → c ≠ mo + 1 → c ≠ mo + 6 → K c = I c) ∧ (∀ f, f ≤ 8 ∨ f = 12 ∨ f = 14 ∨ 21 ≤ f → K mo f = I mo f) ∧ K (mo + 1) = m ∧ K mo 20 = v
theorem bz.rf {I : mx_I} {mo : Nat} {m : Nat → Int32} {v : Int32} (h1 : I (mo + 1) = m) (h2 : I mo 20 = v) : bz I I mo m v := ⟨fun _ _ _ _ => rfl, fun _ _ => rfl, h1, h2⟩
theorem bz.az {I K K2 : mx_I} {mo : Nat} {m : Nat → Int32} {v : Int32} (h : bz I K mo m v) (h2 : az K K2 mo) : bz I K2 mo m v := ⟨fun c a b d => (h2.1 c a d).trans (h.1 c a b d), fun f hf => (h2.2 f (by omega)).trans (h.2.1 f hf), (h2.1 _ (by omega) (by omega)).trans h.2.2.1, (h2.2 20 (by omega)).trans h.2.2.2⟩
theorem bz.tr {I K K2 : mx_I} {mo : Nat} {m m' : Nat → Int32} {v v' : Int32} (h : bz I K mo m v) (h2 : bz K K2 mo m' v') : bz I K2 mo m' v' := ⟨fun c a b d => (h2.1 c a b d).trans (h.1 c a b d), fun f hf => (h2.2.1 f hf).trans (h.2.1 f hf), h2.2.2.1, h2.2.2.2⟩
theorem bz.rw {I K : mx_I} {mo : Nat} {m m' : Nat → Int32} {v : Int32} (h : bz I K mo m v) : bz I (vs_rw K (mo + 1) m') mo m' v := ⟨fun c a b d => (vs_rw_ne b).trans (h.1 c a b d), fun f hf => (congrFun (vs_rw_ne (by omega)) f).trans (h.2.1 f hf), vs_rw_at _ _ _, (congrFun (vs_rw_ne (by omega)) 20).trans h.2.2.2⟩
theorem bz.up {I K : mx_I} {mo k : Nat} {m : Nat → Int32} {u v : Int32} (h : bz I K mo m v) : bz I (mx_up K (mo + 1) k u) mo (updI m k u) v := ⟨fun c a b d => (mx_up_ne b).trans (h.1 c a b d), fun f hf => (congrFun (mx_up_ne (by omega)) f).trans (h.2.1 f hf), by rw [← h.2.2.1]; funext j; unfold mx_up updI; simp, (congrFun (mx_up_ne (by omega)) 20).trans h.2.2.2⟩
theorem bz.set {I K : mx_I} {mo : Nat} {m : Nat → Int32} {u v : Int32} (h : bz I K mo m v) : bz I (mx_up K mo 20 u) mo m u := ⟨fun c a b d => (mx_up_ne a).trans (h.1 c a b d), fun f hf => by rw [← h.2.1 f hf]; unfold mx_up; rw [if_neg (by omega)], (mx_up_ne (by omega)).trans h.2.2.1, by simp [mx_up]⟩
theorem w_nb_0 (m : Nat → Int32) (h : Nat) : w_nb m h 0 = m := by funext k; unfold w_nb; rw [if_neg (by omega)]
/-- the texts of two rows are the same -/
def tx_eq (m m' : Nat → Int32) : Prop := ∀ k, k < 5 ∨ 619 ≤ k → m' k = m k
theorem tx_eq.rf {m : Nat → Int32} : tx_eq m m := fun _ _ => rfl
theorem tx_eq.tr {m m' m2 : Nat → Int32} (h : tx_eq m m') (h2 : tx_eq m' m2) : tx_eq m m2 := fun k hk => (h2 k hk).trans (h k hk)
theorem tx_mt {D : lwD} {m : Nat → Int32} {h q : Nat} (hh : h < 8) : tx_eq m (w_mt D m h q) := fun k hk => by unfold w_mt; rw [w_lg_o (by omega) (by omega), updI_n (by omega)]
theorem tx_lo {m : Nat → Int32} {h : Nat} {b : Bool} (hh : h < 8) : tx_eq m (w_lo m h b) := fun k hk => by unfold w_lo; rw [updI_n (by omega)]
theorem tx_sa {m : Nat → Int32} {h : Nat} (hh : h < 8) : tx_eq m (w_sa m h) := fun k hk => by unfold w_sa; rw [w_lg_o (by omega) (by omega), updI_n (by omega), w_nb_o (by omega)]
theorem tx_cl {z : (Nat → Int32) × Int32} {h : Nat} {b : Bool} (hh : h < 8) : tx_eq z.1 (w_cl z h b).1 := by
  unfold w_cl
  split
  · exact (tx_lo hh).tr (tx_sa hh)
  · exact tx_lo hh
theorem tx_en {z : (Nat → Int32) × Int32} {n : Nat} {s : Int32} (hn : n ≤ 8) : tx_eq z.1 (w_en z s n).1 := by
  induction n with
  | zero => exact tx_eq.rf
  | succ n ih => rw [w_en_s]; exact (ih (by omega)).tr (tx_cl (by omega))
theorem tx_we {m : Nat → Int32} : tx_eq m (w_we m) := fun k hk => updI_n (by omega)
theorem tx_dr {m : Nat → Int32} {b : Bool} : tx_eq m (w_dr b m) := by
  unfold w_dr
  split
  · exact fun k hk => updI_n (by omega)
  · exact tx_eq.rf
theorem tx_hq {D : lwD} {y : w_Y} {q n : Nat} (hn : n ≤ 8) : tx_eq y.1 (w_hq D q n y).1 := by
  induction n with
  | zero => exact tx_eq.rf
  | succ n ih =>
    rw [w_hq_s]
    split
    · exact (ih (by omega)).tr (tx_mt (by omega))
    · exact ih (by omega)
theorem tx_qd {D : lwD} {y : w_Y} {H q : Nat} {b : Bool} (hH : H ≤ 8) : tx_eq y.1 (w_qd D b H q y).1 := by
  unfold w_qd
  split
  · exact tx_dr
  · exact (tx_dr (b := b)).tr (tx_hq (y := (w_dr b y.1, y.2)) hH)
theorem tx_qs {D : lwD} {y : w_Y} {H n : Nat} {b : Bool} (hH : H ≤ 8) : tx_eq y.1 (w_qs D b H n y).1 := by
  induction n with
  | zero => exact tx_eq.rf
  | succ n ih => rw [w_qs_s]; exact ih.tr (tx_qd hH)
theorem tx_wk {D : lwD} {z : (Nat → Int32) × Int32} {H : Nat} {b : Bool} (hH : H ≤ 8) : tx_eq z.1 (w_wk D b H z).1 := ((tx_qs (y := (z.1, nI 0, 0)) hH).tr (tx_en (z := ((w_qs D b H 8 (z.1, nI 0, 0)).1, z.2)) hH)).tr tx_we
/-- n weeks: the row, who has settled, the meetings -/
def w_ws (D : lwD) (b : Bool) (H n : Nat) (z : w_Y) : w_Y := vf n (fun _ z => ((w_wk D b H (z.1, z.2.1)).1, (w_wk D b H (z.1, z.2.1)).2, z.2.2 + w_met D b H z.1)) z
theorem w_ws_s (D : lwD) (b : Bool) (H n : Nat) (z : w_Y) : w_ws D b H (n + 1) z = ((w_wk D b H ((w_ws D b H n z).1, (w_ws D b H n z).2.1)).1, (w_wk D b H ((w_ws D b H n z).1, (w_ws D b H n z).2.1)).2, (w_ws D b H n z).2.2 + w_met D b H (w_ws D b H n z).1) := rfl
theorem wi_ws {D : lwD} {z : w_Y} {H G n : Nat} {b : Bool} (hw : wi z.1 H G) (hH : H ≤ 8) : wi (w_ws D b H n z).1 H G := by
  induction n with
  | zero => exact hw
  | succ n ih => rw [w_ws_s]; exact wi_wk (z := ((w_ws D b H n z).1, (w_ws D b H n z).2.1)) ih hH
theorem tx_ws {D : lwD} {z : w_Y} {H n : Nat} {b : Bool} (hH : H ≤ 8) : tx_eq z.1 (w_ws D b H n z).1 := by
  induction n with
  | zero => exact tx_eq.rf
  | succ n ih => rw [w_ws_s]; exact ih.tr (tx_wk (z := ((w_ws D b H n z).1, (w_ws D b H n z).2.1)) hH)
theorem w_hq_z (D : lwD) (q n : Nat) (m : Nat → Int32) (s : Int32 × Nat) : w_hq D q n (m, s) = ((w_hq D q n (m, nI 0, 0)).1, s.1 ||| (w_hq D q n (m, nI 0, 0)).2.1, s.2 + (w_hq D q n (m, nI 0, 0)).2.2) := by
  induction n with
  | zero => show (m, s) = (m, s.1 ||| nI 0, s.2 + 0); rw [show s.1 ||| nI 0 = s.1 from Int32.or_zero]; rfl
  | succ n ih =>
    rw [w_hq_s, w_hq_s, ih]
    dsimp only
    split
    · rw [Int32.or_assoc, Nat.add_assoc]
    · rfl
theorem w_hq_ct {D : lwD} {q : Nat} {m : Nat → Int32} : ∀ n, n ≤ 8 → fb_ct (bt (w_hq D q n (m, nI 0, 0)).2.1) 31 = (w_hq D q n (m, nI 0, 0)).2.2 ∧ ∀ j, n ≤ j → j < 32 → bt (w_hq D q n (m, nI 0, 0)).2.1 j = false
  | 0, _ => ⟨(by decide +kernel : fb_ct (bt (nI 0)) 31 = 0), fun j _ hj => (by decide +kernel : ∀ j, j < 32 → bt (nI 0) j = false) j hj⟩
  | n + 1, hn => by
    obtain ⟨h1, h2⟩ := w_hq_ct (D := D) (q := q) (m := m) n (by omega)
    rw [w_hq_s]
    split
    · dsimp only
      have e : ∀ k, k < 31 → bt ((w_hq D q n (m, nI 0, 0)).2.1 ||| (nI 1 <<< (nI n &&& 31))) k = (fun k => if k = n then true else bt (w_hq D q n (m, nI 0, 0)).2.1 k) k := fun k hk => by
        rw [b_or, vs_1b (by omega) (by omega)]
        by_cases z : k = n
        · rw [decide_eq_true z, Bool.or_true]; exact (if_pos z).symm
        · rw [decide_eq_false z, Bool.or_false]; exact (if_neg z).symm
      refine ⟨?_, fun j a b => ?_⟩
      · rw [fb_ct_cong e]
        have u := fb_ct_upd (bt (w_hq D q n (m, nI 0, 0)).2.1) true (i := n) (n := 31) (by omega)
        rw [h2 n (by omega) (by omega), h1] at u
        simpa using u
      · rw [b_or, vs_1b (by omega) (by omega), h2 j (by omega) b, decide_eq_false (by omega)]; rfl
    · exact ⟨h1, fun j a b => h2 j (by omega) b⟩
theorem w_qd_n {D : lwD} {b : Bool} {H q : Nat} {y : w_Y} (h : w_wet b y.1 = false) : w_qd D b H q y = ((w_hq D q H (w_dr b y.1, nI 0, 0)).1, y.2.1 ||| (w_hq D q H (w_dr b y.1, nI 0, 0)).2.1, y.2.2 + (w_hq D q H (w_dr b y.1, nI 0, 0)).2.2) := by
  unfold w_qd; rw [if_neg (by rw [h]; decide), w_hq_z]
theorem w_qd_y {D : lwD} {b : Bool} {H q : Nat} {y : w_Y} (h : w_wet b y.1 = true) : w_qd D b H q y = (w_dr b y.1, y.2) := by unfold w_qd; rw [if_pos h]
section AH42
variable {l : Launch} {E : mx_Env} {t : Nat} {S : mx_S} {I : mx_I} {P : mx_P} {J : mx_G} {m : Nat → Int32} {x mo H G n s la : Nat} {D : lwD}
theorem c_Mo_isLetG (hM : mo_ok S P mo) (hm : I (mo + 1) = m) {dd : Nat} {TX : (Nat → Int32) → Prop} (hTX : TX m) (hask : ∀ (m : Nat → Int32) (I : mx_I) (h g q : Nat), TX m → I (mo + 1) = m → h < 8 → g < 8 → q < 8 → mx_C l E M_Mo_asks dd 0 0 [.ref (mo), .int (nI (h)), .int (nI (g)), .int (nI (q))] (t, S, I, P, J) (mx_sR none t S P J (fun K => ak_fin I K mo D m h g q))) {h g q : Nat} (hh : h < 8) (hg : g < 8) (hq : q < 8) : mx_C l E M_Mo_isLet (dd + 1) 0 0 [.ref (mo), .int (nI (h)), .int (nI (g)), .int (nI (q))] (t, S, I, P, J) (mx_sR (some (.int (bI (vs_lt D m h g q)))) t S P J (fun K => az I K mo ∧ K mo 17 = vs_gl D m h g q)) := by
  obtain ⟨hM0, hMp1, hMp2, hMp4, hMp5, hMp7, hMp14, hMp21, hMp22, hMp23, hMp24, hMp25, hMp26, hMp27, hMs1, hMs2, hMs3, hMs4, hMs5, hMs6, hMs7, hMs8, hMs9, hMs10, hMs11, hMs12, hMs13⟩ := id hM
  refine mx_C_of (ls0 := [some (.ref (mo)), some (.int (nI (h))), some (.int (nI (g))), some (.int (nI (q)))]) (by decide +kernel) rfl rfl (Nat.le_of_ble_eq_true rfl) rfl ?_
  refine mx_al0 d_Mo_isLet_0 ?_
  refine mx_il1 d_Mo_isLet_1 ?_
  refine mx_il2 d_Mo_isLet_2 ?_
  refine mx_il3 d_Mo_isLet_3 ?_
  refine mx_cV3vR d_Mo_isLet_4 (hask m _ h g q hTX hm (by omega) (by omega) (by omega)) ok_Mo_asks ml_Mo_274 (by assumption) ⟨rfl, rfl⟩ (by omega) (Nat.le_of_ble_eq_true rfl) (fun K1 hK1 => ?_)
  refine mx_al0 d_Mo_isLet_7 ?_
  refine mx_getI d_Mo_isLet_8 fl_Mo_260 (by assumption) ?_
  refine mx_ti (y := bI (vs_any (fun j => decide (lwK D j = 31)) (lwN D))) (hK1.2.2.2.2.1) ?_
  refine mx_ifB_eq 21 d_Mo_isLet_11 (by decide) (fun c_11 => ?_) (fun c_11 => ?_)
  · skip
    refine mx_al0 d_Mo_isLet_21 ?_
    refine mx_getI d_Mo_isLet_22 fl_Mo_221 (by assumption) ?_
    refine mx_ti (y := bI (lw_adm (lwN D) (lwK D) (lwV D (vs_fc m h g q)) (vs_pass m (m (43 + 3 * g + 2))))) ((hK1.2.2.1.trans (by rw [vs_adm0 c_11]))) ?_
    exact mx_zret d_Mo_isLet_25 rfl (bI_01 _) (mx_sR_i rfl ⟨hK1.az, hK1.2.2.2.1⟩)
  · skip
    refine mx_al0 d_Mo_isLet_14 ?_
    refine mx_getI d_Mo_isLet_15 fl_Mo_263 (by assumption) ?_
    refine mx_ti (y := bI (lw_adm (lwN D) (lwK D) (lwV D (vs_fc m h g q)) (vs_pass m (m (43 + 3 * g + 2))))) ((hK1.2.2.2.2.2.trans (by rw [← vs_adm1 c_11]))) ?_
    refine mx_goto 25 d_Mo_isLet_18 (by decide) ?_
    refine mx_ti (y := bI (lw_adm (lwN D) (lwK D) (lwV D (vs_fc m h g q)) (vs_pass m (m (43 + 3 * g + 2))))) (rfl) ?_
    exact mx_zret d_Mo_isLet_25 rfl (bI_01 _) (mx_sR_i rfl ⟨hK1.az, hK1.2.2.2.1⟩)
theorem c_Mo_wouldMeetG (hM : mo_ok S P mo) (hm : I (mo + 1) = m) {dd : Nat} {TX : (Nat → Int32) → Prop} (hTX : TX m) (hask : ∀ (m : Nat → Int32) (I : mx_I) (h g q : Nat), TX m → I (mo + 1) = m → h < 8 → g < 8 → q < 8 → mx_C l E M_Mo_asks dd 0 0 [.ref (mo), .int (nI (h)), .int (nI (g)), .int (nI (q))] (t, S, I, P, J) (mx_sR none t S P J (fun K => ak_fin I K mo D m h g q))) (hdd : 2 ≤ dd) (hr : rk9 m) (hbr : br_ok m G) (hG8 : G ≤ 8) {h q : Nat} (hh : h < 8) (hq : q < 8) : mx_C l E M_Mo_wouldMeet (dd + 2) 0 0 [.ref (mo), .int (nI (h)), .int (nI (q))] (t, S, I, P, J) (mx_sR (some (.int (bI (vs_mt D m h q)))) t S P J (fun K => az I K mo ∧ (vs_mt D m h q = true → K mo 17 = vs_gl D m h (m (195 + 8 * h + q)).toNatClampNeg q))) := by
  obtain ⟨hM0, hMp1, hMp2, hMp4, hMp5, hMp7, hMp14, hMp21, hMp22, hMp23, hMp24, hMp25, hMp26, hMp27, hMs1, hMs2, hMs3, hMs4, hMs5, hMs6, hMs7, hMs8, hMs9, hMs10, hMs11, hMs12, hMs13⟩ := id hM
  refine mx_C_of (ls0 := [some (.ref (mo)), some (.int (nI (h))), some (.int (nI (q))), none]) (by decide +kernel) rfl rfl (Nat.le_of_ble_eq_true rfl) rfl ?_
  refine mx_al0 d_Mo_wouldMeet_0 ?_
  refine mx_il1 d_Mo_wouldMeet_1 ?_
  refine mx_il2 d_Mo_wouldMeet_2 ?_
  refine mx_cV2i d_Mo_wouldMeet_3 (cm_bookedIn hM hm (h := h) (q := q) (by omega) (by omega)) ok_Mo_bookedIn ml_Mo_271 (by assumption) ⟨rfl, rfl⟩ (by omega) (Nat.le_of_ble_eq_true rfl) ?_
  refine mx_is3 d_Mo_wouldMeet_6 ?_
  refine mx_il3 d_Mo_wouldMeet_7 ?_
  refine mx_ic_m1 d_Mo_wouldMeet_8 ?_
  refine mx_icmp_eq 36 d_Mo_wouldMeet_9 (by decide) (fun c_9 => ?_) (fun c_9 => ?_)
  · skip
    refine mx_in_0 d_Mo_wouldMeet_36 ?_
    exact mx_zret d_Mo_wouldMeet_37 rfl (by first | exact Or.inl rfl | exact Or.inr rfl) (mx_sR_i (by first | (rw [vs_mt_n c_9]; rfl) | (rw [vs_mt_g hg8 eg, c_19]; rfl) | (rw [vs_mt_g hg8 eg, c_19, c_29]; rfl)) ⟨az.rf, fun z => absurd z (by first | (rw [vs_mt_n c_9]; decide) | (rw [vs_mt_g hg8 hN, c_19, Bool.false_and]; decide))⟩)
  · skip
    obtain ⟨g, hgL, eg⟩ := (hbr h q (by omega) (by omega)).resolve_left c_9
    have hg8 : g < 8 := by omega
    have hN : m (195 + 8 * h + q) = nI g := eg
    rw [eg]
    refine mx_al0 d_Mo_wouldMeet_12 ?_
    refine mx_il1 d_Mo_wouldMeet_13 ?_
    refine mx_il3 d_Mo_wouldMeet_14 ?_
    refine mx_il2 d_Mo_wouldMeet_15 ?_
    refine mx_cV3i d_Mo_wouldMeet_16 (cm_canMeet hM hm (h := h) (g := g) (q := q) (by omega) (by omega) (by omega)) ok_Mo_canMeet ml_Mo_280 (by assumption) ⟨rfl, rfl⟩ (by omega) (Nat.le_of_ble_eq_true rfl) ?_
    refine mx_ifB_eq 36 d_Mo_wouldMeet_19 (by decide) (fun c_19 => ?_) (fun c_19 => ?_)
    · skip
      refine mx_in_0 d_Mo_wouldMeet_36 ?_
      exact mx_zret d_Mo_wouldMeet_37 rfl (by first | exact Or.inl rfl | exact Or.inr rfl) (mx_sR_i (by first | (rw [vs_mt_n c_9]; rfl) | (rw [vs_mt_g hg8 eg, c_19]; rfl) | (rw [vs_mt_g hg8 eg, c_19, c_29]; rfl)) ⟨az.rf, fun z => absurd z (by first | (rw [vs_mt_n c_9]; decide) | (rw [vs_mt_g hg8 hN, c_19, Bool.false_and]; decide))⟩)
    · skip
      refine mx_al0 d_Mo_wouldMeet_22 ?_
      refine mx_il1 d_Mo_wouldMeet_23 ?_
      refine mx_il3 d_Mo_wouldMeet_24 ?_
      refine mx_il2 d_Mo_wouldMeet_25 ?_
      refine mx_cV3iR d_Mo_wouldMeet_26 (c_Mo_isLetG hM hm hTX hask (h := h) (g := g) (q := q) (by omega) (by omega) (by omega)) ok_Mo_isLet ml_Mo_283 (by assumption) ⟨rfl, rfl⟩ (by omega) (Nat.le_of_ble_eq_true rfl) (fun K2 hK2 => ?_)
      refine mx_ifB_eq 36 d_Mo_wouldMeet_29 (by decide) (fun c_29 => ?_) (fun c_29 => ?_)
      · skip
        refine mx_in_0 d_Mo_wouldMeet_36 ?_
        exact mx_zret d_Mo_wouldMeet_37 rfl (by first | exact Or.inl rfl | exact Or.inr rfl) (mx_sR_i (by first | (rw [vs_mt_n c_9]; rfl) | (rw [vs_mt_g hg8 eg, c_19]; rfl) | (rw [vs_mt_g hg8 eg, c_19, c_29]; rfl)) ⟨hK2.1, fun _ => by rw [hK2.2, nI_clamp (by omega)]⟩)
      · skip
        refine mx_in_1 d_Mo_wouldMeet_32 ?_
        refine mx_goto 37 d_Mo_wouldMeet_33 (by decide) ?_
        exact mx_zret d_Mo_wouldMeet_37 rfl (by first | exact Or.inl rfl | exact Or.inr rfl) (mx_sR_i (by first | (rw [vs_mt_n c_9]; rfl) | (rw [vs_mt_g hg8 eg, c_19]; rfl) | (rw [vs_mt_g hg8 eg, c_19, c_29]; rfl)) ⟨hK2.1, fun _ => by rw [hK2.2, nI_clamp (by omega)]⟩)
theorem c_Mo_draw (hM : mo_ok S P mo) (hm : I (mo + 1) = m)  : mx_C l E M_Mo_draw 1 0 0 [.ref (mo), .int (nI (100))] (t, S, I, P, J) (mx_ri (w_pc (w_out (w_sd (m 10)))) (t, S, mx_up I (mo + 1) 10 (w_sd (m 10)), P, J)) := by
  obtain ⟨hM0, hMp1, hMp2, hMp4, hMp5, hMp7, hMp14, hMp21, hMp22, hMp23, hMp24, hMp25, hMp26, hMp27, hMs1, hMs2, hMs3, hMs4, hMs5, hMs6, hMs7, hMs8, hMs9, hMs10, hMs11, hMs12, hMs13⟩ := id hM
  refine mx_C_of (ls0 := [some (.ref (mo)), some (.int (nI (100)))]) (by decide +kernel) rfl rfl (Nat.le_of_ble_eq_true rfl) rfl ?_
  refine mx_al0 d_Mo_draw_0 ?_
  refine mx_getR d_Mo_draw_1 fl_Mo_7 (by assumption) (by assumption) ?_
  refine mx_bip 10 d_Mo_draw_4 (by decide) ?_
  refine mx_ldcw d_Mo_draw_6 cn_Mo_286 ?_
  refine mx_al0 d_Mo_draw_9 ?_
  refine mx_getR d_Mo_draw_10 fl_Mo_7 (by assumption) (by assumption) ?_
  refine mx_bip 10 d_Mo_draw_13 (by decide) ?_
  refine mx_iald d_Mo_draw_15 (by assumption) (nI_inb (by omega) (by omega)) ?_
  refine mx_ti (y := I (mo + 1) (10)) (by rw [nI_clamp (by omega)]) ?_
  refine mx_ti (y := (m 10)) ((congrFun hm 10)) ?_
  refine mx_imul d_Mo_draw_16 ?_
  refine mx_sip 12345 d_Mo_draw_17 (by decide) ?_
  refine mx_iadd d_Mo_draw_20 ?_
  refine mx_ti (y := (w_sd (m 10))) (rfl) ?_
  refine mx_iast d_Mo_draw_21 (by assumption) (nI_inb (by omega) (by omega)) ?_
  rw [nI_clamp (by omega)]
  refine mx_al0 d_Mo_draw_22 ?_
  refine mx_getR d_Mo_draw_23 fl_Mo_7 (by assumption) (by assumption) ?_
  refine mx_bip 10 d_Mo_draw_26 (by decide) ?_
  refine mx_iald d_Mo_draw_28 (by assumption) (nI_inb (by omega) (by omega)) ?_
  refine mx_ti (y := (mx_up I (mo + 1) (10) ((w_sd (m 10)))) (mo + 1) (10)) (by rw [nI_clamp (by omega)]) ?_
  refine mx_ti (y := (w_sd (m 10))) (vs_upx) ?_
  refine mx_bip 16 d_Mo_draw_29 (by decide) ?_
  refine mx_iushr d_Mo_draw_31 ?_
  refine mx_sip 32767 d_Mo_draw_32 (by decide) ?_
  refine mx_iand d_Mo_draw_35 ?_
  refine mx_il1 d_Mo_draw_36 ?_
  refine mx_irem d_Mo_draw_37 (by decide) ?_
  exact mx_iret d_Mo_draw_38 rfl (mx_ri_of rfl)
theorem c_Mo_closes (hM : mo_ok S P mo) (hm : I (mo + 1) = m) {v : Int32} (hv : I mo 20 = v) {h : Nat} {b : Bool} (hh : h < 8) : mx_C l E M_Mo_closes 2 0 0 [.ref (mo), .int (nI (h)), .int (bI (b))] (t, S, I, P, J) (mx_sR none t S P J (fun K => bz I K mo (w_cl (m, v) h b).1 (w_cl (m, v) h b).2)) := by
  obtain ⟨hM0, hMp1, hMp2, hMp4, hMp5, hMp7, hMp14, hMp21, hMp22, hMp23, hMp24, hMp25, hMp26, hMp27, hMs1, hMs2, hMs3, hMs4, hMs5, hMs6, hMs7, hMs8, hMs9, hMs10, hMs11, hMs12, hMs13⟩ := id hM
  refine mx_C_of (ls0 := [some (.ref (mo)), some (.int (nI (h))), some (.int (bI (b))), none]) (by decide +kernel) rfl rfl (Nat.le_of_ble_eq_true rfl) rfl ?_
  refine mx_al0 d_Mo_closes_0 ?_
  refine mx_il1 d_Mo_closes_1 ?_
  refine mx_in_3 d_Mo_closes_2 ?_
  refine mx_il2 d_Mo_closes_3 ?_
  refine mx_ifB_eq 11 d_Mo_closes_4 (by decide) (fun c_4 => ?_) (fun c_4 => ?_)
  · skip
    refine mx_bip 99 d_Mo_closes_11 (by decide) ?_
    refine mx_al0 d_Mo_closes_13 ?_
    refine mx_il1 d_Mo_closes_14 ?_
    refine mx_in_3 d_Mo_closes_15 ?_
    refine mx_cV2i d_Mo_closes_16 (cm_of hM hm (h := h) (k := 3) (by omega) (by omega)) ok_Mo_of ml_Mo_68 (by assumption) ⟨rfl, rfl⟩ (by decide) (Nat.le_of_ble_eq_true rfl) ?_
    refine mx_in_1 d_Mo_closes_19 ?_
    refine mx_iadd d_Mo_closes_20 ?_
    refine mx_cS2i d_Mo_closes_21 (c_Mo_lesser) ok_Mo_lesser ml_Mo_124 (by decide) (Nat.le_of_ble_eq_true rfl) ?_
    refine mx_ti (y := (if b = true then nI 0 else mn9 (m (11 + 4 * h + 3) + nI 1) (nI 99))) ((by rw [c_4]; first | rfl | (rw [← mn9_le]; rfl))) ?_
    refine mx_cV3v d_Mo_closes_24 (c_Mo_put hM (h := h) (k := 3) (by omega) (by omega)) ok_Mo_put ml_Mo_140 (by assumption) ⟨rfl, rfl⟩ (by decide) (Nat.le_of_ble_eq_true rfl) ?_
    have hz1 : bz I (mx_up I (mo + 1) (11 + 4 * h + 3) (if b = true then nI 0 else mn9 (m (11 + 4 * h + 3) + nI 1) (nI 99))) mo (w_lo m h b) v := (bz.rf hm hv).up
    refine mx_al0 d_Mo_closes_27 ?_
    refine mx_il1 d_Mo_closes_28 ?_
    refine mx_in_3 d_Mo_closes_29 ?_
    refine mx_cV2i d_Mo_closes_30 (cm_of hM hz1.2.2.1 (h := h) (k := 3) (by omega) (by omega)) ok_Mo_of ml_Mo_68 (by assumption) ⟨rfl, rfl⟩ (by decide) (Nat.le_of_ble_eq_true rfl) ?_
    refine mx_al0 d_Mo_closes_33 ?_
    refine mx_il1 d_Mo_closes_34 ?_
    refine mx_in_0 d_Mo_closes_35 ?_
    refine mx_cV2i d_Mo_closes_36 (cm_of hM hz1.2.2.1 (h := h) (k := 0) (by omega) (by omega)) ok_Mo_of ml_Mo_68 (by assumption) ⟨rfl, rfl⟩ (by decide) (Nat.le_of_ble_eq_true rfl) ?_
    refine mx_icmp_gt 43 d_Mo_closes_39 (by decide) (fun c_39 => ?_) (fun c_39 => ?_)
    · skip
      refine mx_in_0 d_Mo_closes_43 ?_
      refine mx_is3 d_Mo_closes_44 ?_
      refine mx_loopX (α := (mx_I)) (N := 8) (a0 := (mx_up I (mo + 1) (11 + 4 * h + 3) (if b = true then nI 0 else mn9 (m (11 + 4 * h + 3) + nI 1) (nI 99)))) (fun q z9 => bz I z9 mo (w_nb (w_lo m h b) h q) v) (ls := fun q z9 => [some (.ref (mo)), some (.int (nI (h))), some (.int (bI (b))), some (.int (nI (q)))]) (X := fun q z9 => (t, S, z9, P, J)) ((by rw [w_nb_0]; exact hz1)) (fun q hq z9 hinv ih => ?_) (fun z9 hinv => ?_)
      · skip
        obtain ⟨K, hz9⟩ : ∃ q, q = z9 := ⟨_, rfl⟩
        subst hz9
        try dsimp only at hinv ih ⊢
        refine mx_il3 d_Mo_closes_45 ?_
        refine mx_bip 8 d_Mo_closes_46 (by decide) ?_
        refine mx_icN_ge 73 d_Mo_closes_48 (by decide) (by omega) (by omega) (fun c_48 => absurd c_48 (by omega)) (fun c_48 => ?_)
        refine mx_al0 d_Mo_closes_51 ?_
        refine mx_getR d_Mo_closes_52 fl_Mo_7 (by assumption) (by assumption) ?_
        refine mx_sip 195 d_Mo_closes_55 (by decide) ?_
        refine mx_bip 8 d_Mo_closes_58 (by decide) ?_
        refine mx_il1 d_Mo_closes_60 ?_
        refine mx_imulN d_Mo_closes_61 ?_
        refine mx_iaddN d_Mo_closes_62 ?_
        refine mx_il3 d_Mo_closes_63 ?_
        refine mx_iaddN d_Mo_closes_64 ?_
        refine mx_ic_m1 d_Mo_closes_65 ?_
        refine mx_iast d_Mo_closes_66 (by assumption) (nI_inb (by omega) (by omega)) ?_
        rw [nI_clamp (by omega)]
        refine mx_iN3 d_Mo_closes_67 ?_
        refine mx_goto 45 d_Mo_closes_70 (by decide) ?_
        exact ih (mx_up K (mo + 1) (195 + 8 * h + q) ((-1))) (by rw [w_nb_s]; exact hinv.up)
      · skip
        obtain ⟨K, hz9⟩ : ∃ q, q = z9 := ⟨_, rfl⟩
        subst hz9
        try dsimp only at hinv ⊢
        refine mx_il3 d_Mo_closes_45 ?_
        refine mx_bip 8 d_Mo_closes_46 (by decide) ?_
        refine mx_icN_ge 73 d_Mo_closes_48 (by decide) (by omega) (by omega) (fun c_48 => ?_) (fun c_48 => absurd c_48 (by omega))
        refine mx_al0 d_Mo_closes_73 ?_
        refine mx_il1 d_Mo_closes_74 ?_
        refine mx_in_3 d_Mo_closes_75 ?_
        refine mx_in_0 d_Mo_closes_76 ?_
        refine mx_cV3v d_Mo_closes_77 (c_Mo_put hM (h := h) (k := 3) (by omega) (by omega)) ok_Mo_put ml_Mo_140 (by assumption) ⟨rfl, rfl⟩ (by decide) (Nat.le_of_ble_eq_true rfl) ?_
        refine mx_al0 d_Mo_closes_80 ?_
        refine mx_il1 d_Mo_closes_81 ?_
        refine mx_ic_m1 d_Mo_closes_82 ?_
        refine mx_ic_m1 d_Mo_closes_83 ?_
        refine mx_in_1 d_Mo_closes_84 ?_
        refine mx_in_0 d_Mo_closes_85 ?_
        refine mx_cV5v d_Mo_closes_86 (c_Mo_logs hM (m := updI (w_nb (w_lo m h b) h 8) (11 + 4 * h + 3) (nI 0)) hinv.up.2.2.1) ok_Mo_logs ml_Mo_290 (by assumption) ⟨rfl, rfl⟩ (by decide) (Nat.le_of_ble_eq_true rfl) ?_
        refine mx_al0 d_Mo_closes_89 ?_
        refine mx_dup d_Mo_closes_90 rfl ?_
        refine mx_getI d_Mo_closes_91 fl_Mo_294 (by assumption) ?_
        refine mx_ti (y := v) ((by rw [vs_rw_ne (by omega), mx_up_ne (by omega)]; exact hinv.2.2.2)) ?_
        refine mx_in_1 d_Mo_closes_94 ?_
        refine mx_il1 d_Mo_closes_95 ?_
        refine mx_ishl d_Mo_closes_96 ?_
        refine mx_ior d_Mo_closes_97 ?_
        refine mx_putI d_Mo_closes_98 fl_Mo_294 (by assumption) ?_
        exact mx_vret d_Mo_closes_101 rfl (mx_sR_of rfl (by rw [w_cl_y (z := (m, v)) c_39]; exact hinv.up.rw.set))
    · skip
      exact mx_vret d_Mo_closes_42 rfl (mx_sR_of rfl (by rw [w_cl_n (z := (m, v)) c_39]; exact hz1))
  · skip
    refine mx_in_0 d_Mo_closes_7 ?_
    refine mx_goto 24 d_Mo_closes_8 (by decide) ?_
    refine mx_ti (y := (if b = true then nI 0 else mn9 (m (11 + 4 * h + 3) + nI 1) (nI 99))) ((by rw [c_4]; first | rfl | (rw [← mn9_le]; rfl))) ?_
    refine mx_cV3v d_Mo_closes_24 (c_Mo_put hM (h := h) (k := 3) (by omega) (by omega)) ok_Mo_put ml_Mo_140 (by assumption) ⟨rfl, rfl⟩ (by decide) (Nat.le_of_ble_eq_true rfl) ?_
    have hz1 : bz I (mx_up I (mo + 1) (11 + 4 * h + 3) (if b = true then nI 0 else mn9 (m (11 + 4 * h + 3) + nI 1) (nI 99))) mo (w_lo m h b) v := (bz.rf hm hv).up
    refine mx_al0 d_Mo_closes_27 ?_
    refine mx_il1 d_Mo_closes_28 ?_
    refine mx_in_3 d_Mo_closes_29 ?_
    refine mx_cV2i d_Mo_closes_30 (cm_of hM hz1.2.2.1 (h := h) (k := 3) (by omega) (by omega)) ok_Mo_of ml_Mo_68 (by assumption) ⟨rfl, rfl⟩ (by decide) (Nat.le_of_ble_eq_true rfl) ?_
    refine mx_al0 d_Mo_closes_33 ?_
    refine mx_il1 d_Mo_closes_34 ?_
    refine mx_in_0 d_Mo_closes_35 ?_
    refine mx_cV2i d_Mo_closes_36 (cm_of hM hz1.2.2.1 (h := h) (k := 0) (by omega) (by omega)) ok_Mo_of ml_Mo_68 (by assumption) ⟨rfl, rfl⟩ (by decide) (Nat.le_of_ble_eq_true rfl) ?_
    refine mx_icmp_gt 43 d_Mo_closes_39 (by decide) (fun c_39 => ?_) (fun c_39 => ?_)
    · skip
      refine mx_in_0 d_Mo_closes_43 ?_
      refine mx_is3 d_Mo_closes_44 ?_
      refine mx_loopX (α := (mx_I)) (N := 8) (a0 := (mx_up I (mo + 1) (11 + 4 * h + 3) (if b = true then nI 0 else mn9 (m (11 + 4 * h + 3) + nI 1) (nI 99)))) (fun q z9 => bz I z9 mo (w_nb (w_lo m h b) h q) v) (ls := fun q z9 => [some (.ref (mo)), some (.int (nI (h))), some (.int (bI (b))), some (.int (nI (q)))]) (X := fun q z9 => (t, S, z9, P, J)) ((by rw [w_nb_0]; exact hz1)) (fun q hq z9 hinv ih => ?_) (fun z9 hinv => ?_)
      · skip
        obtain ⟨K, hz9⟩ : ∃ q, q = z9 := ⟨_, rfl⟩
        subst hz9
        try dsimp only at hinv ih ⊢
        refine mx_il3 d_Mo_closes_45 ?_
        refine mx_bip 8 d_Mo_closes_46 (by decide) ?_
        refine mx_icN_ge 73 d_Mo_closes_48 (by decide) (by omega) (by omega) (fun c_48 => absurd c_48 (by omega)) (fun c_48 => ?_)
        refine mx_al0 d_Mo_closes_51 ?_
        refine mx_getR d_Mo_closes_52 fl_Mo_7 (by assumption) (by assumption) ?_
        refine mx_sip 195 d_Mo_closes_55 (by decide) ?_
        refine mx_bip 8 d_Mo_closes_58 (by decide) ?_
        refine mx_il1 d_Mo_closes_60 ?_
        refine mx_imulN d_Mo_closes_61 ?_
        refine mx_iaddN d_Mo_closes_62 ?_
        refine mx_il3 d_Mo_closes_63 ?_
        refine mx_iaddN d_Mo_closes_64 ?_
        refine mx_ic_m1 d_Mo_closes_65 ?_
        refine mx_iast d_Mo_closes_66 (by assumption) (nI_inb (by omega) (by omega)) ?_
        rw [nI_clamp (by omega)]
        refine mx_iN3 d_Mo_closes_67 ?_
        refine mx_goto 45 d_Mo_closes_70 (by decide) ?_
        exact ih (mx_up K (mo + 1) (195 + 8 * h + q) ((-1))) (by rw [w_nb_s]; exact hinv.up)
      · skip
        obtain ⟨K, hz9⟩ : ∃ q, q = z9 := ⟨_, rfl⟩
        subst hz9
        try dsimp only at hinv ⊢
        refine mx_il3 d_Mo_closes_45 ?_
        refine mx_bip 8 d_Mo_closes_46 (by decide) ?_
        refine mx_icN_ge 73 d_Mo_closes_48 (by decide) (by omega) (by omega) (fun c_48 => ?_) (fun c_48 => absurd c_48 (by omega))
        refine mx_al0 d_Mo_closes_73 ?_
        refine mx_il1 d_Mo_closes_74 ?_
        refine mx_in_3 d_Mo_closes_75 ?_
        refine mx_in_0 d_Mo_closes_76 ?_
        refine mx_cV3v d_Mo_closes_77 (c_Mo_put hM (h := h) (k := 3) (by omega) (by omega)) ok_Mo_put ml_Mo_140 (by assumption) ⟨rfl, rfl⟩ (by decide) (Nat.le_of_ble_eq_true rfl) ?_
        refine mx_al0 d_Mo_closes_80 ?_
        refine mx_il1 d_Mo_closes_81 ?_
        refine mx_ic_m1 d_Mo_closes_82 ?_
        refine mx_ic_m1 d_Mo_closes_83 ?_
        refine mx_in_1 d_Mo_closes_84 ?_
        refine mx_in_0 d_Mo_closes_85 ?_
        refine mx_cV5v d_Mo_closes_86 (c_Mo_logs hM (m := updI (w_nb (w_lo m h b) h 8) (11 + 4 * h + 3) (nI 0)) hinv.up.2.2.1) ok_Mo_logs ml_Mo_290 (by assumption) ⟨rfl, rfl⟩ (by decide) (Nat.le_of_ble_eq_true rfl) ?_
        refine mx_al0 d_Mo_closes_89 ?_
        refine mx_dup d_Mo_closes_90 rfl ?_
        refine mx_getI d_Mo_closes_91 fl_Mo_294 (by assumption) ?_
        refine mx_ti (y := v) ((by rw [vs_rw_ne (by omega), mx_up_ne (by omega)]; exact hinv.2.2.2)) ?_
        refine mx_in_1 d_Mo_closes_94 ?_
        refine mx_il1 d_Mo_closes_95 ?_
        refine mx_ishl d_Mo_closes_96 ?_
        refine mx_ior d_Mo_closes_97 ?_
        refine mx_putI d_Mo_closes_98 fl_Mo_294 (by assumption) ?_
        exact mx_vret d_Mo_closes_101 rfl (mx_sR_of rfl (by rw [w_cl_y (z := (m, v)) c_39]; exact hinv.up.rw.set))
    · skip
      exact mx_vret d_Mo_closes_42 rfl (mx_sR_of rfl (by rw [w_cl_n (z := (m, v)) c_39]; exact hz1))
theorem c_Mo_meet (hM : mo_ok S P mo) (hm : I (mo + 1) = m) {dd : Nat} {TX : (Nat → Int32) → Prop} (hTX : TX m) (hask : ∀ (m : Nat → Int32) (I : mx_I) (h g q : Nat), TX m → I (mo + 1) = m → h < 8 → g < 8 → q < 8 → mx_C l E M_Mo_asks dd 0 0 [.ref (mo), .int (nI (h)), .int (nI (g)), .int (nI (q))] (t, S, I, P, J) (mx_sR none t S P J (fun K => ak_fin I K mo D m h g q))) (hTXc : ∀ m m', TX m → tx_eq m m' → TX m') (hdd : 2 ≤ dd) {v : Int32} (hv : I mo 20 = v) (hw : wi m H G) (hH8 : H ≤ 8) (hG8 : G ≤ 8) {q : Nat} (hq : q < 8) : mx_C l E M_Mo_meet (dd + 3) 0 0 [.ref (mo), .int (nI (q))] (t, S, I, P, J) (mx_sR (some (.int (w_hq D q H (m, nI 0, 0)).2.1)) t S P J (fun K => bz I K mo (w_hq D q H (m, nI 0, 0)).1 v)) := by
  obtain ⟨hM0, hMp1, hMp2, hMp4, hMp5, hMp7, hMp14, hMp21, hMp22, hMp23, hMp24, hMp25, hMp26, hMp27, hMs1, hMs2, hMs3, hMs4, hMs5, hMs6, hMs7, hMs8, hMs9, hMs10, hMs11, hMs12, hMs13⟩ := id hM
  refine mx_C_of (ls0 := [some (.ref (mo)), some (.int (nI (q))), none, none, none, none]) (by decide +kernel) rfl rfl (Nat.le_of_ble_eq_true rfl) rfl ?_
  refine mx_in_0 d_Mo_meet_0 ?_
  refine mx_is2 d_Mo_meet_1 ?_
  refine mx_in_0 d_Mo_meet_2 ?_
  refine mx_is3 d_Mo_meet_3 ?_
  refine mx_loopX (α := (mx_I)) (N := H) (a0 := I) (fun h z9 => bz I z9 mo (w_hq D q h (m, nI 0, 0)).1 v) (ls := fun h z9 => [some (.ref (mo)), some (.int (nI (q))), some (.int ((w_hq D q h (m, nI 0, 0)).2.1)), some (.int (nI (h))), none, none]) (X := fun h z9 => (t, S, z9, P, J)) (bz.rf hm hv) (fun h hh z9 hinv ih => ?_) (fun z9 hinv => ?_)
  · skip
    obtain ⟨K, hz9⟩ : ∃ q, q = z9 := ⟨_, rfl⟩
    subst hz9
    try dsimp only at hinv ih ⊢
    have hwv : wi (w_hq D q h (m, nI 0, 0)).1 H G := wi_hq (y := (m, nI 0, 0)) hw (by omega)
    have hTv : TX (w_hq D q h (m, nI 0, 0)).1 := hTXc _ _ hTX (tx_hq (y := (m, nI 0, 0)) (by omega))
    refine mx_il3 d_Mo_meet_4 ?_
    refine mx_al0 d_Mo_meet_5 ?_
    refine mx_getR d_Mo_meet_6 fl_Mo_7 (by assumption) (by assumption) ?_
    refine mx_in_3 d_Mo_meet_9 ?_
    refine mx_iald d_Mo_meet_10 (by assumption) (nI_inb (by omega) (by omega)) ?_
    refine mx_ti (y := K (mo + 1) (3)) (by rw [nI_clamp (by omega)]) ?_
    refine mx_ti (y := nI (H)) ((congrFun hinv.2.2.1 3).trans hwv.1) ?_
    refine mx_icN_ge 96 d_Mo_meet_11 (by decide) (by omega) (by omega) (fun c_11 => absurd c_11 (by omega)) (fun c_11 => ?_)
    refine mx_al0 d_Mo_meet_14 ?_
    refine mx_il3 d_Mo_meet_15 ?_
    refine mx_il1 d_Mo_meet_16 ?_
    refine mx_cV2iR d_Mo_meet_17 (c_Mo_wouldMeetG hM hinv.2.2.1 hTv hask hdd hwv.2.1 hwv.2.2 hG8 (h := h) (q := q) (by omega) (by omega)) ok_Mo_wouldMeet ml_Mo_287 (by assumption) ⟨rfl, rfl⟩ (by omega) (Nat.le_of_ble_eq_true rfl) (fun K2 hK2 => ?_)
    refine mx_ifB_ne 26 d_Mo_meet_20 (by decide) (fun c_20 => ?_) (fun c_20 => ?_)
    · skip
      obtain ⟨g, hgL, eg⟩ := (hwv.2.2 h q (by omega) (by omega)).resolve_left (fun z => by rw [vs_mt_n z] at c_20; cases c_20)
      have hg8 : g < 8 := by omega
      have hwm : w_mt D (w_hq D q h (m, nI 0, 0)).1 h q = (w_lg (updI (w_hq D q h (m, nI 0, 0)).1 (11 + 4 * h + 2) (mn9 ((w_hq D q h (m, nI 0, 0)).1 (11 + 4 * h + 2) + (vs_jy D (w_hq D q h (m, nI 0, 0)).1 h g q)) (nI 999))) (nI h) (nI g) (nI q) (nI 0) (vs_jy D (w_hq D q h (m, nI 0, 0)).1 h g q)) := by unfold w_mt w_jv; rw [eg, nI_clamp (by omega)]
      refine mx_al0 d_Mo_meet_26 ?_
      refine mx_il3 d_Mo_meet_27 ?_
      refine mx_il1 d_Mo_meet_28 ?_
      refine mx_cV2i d_Mo_meet_29 (cm_bookedIn hM (hK2.1.row hinv.2.2.1) (h := h) (q := q) (by omega) (by omega)) ok_Mo_bookedIn ml_Mo_271 (by assumption) ⟨rfl, rfl⟩ (by omega) (Nat.le_of_ble_eq_true rfl) ?_
      refine mx_ti (y := nI (g)) (eg) ?_
      refine mx_is4 d_Mo_meet_32 ?_
      refine mx_in_0 d_Mo_meet_34 ?_
      refine mx_al0 d_Mo_meet_35 ?_
      refine mx_il3 d_Mo_meet_36 ?_
      refine mx_il4 d_Mo_meet_37 ?_
      refine mx_cV2i d_Mo_meet_39 (cm_rankOf hM (hK2.1.row hinv.2.2.1) (h := h) (g := g) (by omega) (by omega)) ok_Mo_rankOf ml_Mo_61 (by assumption) ⟨rfl, rfl⟩ (by omega) (Nat.le_of_ble_eq_true rfl) ?_
      refine mx_al0 d_Mo_meet_42 ?_
      refine mx_getI d_Mo_meet_43 fl_Mo_266 (by assumption) ?_
      refine mx_ti (y := (vs_gl D (w_hq D q h (m, nI 0, 0)).1 h g q)) ((hK2.2 c_20).trans (by rw [eg, nI_clamp (by omega)])) ?_
      refine mx_iadd d_Mo_meet_46 ?_
      refine mx_cS2i d_Mo_meet_47 (c_Mo_greater) ok_Mo_greater ml_Mo_277 (by omega) (Nat.le_of_ble_eq_true rfl) ?_
      refine mx_ti (y := (vs_jy D (w_hq D q h (m, nI 0, 0)).1 h g q)) ((vs_jy_max D (w_hq D q h (m, nI 0, 0)).1 h g q)) ?_
      refine mx_is5 d_Mo_meet_50 ?_
      refine mx_al0 d_Mo_meet_52 ?_
      refine mx_il3 d_Mo_meet_53 ?_
      refine mx_in_2 d_Mo_meet_54 ?_
      refine mx_sip 999 d_Mo_meet_55 (by decide) ?_
      refine mx_al0 d_Mo_meet_58 ?_
      refine mx_il3 d_Mo_meet_59 ?_
      refine mx_in_2 d_Mo_meet_60 ?_
      refine mx_cV2i d_Mo_meet_61 (cm_of hM (hK2.1.row hinv.2.2.1) (h := h) (k := 2) (by omega) (by omega)) ok_Mo_of ml_Mo_68 (by assumption) ⟨rfl, rfl⟩ (by omega) (Nat.le_of_ble_eq_true rfl) ?_
      refine mx_il5 d_Mo_meet_64 ?_
      refine mx_iadd d_Mo_meet_66 ?_
      refine mx_cS2i d_Mo_meet_67 (c_Mo_lesser) ok_Mo_lesser ml_Mo_124 (by omega) (Nat.le_of_ble_eq_true rfl) ?_
      refine mx_ti (y := (mn9 ((w_hq D q h (m, nI 0, 0)).1 (11 + 4 * h + 2) + (vs_jy D (w_hq D q h (m, nI 0, 0)).1 h g q)) (nI 999))) ((mn9_le _ _)) ?_
      refine mx_cV3v d_Mo_meet_70 (c_Mo_put hM (h := h) (k := 2) (by omega) (by omega)) ok_Mo_put ml_Mo_140 (by assumption) ⟨rfl, rfl⟩ (by omega) (Nat.le_of_ble_eq_true rfl) ?_
      refine mx_al0 d_Mo_meet_73 ?_
      refine mx_il3 d_Mo_meet_74 ?_
      refine mx_il4 d_Mo_meet_75 ?_
      refine mx_il1 d_Mo_meet_77 ?_
      refine mx_in_0 d_Mo_meet_78 ?_
      refine mx_il5 d_Mo_meet_79 ?_
      refine mx_cV5v d_Mo_meet_81 (c_Mo_logs hM (m := (updI (w_hq D q h (m, nI 0, 0)).1 (11 + 4 * h + 2) (mn9 ((w_hq D q h (m, nI 0, 0)).1 (11 + 4 * h + 2) + (vs_jy D (w_hq D q h (m, nI 0, 0)).1 h g q)) (nI 999)))) (hinv.az hK2.1).up.2.2.1) ok_Mo_logs ml_Mo_290 (by assumption) ⟨rfl, rfl⟩ (by omega) (Nat.le_of_ble_eq_true rfl) ?_
      refine mx_il2 d_Mo_meet_84 ?_
      refine mx_in_1 d_Mo_meet_85 ?_
      refine mx_il3 d_Mo_meet_86 ?_
      refine mx_ishl d_Mo_meet_87 ?_
      refine mx_ior d_Mo_meet_88 ?_
      refine mx_is2 d_Mo_meet_89 ?_
      refine mx_iN3 d_Mo_meet_90 ?_
      refine mx_goto 4 d_Mo_meet_93 (by decide) ?_
      refine mx_dn4 ?_
      refine mx_dn5 ?_
      have e2 : ((w_hq D q h (m, nI 0, 0)).2.1 ||| (nI (1) <<< (nI (h) &&& 31))) = (w_hq D q (h + 1) (m, nI 0, 0)).2.1 := by rw [w_hq_s]; first | (rw [if_pos c_20]; done) | (rw [if_neg (by rw [c_20]; decide)]; done)
      refine mx_lsc (congrArg (fun z9 => ([some (.ref (mo)), some (.int (nI (q))), some (.int (z9)), some (.int (nI (h + 1))), none, none] : List (Option Value))) e2) ?_
      exact ih (vs_rw (mx_up K2 (mo + 1) (11 + 4 * h + 2) (mn9 ((w_hq D q h (m, nI 0, 0)).1 (11 + 4 * h + 2) + (vs_jy D (w_hq D q h (m, nI 0, 0)).1 h g q)) (nI 999))) (mo + 1) (w_lg (updI (w_hq D q h (m, nI 0, 0)).1 (11 + 4 * h + 2) (mn9 ((w_hq D q h (m, nI 0, 0)).1 (11 + 4 * h + 2) + (vs_jy D (w_hq D q h (m, nI 0, 0)).1 h g q)) (nI 999))) (nI h) (nI g) (nI q) (nI 0) (vs_jy D (w_hq D q h (m, nI 0, 0)).1 h g q))) (by rw [w_hq_s, if_pos c_20]; show bz I _ mo (w_mt D (w_hq D q h (m, nI 0, 0)).1 h q) v; rw [hwm]; exact (hinv.az hK2.1).up.rw)
    · skip
      refine mx_goto 90 d_Mo_meet_23 (by decide) ?_
      refine mx_iN3 d_Mo_meet_90 ?_
      refine mx_goto 4 d_Mo_meet_93 (by decide) ?_
      have e2 : (w_hq D q h (m, nI 0, 0)).2.1 = (w_hq D q (h + 1) (m, nI 0, 0)).2.1 := by rw [w_hq_s]; first | (rw [if_pos c_20]; done) | (rw [if_neg (by rw [c_20]; decide)]; done)
      refine mx_lsc (congrArg (fun z9 => ([some (.ref (mo)), some (.int (nI (q))), some (.int (z9)), some (.int (nI (h + 1))), none, none] : List (Option Value))) e2) ?_
      exact ih K2 (by rw [w_hq_s, if_neg (by rw [c_20]; decide)]; exact hinv.az hK2.1)
  · skip
    obtain ⟨K, hz9⟩ : ∃ q, q = z9 := ⟨_, rfl⟩
    subst hz9
    try dsimp only at hinv ⊢
    have hwv : wi (w_hq D q H (m, nI 0, 0)).1 H G := wi_hq (y := (m, nI 0, 0)) hw hH8
    have hTv : TX (w_hq D q H (m, nI 0, 0)).1 := hTXc _ _ hTX (tx_hq (y := (m, nI 0, 0)) hH8)
    refine mx_il3 d_Mo_meet_4 ?_
    refine mx_al0 d_Mo_meet_5 ?_
    refine mx_getR d_Mo_meet_6 fl_Mo_7 (by assumption) (by assumption) ?_
    refine mx_in_3 d_Mo_meet_9 ?_
    refine mx_iald d_Mo_meet_10 (by assumption) (nI_inb (by omega) (by omega)) ?_
    refine mx_ti (y := K (mo + 1) (3)) (by rw [nI_clamp (by omega)]) ?_
    refine mx_ti (y := nI (H)) ((congrFun hinv.2.2.1 3).trans hwv.1) ?_
    refine mx_icN_ge 96 d_Mo_meet_11 (by decide) (by omega) (by omega) (fun c_11 => ?_) (fun c_11 => absurd c_11 (by omega))
    refine mx_il2 d_Mo_meet_96 ?_
    exact mx_iret d_Mo_meet_97 rfl (mx_sR_i rfl hinv)
theorem c_Mo_goes (hM : mo_ok S P mo) (hm : I (mo + 1) = m) {dd : Nat} {TX : (Nat → Int32) → Prop} (hTX : TX m) (hask : ∀ (m : Nat → Int32) (I : mx_I) (h g q : Nat), TX m → I (mo + 1) = m → h < 8 → g < 8 → q < 8 → mx_C l E M_Mo_asks dd 0 0 [.ref (mo), .int (nI (h)), .int (nI (g)), .int (nI (q))] (t, S, I, P, J) (mx_sR none t S P J (fun K => ak_fin I K mo D m h g q))) (hTXc : ∀ m m', TX m → tx_eq m m' → TX m') (hdd : 2 ≤ dd) (hw : wi m H G) (hH8 : H ≤ 8) (hG8 : G ≤ 8) {n : Nat} (hn : n ≤ 60) {b : Bool} : mx_C l E M_Mo_goes (dd + 4) 0 0 [.ref (mo), .int (nI (n)), .int (bI (b))] (t, S, I, P, J) (mx_sR (some (.int (nI (w_ws D b H n (m, nI 0, 0)).2.2))) t S P J (fun K => bz I K mo (w_ws D b H n (m, nI 0, 0)).1 (w_ws D b H n (m, nI 0, 0)).2.1)) := by
  obtain ⟨hM0, hMp1, hMp2, hMp4, hMp5, hMp7, hMp14, hMp21, hMp22, hMp23, hMp24, hMp25, hMp26, hMp27, hMs1, hMs2, hMs3, hMs4, hMs5, hMs6, hMs7, hMs8, hMs9, hMs10, hMs11, hMs12, hMs13⟩ := id hM
  refine mx_C_of (ls0 := [some (.ref (mo)), some (.int (nI (n))), some (.int (bI (b))), none, none, none, none, none]) (by decide +kernel) rfl rfl (Nat.le_of_ble_eq_true rfl) rfl ?_
  refine mx_in_0 d_Mo_goes_0 ?_
  refine mx_is3 d_Mo_goes_1 ?_
  refine mx_al0 d_Mo_goes_2 ?_
  refine mx_in_0 d_Mo_goes_3 ?_
  refine mx_putI d_Mo_goes_4 fl_Mo_294 (by assumption) ?_
  refine mx_in_0 d_Mo_goes_7 ?_
  refine mx_is4 d_Mo_goes_8 ?_
  refine mx_loopX (α := (mx_I)) (N := n) (a0 := (mx_up I (mo) 20 (nI (0)))) (fun j z9 => bz I z9 mo (w_ws D b H j (m, nI 0, 0)).1 (w_ws D b H j (m, nI 0, 0)).2.1) (ls := fun j z9 => [some (.ref (mo)), some (.int (nI (n))), some (.int (bI (b))), some (.int (nI ((w_ws D b H j (m, nI 0, 0)).2.2))), some (.int (nI (j))), none, none, none]) (X := fun j z9 => (t, S, z9, P, J)) ((bz.rf hm rfl).set) (fun j hj z9 hinv ih => ?_) (fun z9 hinv => ?_)
  · skip
    obtain ⟨K, hz9⟩ : ∃ q, q = z9 := ⟨_, rfl⟩
    subst hz9
    try dsimp only at hinv ih ⊢
    have hwz : wi (w_ws D b H j (m, nI 0, 0)).1 H G := wi_ws (z := (m, nI 0, 0)) hw hH8
    have hTz : TX (w_ws D b H j (m, nI 0, 0)).1 := hTXc _ _ hTX (tx_ws (z := (m, nI 0, 0)) hH8)
    refine mx_il4 d_Mo_goes_10 ?_
    refine mx_il1 d_Mo_goes_12 ?_
    refine mx_icN_ge 141 d_Mo_goes_13 (by decide) (by omega) (by omega) (fun c_13 => absurd c_13 (by omega)) (fun c_13 => ?_)
    refine mx_in_0 d_Mo_goes_16 ?_
    refine mx_is5 d_Mo_goes_17 ?_
    refine mx_in_0 d_Mo_goes_19 ?_
    refine mx_is6 d_Mo_goes_20 ?_
    have ih10 := ih
    have hinv10 := hinv
    refine mx_loopX (α := (mx_I)) (N := 8) (a0 := K) (fun q z9 => bz I z9 mo (w_qs D b H q ((w_ws D b H j (m, nI 0, 0)).1, nI 0, 0)).1 (w_ws D b H j (m, nI 0, 0)).2.1) (ls := fun q z9 => [some (.ref (mo)), some (.int (nI (n))), some (.int (bI (b))), some (.int (nI ((w_ws D b H j (m, nI 0, 0)).2.2 + (w_qs D b H q ((w_ws D b H j (m, nI 0, 0)).1, nI 0, 0)).2.2))), some (.int (nI (j))), some (.int ((w_qs D b H q ((w_ws D b H j (m, nI 0, 0)).1, nI 0, 0)).2.1)), some (.int (nI (q))), none]) (X := fun q z9 => (t, S, z9, P, J)) (hinv) (fun q hq z9 hinv ih => ?_) (fun z9 hinv => ?_)
    · skip
      obtain ⟨K, hz9⟩ : ∃ q, q = z9 := ⟨_, rfl⟩
      subst hz9
      try dsimp only at hinv ih ⊢
      have hwy : wi (w_qs D b H q ((w_ws D b H j (m, nI 0, 0)).1, nI 0, 0)).1 H G := wi_qs (y := ((w_ws D b H j (m, nI 0, 0)).1, nI 0, 0)) hwz hH8
      have hTy : TX (w_qs D b H q ((w_ws D b H j (m, nI 0, 0)).1, nI 0, 0)).1 := hTXc _ _ hTz (tx_qs (y := ((w_ws D b H j (m, nI 0, 0)).1, nI 0, 0)) hH8)
      refine mx_il6 d_Mo_goes_22 ?_
      refine mx_bip 8 d_Mo_goes_24 (by decide) ?_
      refine mx_icN_ge 80 d_Mo_goes_26 (by decide) (by omega) (by omega) (fun c_26 => absurd c_26 (by omega)) (fun c_26 => ?_)
      refine mx_il2 d_Mo_goes_29 ?_
      refine mx_ifB_eq 51 d_Mo_goes_30 (by decide) (fun c_30 => ?_) (fun c_30 => ?_)
      · skip
        have hwet : w_wet b (w_qs D b H q ((w_ws D b H j (m, nI 0, 0)).1, nI 0, 0)).1 = false := w_wet_n c_30
        have hpq : bz I K mo (w_dr b (w_qs D b H q ((w_ws D b H j (m, nI 0, 0)).1, nI 0, 0)).1) (w_ws D b H j (m, nI 0, 0)).2.1 := by rw [w_dr_n c_30]; exact hinv
        refine mx_al0 d_Mo_goes_51 ?_
        refine mx_il6 d_Mo_goes_52 ?_
        refine mx_cV1iR d_Mo_goes_54 (c_Mo_meet hM hpq.2.2.1 (hTXc _ _ hTy tx_dr) hask hTXc hdd hpq.2.2.2 (wi_dr hwy) hH8 hG8 (q := q) (by omega)) ok_Mo_meet ml_Mo_300 (by assumption) ⟨rfl, rfl⟩ (by omega) (Nat.le_of_ble_eq_true rfl) (fun K2 hK2 => ?_)
        refine mx_is7 d_Mo_goes_57 ?_
        refine mx_il5 d_Mo_goes_59 ?_
        refine mx_il7 d_Mo_goes_61 ?_
        refine mx_ior d_Mo_goes_63 ?_
        refine mx_is5 d_Mo_goes_64 ?_
        refine mx_il3 d_Mo_goes_66 ?_
        refine mx_il7 d_Mo_goes_67 ?_
        refine mx_cS1i d_Mo_goes_69 (c_Mo_bits) ok_Mo_bits ml_Mo_303 (by omega) (Nat.le_of_ble_eq_true rfl) ?_
        refine mx_ti (y := nI ((w_hq D q H (w_dr b (w_qs D b H q ((w_ws D b H j (m, nI 0, 0)).1, nI 0, 0)).1, nI 0, 0)).2.2)) ((by rw [(w_hq_ct H hH8).1])) ?_
        refine mx_iaddN d_Mo_goes_72 ?_
        refine mx_is3 d_Mo_goes_73 ?_
        refine mx_iN6 d_Mo_goes_74 ?_
        refine mx_goto 22 d_Mo_goes_77 (by decide) ?_
        refine mx_dn7 ?_
        have e3 : nI ((w_ws D b H j (m, nI 0, 0)).2.2 + (w_qs D b H q ((w_ws D b H j (m, nI 0, 0)).1, nI 0, 0)).2.2 + ((w_hq D q H (w_dr b (w_qs D b H q ((w_ws D b H j (m, nI 0, 0)).1, nI 0, 0)).1, nI 0, 0)).2.2)) = nI ((w_ws D b H j (m, nI 0, 0)).2.2 + (w_qs D b H (q + 1) ((w_ws D b H j (m, nI 0, 0)).1, nI 0, 0)).2.2) := by rw [w_qs_s]; first | (rw [w_qd_y hwet]; done) | (rw [w_qd_n hwet, ← Nat.add_assoc]; done)
        refine mx_lsc (congrArg (fun z9 => ([some (.ref (mo)), some (.int (nI (n))), some (.int (bI (b))), some (.int (z9)), some (.int (nI (j))), some (.int (((w_qs D b H q ((w_ws D b H j (m, nI 0, 0)).1, nI 0, 0)).2.1 ||| (w_hq D q H (w_dr b (w_qs D b H q ((w_ws D b H j (m, nI 0, 0)).1, nI 0, 0)).1, nI 0, 0)).2.1))), some (.int (nI (q + 1))), none] : List (Option Value))) e3) ?_
        have e5 : ((w_qs D b H q ((w_ws D b H j (m, nI 0, 0)).1, nI 0, 0)).2.1 ||| (w_hq D q H (w_dr b (w_qs D b H q ((w_ws D b H j (m, nI 0, 0)).1, nI 0, 0)).1, nI 0, 0)).2.1) = (w_qs D b H (q + 1) ((w_ws D b H j (m, nI 0, 0)).1, nI 0, 0)).2.1 := by rw [w_qs_s]; first | (rw [w_qd_y hwet]; done) | (rw [w_qd_n hwet]; done)
        refine mx_lsc (congrArg (fun z9 => ([some (.ref (mo)), some (.int (nI (n))), some (.int (bI (b))), some (.int (nI ((w_ws D b H j (m, nI 0, 0)).2.2 + (w_qs D b H (q + 1) ((w_ws D b H j (m, nI 0, 0)).1, nI 0, 0)).2.2))), some (.int (nI (j))), some (.int (z9)), some (.int (nI (q + 1))), none] : List (Option Value))) e5) ?_
        exact ih K2 (by rw [w_qs_s, w_qd_n hwet]; exact hpq.tr hK2)
      · skip
        refine mx_al0 d_Mo_goes_33 ?_
        refine mx_bip 100 d_Mo_goes_34 (by decide) ?_
        refine mx_cV1i d_Mo_goes_36 (c_Mo_draw hM hinv.2.2.1) ok_Mo_draw ml_Mo_297 (by assumption) ⟨rfl, rfl⟩ (by omega) (Nat.le_of_ble_eq_true rfl) ?_
        refine mx_al0 d_Mo_goes_39 ?_
        refine mx_getR d_Mo_goes_40 fl_Mo_7 (by assumption) (by assumption) ?_
        refine mx_in_5 d_Mo_goes_43 ?_
        refine mx_iald d_Mo_goes_44 (by assumption) (nI_inb (by omega) (by omega)) ?_
        refine mx_ti (y := (mx_up K (mo + 1) 10 (w_sd ((w_qs D b H q ((w_ws D b H j (m, nI 0, 0)).1, nI 0, 0)).1 10))) (mo + 1) (5)) (by rw [nI_clamp (by omega)]) ?_
        refine mx_ti (y := ((w_qs D b H q ((w_ws D b H j (m, nI 0, 0)).1, nI 0, 0)).1 5)) ((by simp [mx_up, hinv.2.2.1])) ?_
        refine mx_icmp_ge 51 d_Mo_goes_45 (by decide) (fun c_45 => ?_) (fun c_45 => ?_)
        · skip
          have hwet : w_wet b (w_qs D b H q ((w_ws D b H j (m, nI 0, 0)).1, nI 0, 0)).1 = false := w_wet_f c_30 rfl rfl (Int32.not_lt.mpr c_45)
          have hpq : bz I (mx_up K (mo + 1) 10 (w_sd ((w_qs D b H q ((w_ws D b H j (m, nI 0, 0)).1, nI 0, 0)).1 10))) mo (w_dr b (w_qs D b H q ((w_ws D b H j (m, nI 0, 0)).1, nI 0, 0)).1) (w_ws D b H j (m, nI 0, 0)).2.1 := by rw [w_dr_t c_30]; exact hinv.up
          refine mx_al0 d_Mo_goes_51 ?_
          refine mx_il6 d_Mo_goes_52 ?_
          refine mx_cV1iR d_Mo_goes_54 (c_Mo_meet hM hpq.2.2.1 (hTXc _ _ hTy tx_dr) hask hTXc hdd hpq.2.2.2 (wi_dr hwy) hH8 hG8 (q := q) (by omega)) ok_Mo_meet ml_Mo_300 (by assumption) ⟨rfl, rfl⟩ (by omega) (Nat.le_of_ble_eq_true rfl) (fun K2 hK2 => ?_)
          refine mx_is7 d_Mo_goes_57 ?_
          refine mx_il5 d_Mo_goes_59 ?_
          refine mx_il7 d_Mo_goes_61 ?_
          refine mx_ior d_Mo_goes_63 ?_
          refine mx_is5 d_Mo_goes_64 ?_
          refine mx_il3 d_Mo_goes_66 ?_
          refine mx_il7 d_Mo_goes_67 ?_
          refine mx_cS1i d_Mo_goes_69 (c_Mo_bits) ok_Mo_bits ml_Mo_303 (by omega) (Nat.le_of_ble_eq_true rfl) ?_
          refine mx_ti (y := nI ((w_hq D q H (w_dr b (w_qs D b H q ((w_ws D b H j (m, nI 0, 0)).1, nI 0, 0)).1, nI 0, 0)).2.2)) ((by rw [(w_hq_ct H hH8).1])) ?_
          refine mx_iaddN d_Mo_goes_72 ?_
          refine mx_is3 d_Mo_goes_73 ?_
          refine mx_iN6 d_Mo_goes_74 ?_
          refine mx_goto 22 d_Mo_goes_77 (by decide) ?_
          refine mx_dn7 ?_
          have e3 : nI ((w_ws D b H j (m, nI 0, 0)).2.2 + (w_qs D b H q ((w_ws D b H j (m, nI 0, 0)).1, nI 0, 0)).2.2 + ((w_hq D q H (w_dr b (w_qs D b H q ((w_ws D b H j (m, nI 0, 0)).1, nI 0, 0)).1, nI 0, 0)).2.2)) = nI ((w_ws D b H j (m, nI 0, 0)).2.2 + (w_qs D b H (q + 1) ((w_ws D b H j (m, nI 0, 0)).1, nI 0, 0)).2.2) := by rw [w_qs_s]; first | (rw [w_qd_y hwet]; done) | (rw [w_qd_n hwet, ← Nat.add_assoc]; done)
          refine mx_lsc (congrArg (fun z9 => ([some (.ref (mo)), some (.int (nI (n))), some (.int (bI (b))), some (.int (z9)), some (.int (nI (j))), some (.int (((w_qs D b H q ((w_ws D b H j (m, nI 0, 0)).1, nI 0, 0)).2.1 ||| (w_hq D q H (w_dr b (w_qs D b H q ((w_ws D b H j (m, nI 0, 0)).1, nI 0, 0)).1, nI 0, 0)).2.1))), some (.int (nI (q + 1))), none] : List (Option Value))) e3) ?_
          have e5 : ((w_qs D b H q ((w_ws D b H j (m, nI 0, 0)).1, nI 0, 0)).2.1 ||| (w_hq D q H (w_dr b (w_qs D b H q ((w_ws D b H j (m, nI 0, 0)).1, nI 0, 0)).1, nI 0, 0)).2.1) = (w_qs D b H (q + 1) ((w_ws D b H j (m, nI 0, 0)).1, nI 0, 0)).2.1 := by rw [w_qs_s]; first | (rw [w_qd_y hwet]; done) | (rw [w_qd_n hwet]; done)
          refine mx_lsc (congrArg (fun z9 => ([some (.ref (mo)), some (.int (nI (n))), some (.int (bI (b))), some (.int (nI ((w_ws D b H j (m, nI 0, 0)).2.2 + (w_qs D b H (q + 1) ((w_ws D b H j (m, nI 0, 0)).1, nI 0, 0)).2.2))), some (.int (nI (j))), some (.int (z9)), some (.int (nI (q + 1))), none] : List (Option Value))) e5) ?_
          exact ih K2 (by rw [w_qs_s, w_qd_n hwet]; exact hpq.tr hK2)
        · skip
          have hwet : w_wet b (w_qs D b H q ((w_ws D b H j (m, nI 0, 0)).1, nI 0, 0)).1 = true := w_wet_t c_30 rfl rfl (Int32.not_le.mp c_45)
          have hpq : bz I (mx_up K (mo + 1) 10 (w_sd ((w_qs D b H q ((w_ws D b H j (m, nI 0, 0)).1, nI 0, 0)).1 10))) mo (w_dr b (w_qs D b H q ((w_ws D b H j (m, nI 0, 0)).1, nI 0, 0)).1) (w_ws D b H j (m, nI 0, 0)).2.1 := by rw [w_dr_t c_30]; exact hinv.up
          refine mx_goto 74 d_Mo_goes_48 (by decide) ?_
          refine mx_iN6 d_Mo_goes_74 ?_
          refine mx_goto 22 d_Mo_goes_77 (by decide) ?_
          have e3 : nI ((w_ws D b H j (m, nI 0, 0)).2.2 + (w_qs D b H q ((w_ws D b H j (m, nI 0, 0)).1, nI 0, 0)).2.2) = nI ((w_ws D b H j (m, nI 0, 0)).2.2 + (w_qs D b H (q + 1) ((w_ws D b H j (m, nI 0, 0)).1, nI 0, 0)).2.2) := by rw [w_qs_s]; first | (rw [w_qd_y hwet]; done) | (rw [w_qd_n hwet, ← Nat.add_assoc]; done)
          refine mx_lsc (congrArg (fun z9 => ([some (.ref (mo)), some (.int (nI (n))), some (.int (bI (b))), some (.int (z9)), some (.int (nI (j))), some (.int ((w_qs D b H q ((w_ws D b H j (m, nI 0, 0)).1, nI 0, 0)).2.1)), some (.int (nI (q + 1))), none] : List (Option Value))) e3) ?_
          have e5 : (w_qs D b H q ((w_ws D b H j (m, nI 0, 0)).1, nI 0, 0)).2.1 = (w_qs D b H (q + 1) ((w_ws D b H j (m, nI 0, 0)).1, nI 0, 0)).2.1 := by rw [w_qs_s]; first | (rw [w_qd_y hwet]; done) | (rw [w_qd_n hwet]; done)
          refine mx_lsc (congrArg (fun z9 => ([some (.ref (mo)), some (.int (nI (n))), some (.int (bI (b))), some (.int (nI ((w_ws D b H j (m, nI 0, 0)).2.2 + (w_qs D b H (q + 1) ((w_ws D b H j (m, nI 0, 0)).1, nI 0, 0)).2.2))), some (.int (nI (j))), some (.int (z9)), some (.int (nI (q + 1))), none] : List (Option Value))) e5) ?_
          exact ih (mx_up K (mo + 1) 10 (w_sd ((w_qs D b H q ((w_ws D b H j (m, nI 0, 0)).1, nI 0, 0)).1 10))) (by rw [w_qs_s, w_qd_y hwet]; exact hpq)
    · skip
      obtain ⟨K, hz9⟩ : ∃ q, q = z9 := ⟨_, rfl⟩
      subst hz9
      try dsimp only at hinv ⊢
      have hwy : wi (w_qs D b H 8 ((w_ws D b H j (m, nI 0, 0)).1, nI 0, 0)).1 H G := wi_qs (y := ((w_ws D b H j (m, nI 0, 0)).1, nI 0, 0)) hwz hH8
      have hTy : TX (w_qs D b H 8 ((w_ws D b H j (m, nI 0, 0)).1, nI 0, 0)).1 := hTXc _ _ hTz (tx_qs (y := ((w_ws D b H j (m, nI 0, 0)).1, nI 0, 0)) hH8)
      refine mx_il6 d_Mo_goes_22 ?_
      refine mx_bip 8 d_Mo_goes_24 (by decide) ?_
      refine mx_icN_ge 80 d_Mo_goes_26 (by decide) (by omega) (by omega) (fun c_26 => ?_) (fun c_26 => absurd c_26 (by omega))
      refine mx_in_0 d_Mo_goes_80 ?_
      refine mx_is6 d_Mo_goes_81 ?_
      have ih10 := ih
      have hinv10 := hinv
      refine mx_loopX (α := (mx_I)) (N := H) (a0 := K) (fun h z9 => bz I z9 mo (w_en ((w_qs D b H 8 ((w_ws D b H j (m, nI 0, 0)).1, nI 0, 0)).1, (w_ws D b H j (m, nI 0, 0)).2.1) (w_qs D b H 8 ((w_ws D b H j (m, nI 0, 0)).1, nI 0, 0)).2.1 h).1 (w_en ((w_qs D b H 8 ((w_ws D b H j (m, nI 0, 0)).1, nI 0, 0)).1, (w_ws D b H j (m, nI 0, 0)).2.1) (w_qs D b H 8 ((w_ws D b H j (m, nI 0, 0)).1, nI 0, 0)).2.1 h).2) (ls := fun h z9 => [some (.ref (mo)), some (.int (nI (n))), some (.int (bI (b))), some (.int (nI ((w_ws D b H j (m, nI 0, 0)).2.2 + (w_qs D b H 8 ((w_ws D b H j (m, nI 0, 0)).1, nI 0, 0)).2.2))), some (.int (nI (j))), some (.int ((w_qs D b H 8 ((w_ws D b H j (m, nI 0, 0)).1, nI 0, 0)).2.1)), some (.int (nI (h))), none]) (X := fun h z9 => (t, S, z9, P, J)) (hinv) (fun h hh z9 hinv ih => ?_) (fun z9 hinv => ?_)
      · skip
        obtain ⟨K, hz9⟩ : ∃ q, q = z9 := ⟨_, rfl⟩
        subst hz9
        try dsimp only at hinv ih ⊢
        have hwe : wi (w_en ((w_qs D b H 8 ((w_ws D b H j (m, nI 0, 0)).1, nI 0, 0)).1, (w_ws D b H j (m, nI 0, 0)).2.1) (w_qs D b H 8 ((w_ws D b H j (m, nI 0, 0)).1, nI 0, 0)).2.1 h).1 H G := wi_en (z := ((w_qs D b H 8 ((w_ws D b H j (m, nI 0, 0)).1, nI 0, 0)).1, (w_ws D b H j (m, nI 0, 0)).2.1)) (wi_qs (y := ((w_ws D b H j (m, nI 0, 0)).1, nI 0, 0)) hwz hH8) (by omega)
        refine mx_il6 d_Mo_goes_83 ?_
        refine mx_al0 d_Mo_goes_85 ?_
        refine mx_getR d_Mo_goes_86 fl_Mo_7 (by assumption) (by assumption) ?_
        refine mx_in_3 d_Mo_goes_89 ?_
        refine mx_iald d_Mo_goes_90 (by assumption) (nI_inb (by omega) (by omega)) ?_
        refine mx_ti (y := K (mo + 1) (3)) (by rw [nI_clamp (by omega)]) ?_
        refine mx_ti (y := nI (H)) ((congrFun hinv.2.2.1 3).trans hwe.1) ?_
        refine mx_icN_ge 113 d_Mo_goes_91 (by decide) (by omega) (by omega) (fun c_91 => absurd c_91 (by omega)) (fun c_91 => ?_)
        refine mx_al0 d_Mo_goes_94 ?_
        refine mx_il6 d_Mo_goes_95 ?_
        refine mx_il5 d_Mo_goes_97 ?_
        refine mx_il6 d_Mo_goes_99 ?_
        refine mx_cS2i d_Mo_goes_101 (c_Mo_isOf (j := h) (by omega)) ok_Mo_isOf ml_Mo_74 (by omega) (Nat.le_of_ble_eq_true rfl) ?_
        refine mx_cV2vR d_Mo_goes_104 (c_Mo_closes hM hinv.2.2.1 hinv.2.2.2 (h := h) (b := bt (w_qs D b H 8 ((w_ws D b H j (m, nI 0, 0)).1, nI 0, 0)).2.1 h) (by omega)) ok_Mo_closes ml_Mo_306 (by assumption) ⟨rfl, rfl⟩ (by omega) (Nat.le_of_ble_eq_true rfl) (fun K3 hK3 => ?_)
        refine mx_iN6 d_Mo_goes_107 ?_
        refine mx_goto 83 d_Mo_goes_110 (by decide) ?_
        exact ih K3 (by rw [w_en_s]; exact hinv.tr hK3)
      · skip
        obtain ⟨K, hz9⟩ : ∃ q, q = z9 := ⟨_, rfl⟩
        subst hz9
        try dsimp only at hinv ⊢
        have hwe : wi (w_en ((w_qs D b H 8 ((w_ws D b H j (m, nI 0, 0)).1, nI 0, 0)).1, (w_ws D b H j (m, nI 0, 0)).2.1) (w_qs D b H 8 ((w_ws D b H j (m, nI 0, 0)).1, nI 0, 0)).2.1 H).1 H G := wi_en (z := ((w_qs D b H 8 ((w_ws D b H j (m, nI 0, 0)).1, nI 0, 0)).1, (w_ws D b H j (m, nI 0, 0)).2.1)) (wi_qs (y := ((w_ws D b H j (m, nI 0, 0)).1, nI 0, 0)) hwz hH8) hH8
        refine mx_il6 d_Mo_goes_83 ?_
        refine mx_al0 d_Mo_goes_85 ?_
        refine mx_getR d_Mo_goes_86 fl_Mo_7 (by assumption) (by assumption) ?_
        refine mx_in_3 d_Mo_goes_89 ?_
        refine mx_iald d_Mo_goes_90 (by assumption) (nI_inb (by omega) (by omega)) ?_
        refine mx_ti (y := K (mo + 1) (3)) (by rw [nI_clamp (by omega)]) ?_
        refine mx_ti (y := nI (H)) ((congrFun hinv.2.2.1 3).trans hwe.1) ?_
        refine mx_icN_ge 113 d_Mo_goes_91 (by decide) (by omega) (by omega) (fun c_91 => ?_) (fun c_91 => absurd c_91 (by omega))
        refine mx_al0 d_Mo_goes_113 ?_
        refine mx_getR d_Mo_goes_114 fl_Mo_7 (by assumption) (by assumption) ?_
        refine mx_bip 6 d_Mo_goes_117 (by decide) ?_
        refine mx_sip 9999 d_Mo_goes_119 (by decide) ?_
        refine mx_al0 d_Mo_goes_122 ?_
        refine mx_getR d_Mo_goes_123 fl_Mo_7 (by assumption) (by assumption) ?_
        refine mx_bip 6 d_Mo_goes_126 (by decide) ?_
        refine mx_iald d_Mo_goes_128 (by assumption) (nI_inb (by omega) (by omega)) ?_
        refine mx_ti (y := K (mo + 1) (6)) (by rw [nI_clamp (by omega)]) ?_
        refine mx_ti (y := ((w_en ((w_qs D b H 8 ((w_ws D b H j (m, nI 0, 0)).1, nI 0, 0)).1, (w_ws D b H j (m, nI 0, 0)).2.1) (w_qs D b H 8 ((w_ws D b H j (m, nI 0, 0)).1, nI 0, 0)).2.1 H).1 6)) ((congrFun hinv.2.2.1 6)) ?_
        refine mx_in_1 d_Mo_goes_129 ?_
        refine mx_iadd d_Mo_goes_130 ?_
        refine mx_cS2i d_Mo_goes_131 (c_Mo_lesser) ok_Mo_lesser ml_Mo_124 (by omega) (Nat.le_of_ble_eq_true rfl) ?_
        refine mx_ti (y := (mn9 ((w_en ((w_qs D b H 8 ((w_ws D b H j (m, nI 0, 0)).1, nI 0, 0)).1, (w_ws D b H j (m, nI 0, 0)).2.1) (w_qs D b H 8 ((w_ws D b H j (m, nI 0, 0)).1, nI 0, 0)).2.1 H).1 6 + nI 1) (nI 9999))) ((mn9_le _ _)) ?_
        refine mx_iast d_Mo_goes_134 (by assumption) (nI_inb (by omega) (by omega)) ?_
        rw [nI_clamp (by omega)]
        refine mx_iN4 d_Mo_goes_135 ?_
        refine mx_goto 10 d_Mo_goes_138 (by decide) ?_
        refine mx_dn5 ?_
        refine mx_dn6 ?_
        have e3 : nI ((w_ws D b H j (m, nI 0, 0)).2.2 + (w_qs D b H 8 ((w_ws D b H j (m, nI 0, 0)).1, nI 0, 0)).2.2) = nI ((w_ws D b H (j + 1) (m, nI 0, 0)).2.2) := by rw [w_ws_s]; rfl
        refine mx_lsc (congrArg (fun z9 => ([some (.ref (mo)), some (.int (nI (n))), some (.int (bI (b))), some (.int (z9)), some (.int (nI (j + 1))), none, none, none] : List (Option Value))) e3) ?_
        exact ih (mx_up K (mo + 1) (6) ((mn9 ((w_en ((w_qs D b H 8 ((w_ws D b H j (m, nI 0, 0)).1, nI 0, 0)).1, (w_ws D b H j (m, nI 0, 0)).2.1) (w_qs D b H 8 ((w_ws D b H j (m, nI 0, 0)).1, nI 0, 0)).2.1 H).1 6 + nI 1) (nI 9999)))) (by rw [w_ws_s]; exact hinv.up)
  · skip
    obtain ⟨K, hz9⟩ : ∃ q, q = z9 := ⟨_, rfl⟩
    subst hz9
    try dsimp only at hinv ⊢
    have hwz : wi (w_ws D b H n (m, nI 0, 0)).1 H G := wi_ws (z := (m, nI 0, 0)) hw hH8
    have hTz : TX (w_ws D b H n (m, nI 0, 0)).1 := hTXc _ _ hTX (tx_ws (z := (m, nI 0, 0)) hH8)
    refine mx_il4 d_Mo_goes_10 ?_
    refine mx_il1 d_Mo_goes_12 ?_
    refine mx_icN_ge 141 d_Mo_goes_13 (by decide) (by omega) (by omega) (fun c_13 => ?_) (fun c_13 => absurd c_13 (by omega))
    refine mx_il3 d_Mo_goes_141 ?_
    exact mx_iret d_Mo_goes_142 rfl (mx_sR_i rfl hinv)
end AH42
