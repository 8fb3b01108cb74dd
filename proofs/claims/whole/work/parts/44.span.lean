/-! WEEKS AHEAD OF THE REFERENCE -/
/-- a question of the reference that puts its row aside: what it leaves -/
def cz (I K : mx_I) (mo : Nat) (e : Nat) : Prop := (∀ c, c ≠ mo → c ≠ mo + 3 → c ≠ mo + 6 → K c = I c) ∧ (∀ f, 1 ≤ f → f ≤ 8 ∨ f = 12 ∨ f = 14 ∨ 21 ≤ f → K mo f = I mo f) ∧ K mo 0 = nI e
theorem cz_th {I : mx_I} {mo e : Nat} : cz I (mx_up I mo 0 (nI e)) mo e := ⟨fun c a _ _ => mx_up_ne a, fun f h _ => by unfold mx_up; rw [if_neg (by omega)], by simp [mx_up]⟩
theorem cz_as {I : mx_I} {mo : Nat} {m : Nat → Int32} (hm : I (mo + 1) = m) : cz I (vs_cq (mx_up I mo 0 (nI 0)) (mo + 1) 0 (mo + 3) 0 619) mo 0 ∧ ∀ k, k < 619 → vs_cq (mx_up I mo 0 (nI 0)) (mo + 1) 0 (mo + 3) 0 619 (mo + 3) k = m k := by
  refine ⟨⟨fun c a b _ => (vs_cq_ne b).trans (mx_up_ne a), fun f h _ => ?_, ?_⟩, fun k hk => ?_⟩
  · rw [vs_cq_ne (by omega)]; unfold mx_up; rw [if_neg (by omega)]
  · rw [vs_cq_ne (by omega)]; simp [mx_up]
  · unfold vs_cq; rw [if_pos ⟨rfl, by omega, by omega⟩, mx_up_ne (by omega), hm]; congr 1; omega
theorem cz_bk {I K K9 K1 : mx_I} {mo e : Nat} {m m0 m' : Nat → Int32} {v : Int32} (h : cz I K mo e) (hm : I (mo + 1) = m) (ha : ∀ k, k < 619 → K (mo + 3) k = m k) (h9 : ∀ c, c ≠ mo + 1 → K9 c = K c) (h1 : bz K9 K1 mo m' v) (h0 : tx_eq m0 m') (h00 : tx_eq m m0) : cz I (vs_cq K1 (mo + 3) 0 (mo + 1) 0 619) mo e ∧ ∀ k, k < 619 → vs_cq K1 (mo + 3) 0 (mo + 1) 0 619 (mo + 3) k = m k := by
  have e3 : K1 (mo + 3) = K (mo + 3) := (h1.1 _ (by omega) (by omega) (by omega)).trans (h9 _ (by omega))
  have eo : ∀ f, f ≤ 8 ∨ f = 12 ∨ f = 14 ∨ 21 ≤ f → K1 mo f = K mo f := fun f hf => (h1.2.1 f hf).trans (congrFun (h9 mo (by omega)) f)
  refine ⟨⟨fun c a b d => ?_, fun f hf hf2 => ?_, ?_⟩, fun k hk => by rw [vs_cq_ne (by omega), e3]; exact ha k hk⟩
  · by_cases q : c = mo + 1
    · subst q
      funext k
      unfold vs_cq
      by_cases hk : k < 619
      · rw [if_pos ⟨rfl, by omega, by omega⟩, e3, show 0 + (k - 0) = k by omega, ha k hk, hm]
      · rw [if_neg (by omega), h1.2.2.1, h0 k (by omega), h00 k (by omega), hm]
    · rw [vs_cq_ne q, h1.1 c a q d, h9 c q]; exact h.1 c a b d
  · rw [vs_cq_ne (by omega), eo f hf2]; exact h.2.1 f hf hf2
  · rw [vs_cq_ne (by omega), eo 0 (by omega)]; exact h.2.2
theorem tx_sd {m : Nat → Int32} {v : Int32} : tx_eq m (updI m 10 v) := fun k hk => updI_n (by omega)
theorem st_fn_k {D : lwD} {m : Nat → Int32} {H h k n : Nat} (hk : k ≤ n) (e : ¬ st_fn D m H h k = -1) : st_fn D m H h n = st_fn D m H h k := by
  induction n with
  | zero => have : k = 0 := by omega
            subst this; rfl
  | succ n ih =>
    by_cases q : k = n + 1
    · rw [q]
    · have e2 := ih (by omega)
      rw [st_fn_s, if_neg (by rw [e2]; exact e), e2]
section AK44
variable {l : Launch} {E : mx_Env} {t : Nat} {S : mx_S} {I : mx_I} {P : mx_P} {J : mx_G} {m : Nat → Int32} {x mo H G n s la z A : Nat} {D : lwD}
theorem c_Mo_gladder (hM : mo_ok S P mo) (hm : I (mo + 1) = m) {dd : Nat} {TX : (Nat → Int32) → Prop} (hTX : TX m) (hask : ∀ (m : Nat → Int32) (I : mx_I) (h g q : Nat), TX m → I (mo + 1) = m → h < 8 → g < 8 → q < 8 → mx_C l E M_Mo_asks dd 0 0 [.ref (mo), .int (nI (h)), .int (nI (g)), .int (nI (q))] (t, S, I, P, J) (mx_sR none t S P J (fun K => ak_fin I K mo D m h g q))) (hTXc : ∀ m m', TX m → tx_eq m m' → TX m') (hdd : 2 ≤ dd) (hw : wi m H G) (hH8 : H ≤ 8) (hG8 : G ≤ 8) {v : Int32} : mx_C l E M_Mo_gladder (dd + 5) 0 0 [.ref (mo), .int (v)] (t, S, I, P, J) (mx_sR (some (.int (sp_gladder D m H v).2)) t S P J (fun K => cz I K mo (sp_gladder D m H v).1)) := by
  obtain ⟨hM0, hMp1, hMp2, hMp4, hMp5, hMp7, hMp14, hMp21, hMp22, hMp23, hMp24, hMp25, hMp26, hMp27, hMs1, hMs2, hMs3, hMs4, hMs5, hMs6, hMs7, hMs8, hMs9, hMs10, hMs11, hMs12, hMs13⟩ := id hM
  refine mx_C_of (ls0 := [some (.ref (mo)), some (.int (v)), none, none, none]) (by decide +kernel) rfl rfl (Nat.le_of_ble_eq_true rfl) rfl ?_
  refine mx_al0 d_Mo_gladder_0 ?_
  refine mx_il1 d_Mo_gladder_1 ?_
  refine mx_in_0 d_Mo_gladder_2 ?_
  refine mx_bip 60 d_Mo_gladder_3 (by decide) ?_
  refine mx_cS3i d_Mo_gladder_5 (cm_isIn0 (x := v) (n := 60) (by omega)) ok_Mo_isIn ml_Mo_57 (by omega) (Nat.le_of_ble_eq_true rfl) ?_
  refine mx_ifB_ne 15 d_Mo_gladder_8 (by decide) (fun c_8 => ?_) (fun c_8 => ?_)
  · skip
    obtain ⟨n, hnL, rfl⟩ := vs_isN_of (by omega) c_8
    have hnc : (nI n).toNatClampNeg = n := nI_clamp (by omega)
    refine mx_in_0 d_Mo_gladder_15 ?_
    refine mx_putI d_Mo_gladder_16 fl_Mo_54 (by assumption) ?_
    refine mx_al0 d_Mo_gladder_19 ?_
    refine mx_getI d_Mo_gladder_20 fl_Mo_54 (by assumption) ?_
    refine mx_ti (y := nI (0)) (vs_upx) ?_
    refine mx_if_le 28 d_Mo_gladder_23 (by decide) (fun c_23 => ?_) (fun c_23 => absurd (by decide) c_23)
    refine mx_al0 d_Mo_gladder_28 ?_
    refine mx_cV0i d_Mo_gladder_29 (cm_gladness hM (vs_hm hm) hw.1 hH8) ok_Mo_gladness ml_Mo_319 (by assumption) ⟨rfl, rfl⟩ (by omega) (Nat.le_of_ble_eq_true rfl) ?_
    refine mx_is2 d_Mo_gladder_32 ?_
    refine mx_al0 d_Mo_gladder_33 ?_
    refine mx_cV0v d_Mo_gladder_34 (c_Mo_aside hM) ok_Mo_putsAside ml_Mo_192 (by assumption) ⟨rfl, rfl⟩ (by omega) (Nat.le_of_ble_eq_true rfl) ?_
    refine mx_al0 d_Mo_gladder_37 ?_
    refine mx_il1 d_Mo_gladder_38 ?_
    refine mx_in_0 d_Mo_gladder_39 ?_
    refine mx_cV2iR d_Mo_gladder_40 (c_Mo_goes hM (by rw [vs_cq_ne (by omega), mx_up_ne (by omega)]; exact hm) hTX hask hTXc hdd hw hH8 hG8 (n := n) (by omega) (b := false)) ok_Mo_goes ml_Mo_347 (by assumption) ⟨rfl, rfl⟩ (by omega) (Nat.le_of_ble_eq_true rfl) (fun K1 hK1 => ?_)
    refine mx_is3 d_Mo_gladder_43 ?_
    refine mx_al0 d_Mo_gladder_44 ?_
    refine mx_cV0i d_Mo_gladder_45 (cm_gladness hM hK1.2.2.1 (wi_ws (z := (m, nI 0, 0)) hw hH8).1 hH8) ok_Mo_gladness ml_Mo_319 (by assumption) ⟨rfl, rfl⟩ (by omega) (Nat.le_of_ble_eq_true rfl) ?_
    refine mx_is4 d_Mo_gladder_48 ?_
    refine mx_al0 d_Mo_gladder_50 ?_
    refine mx_cV0v d_Mo_gladder_51 (c_Mo_comes hM) ok_Mo_comesBack ml_Mo_202 (by assumption) ⟨rfl, rfl⟩ (by omega) (Nat.le_of_ble_eq_true rfl) ?_
    refine mx_il4 d_Mo_gladder_54 ?_
    refine mx_il2 d_Mo_gladder_56 ?_
    refine mx_isub d_Mo_gladder_57 ?_
    exact mx_iret d_Mo_gladder_58 rfl (mx_sR_i (by simp [sp_gladder, w_ah, *]) (by rw [show (sp_gladder D m H _).1 = 0 from by simp [sp_gladder, w_ah, *]]; exact (cz_bk (cz_as hm).1 hm (cz_as hm).2 (fun _ _ => rfl) hK1 (tx_ws (z := (m, nI 0, 0)) hH8) tx_eq.rf).1))
  · skip
    refine mx_in_1 d_Mo_gladder_11 ?_
    refine mx_goto 16 d_Mo_gladder_12 (by decide) ?_
    refine mx_putI d_Mo_gladder_16 fl_Mo_54 (by assumption) ?_
    refine mx_al0 d_Mo_gladder_19 ?_
    refine mx_getI d_Mo_gladder_20 fl_Mo_54 (by assumption) ?_
    refine mx_ti (y := nI (1)) (vs_upx) ?_
    refine mx_if_le 28 d_Mo_gladder_23 (by decide) (fun c_23 => absurd c_23 (by decide)) (fun c_23 => ?_)
    refine mx_in_0 d_Mo_gladder_26 ?_
    exact mx_iret d_Mo_gladder_27 rfl (mx_sR_i (by simp [sp_gladder, w_ah, *]) (by rw [show (sp_gladder D m H _).1 = 1 from by simp [sp_gladder, w_ah, *]]; exact cz_th))
theorem c_Mo_ahead (hM : mo_ok S P mo) (hm : I (mo + 1) = m) {dd : Nat} {TX : (Nat → Int32) → Prop} (hTX : TX m) (hask : ∀ (m : Nat → Int32) (I : mx_I) (h g q : Nat), TX m → I (mo + 1) = m → h < 8 → g < 8 → q < 8 → mx_C l E M_Mo_asks dd 0 0 [.ref (mo), .int (nI (h)), .int (nI (g)), .int (nI (q))] (t, S, I, P, J) (mx_sR none t S P J (fun K => ak_fin I K mo D m h g q))) (hTXc : ∀ m m', TX m → tx_eq m m' → TX m') (hdd : 2 ≤ dd) (hw : wi m H G) (hH8 : H ≤ 8) (hG8 : G ≤ 8) {v w u : Int32} : mx_C l E M_Mo_ahead (dd + 5) 0 0 [.ref (mo), .int (v), .int (w), .int (u)] (t, S, I, P, J) (mx_sR (some (.int (sp_ahead D m H v w u).2)) t S P J (fun K => cz I K mo (sp_ahead D m H v w u).1)) := by
  obtain ⟨hM0, hMp1, hMp2, hMp4, hMp5, hMp7, hMp14, hMp21, hMp22, hMp23, hMp24, hMp25, hMp26, hMp27, hMs1, hMs2, hMs3, hMs4, hMs5, hMs6, hMs7, hMs8, hMs9, hMs10, hMs11, hMs12, hMs13⟩ := id hM
  refine mx_C_of (ls0 := [some (.ref (mo)), some (.int (v)), some (.int (w)), some (.int (u)), none, none]) (by decide +kernel) rfl rfl (Nat.le_of_ble_eq_true rfl) rfl ?_
  refine mx_al0 d_Mo_ahead_0 ?_
  refine mx_al0 d_Mo_ahead_1 ?_
  refine mx_il1 d_Mo_ahead_2 ?_
  refine mx_cV1i d_Mo_ahead_3 (cm_isHost hM hm hw.1 hH8) ok_Mo_isHost ml_Mo_310 (by assumption) ⟨rfl, rfl⟩ (by omega) (Nat.le_of_ble_eq_true rfl) ?_
  refine mx_ifB_ne 13 d_Mo_ahead_6 (by decide) (fun c_6 => ?_) (fun c_6 => ?_)
  · skip
    obtain ⟨h, hhL, rfl⟩ := vs_isN_of (by omega) c_6
    have hhc : (nI h).toNatClampNeg = h := nI_clamp (by omega)
    have hhL8 : h < 8 := by omega
    refine mx_il2 d_Mo_ahead_13 ?_
    refine mx_in_0 d_Mo_ahead_14 ?_
    refine mx_bip 60 d_Mo_ahead_15 (by decide) ?_
    refine mx_cS3i d_Mo_ahead_17 (cm_isIn0 (x := w) (n := 60) (by omega)) ok_Mo_isIn ml_Mo_57 (by omega) (Nat.le_of_ble_eq_true rfl) ?_
    refine mx_ifB_ne 27 d_Mo_ahead_20 (by decide) (fun c_20 => ?_) (fun c_20 => ?_)
    · skip
      obtain ⟨n, hnL, rfl⟩ := vs_isN_of (by omega) c_20
      have hnc : (nI n).toNatClampNeg = n := nI_clamp (by omega)
      refine mx_il3 d_Mo_ahead_27 ?_
      refine mx_in_0 d_Mo_ahead_28 ?_
      refine mx_in_1 d_Mo_ahead_29 ?_
      refine mx_cS3i d_Mo_ahead_30 (cm_isIn0 (x := u) (n := 1) (by omega)) ok_Mo_isIn ml_Mo_57 (by omega) (Nat.le_of_ble_eq_true rfl) ?_
      refine mx_ifB_ne 40 d_Mo_ahead_33 (by decide) (fun c_33 => ?_) (fun c_33 => ?_)
      · skip
        obtain ⟨k, hkL, rfl⟩ := vs_isN_of (by omega) c_33
        have hkc : (nI k).toNatClampNeg = k := nI_clamp (by omega)
        have hkL8 : k < 8 := by omega
        refine mx_in_0 d_Mo_ahead_40 ?_
        refine mx_putI d_Mo_ahead_41 fl_Mo_54 (by assumption) ?_
        refine mx_al0 d_Mo_ahead_44 ?_
        refine mx_getI d_Mo_ahead_45 fl_Mo_54 (by assumption) ?_
        refine mx_ti (y := nI (0)) (vs_upx) ?_
        refine mx_if_le 53 d_Mo_ahead_48 (by decide) (fun c_48 => ?_) (fun c_48 => absurd (by decide) c_48)
        refine mx_al0 d_Mo_ahead_53 ?_
        refine mx_cV0v d_Mo_ahead_54 (c_Mo_aside hM) ok_Mo_putsAside ml_Mo_192 (by assumption) ⟨rfl, rfl⟩ (by omega) (Nat.le_of_ble_eq_true rfl) ?_
        refine mx_al0 d_Mo_ahead_57 ?_
        refine mx_il2 d_Mo_ahead_58 ?_
        refine mx_in_0 d_Mo_ahead_59 ?_
        refine mx_cV2iR d_Mo_ahead_60 (c_Mo_goes hM (by rw [vs_cq_ne (by omega), mx_up_ne (by omega)]; exact hm) hTX hask hTXc hdd hw hH8 hG8 (n := n) (by omega) (b := false)) ok_Mo_goes ml_Mo_347 (by assumption) ⟨rfl, rfl⟩ (by omega) (Nat.le_of_ble_eq_true rfl) (fun K1 hK1 => ?_)
        refine mx_is4 d_Mo_ahead_63 ?_
        refine mx_al0 d_Mo_ahead_65 ?_
        refine mx_il1 d_Mo_ahead_66 ?_
        refine mx_in_2 d_Mo_ahead_67 ?_
        refine mx_il3 d_Mo_ahead_68 ?_
        refine mx_iaddN d_Mo_ahead_69 ?_
        refine mx_cV2i d_Mo_ahead_70 (cm_of hM hK1.2.2.1 (h := h) (k := 2 + k) (by omega) (by omega)) ok_Mo_of ml_Mo_68 (by assumption) ⟨rfl, rfl⟩ (by omega) (Nat.le_of_ble_eq_true rfl) ?_
        refine mx_is5 d_Mo_ahead_73 ?_
        refine mx_al0 d_Mo_ahead_75 ?_
        refine mx_cV0v d_Mo_ahead_76 (c_Mo_comes hM) ok_Mo_comesBack ml_Mo_202 (by assumption) ⟨rfl, rfl⟩ (by omega) (Nat.le_of_ble_eq_true rfl) ?_
        refine mx_il5 d_Mo_ahead_79 ?_
        exact mx_iret d_Mo_ahead_81 rfl (mx_sR_i (by simp [sp_ahead, w_ah, *]) (by rw [show (sp_ahead D m H _ _ _).1 = 0 from by simp [sp_ahead, w_ah, *]]; exact (cz_bk (cz_as hm).1 hm (cz_as hm).2 (fun _ _ => rfl) hK1 (tx_ws (z := (m, nI 0, 0)) hH8) tx_eq.rf).1))
      · skip
        refine mx_in_3 d_Mo_ahead_36 ?_
        refine mx_goto 41 d_Mo_ahead_37 (by decide) ?_
        refine mx_putI d_Mo_ahead_41 fl_Mo_54 (by assumption) ?_
        refine mx_al0 d_Mo_ahead_44 ?_
        refine mx_getI d_Mo_ahead_45 fl_Mo_54 (by assumption) ?_
        refine mx_ti (y := nI (3)) (vs_upx) ?_
        refine mx_if_le 53 d_Mo_ahead_48 (by decide) (fun c_48 => absurd c_48 (by decide)) (fun c_48 => ?_)
        refine mx_in_0 d_Mo_ahead_51 ?_
        exact mx_iret d_Mo_ahead_52 rfl (mx_sR_i (by simp [sp_ahead, w_ah, *]) (by rw [show (sp_ahead D m H _ _ _).1 = 3 from by simp [sp_ahead, w_ah, *]]; exact cz_th))
    · skip
      refine mx_in_2 d_Mo_ahead_23 ?_
      refine mx_goto 41 d_Mo_ahead_24 (by decide) ?_
      refine mx_putI d_Mo_ahead_41 fl_Mo_54 (by assumption) ?_
      refine mx_al0 d_Mo_ahead_44 ?_
      refine mx_getI d_Mo_ahead_45 fl_Mo_54 (by assumption) ?_
      refine mx_ti (y := nI (2)) (vs_upx) ?_
      refine mx_if_le 53 d_Mo_ahead_48 (by decide) (fun c_48 => absurd c_48 (by decide)) (fun c_48 => ?_)
      refine mx_in_0 d_Mo_ahead_51 ?_
      exact mx_iret d_Mo_ahead_52 rfl (mx_sR_i (by simp [sp_ahead, w_ah, *]) (by rw [show (sp_ahead D m H _ _ _).1 = 2 from by simp [sp_ahead, w_ah, *]]; exact cz_th))
  · skip
    refine mx_in_1 d_Mo_ahead_9 ?_
    refine mx_goto 41 d_Mo_ahead_10 (by decide) ?_
    refine mx_putI d_Mo_ahead_41 fl_Mo_54 (by assumption) ?_
    refine mx_al0 d_Mo_ahead_44 ?_
    refine mx_getI d_Mo_ahead_45 fl_Mo_54 (by assumption) ?_
    refine mx_ti (y := nI (1)) (vs_upx) ?_
    refine mx_if_le 53 d_Mo_ahead_48 (by decide) (fun c_48 => absurd c_48 (by decide)) (fun c_48 => ?_)
    refine mx_in_0 d_Mo_ahead_51 ?_
    exact mx_iret d_Mo_ahead_52 rfl (mx_sR_i (by simp [sp_ahead, w_ah, *]) (by rw [show (sp_ahead D m H _ _ _).1 = 1 from by simp [sp_ahead, w_ah, *]]; exact cz_th))
theorem c_Mo_trial (hM : mo_ok S P mo) (hm : I (mo + 1) = m) {dd : Nat} {TX : (Nat → Int32) → Prop} (hTX : TX m) (hask : ∀ (m : Nat → Int32) (I : mx_I) (h g q : Nat), TX m → I (mo + 1) = m → h < 8 → g < 8 → q < 8 → mx_C l E M_Mo_asks dd 0 0 [.ref (mo), .int (nI (h)), .int (nI (g)), .int (nI (q))] (t, S, I, P, J) (mx_sR none t S P J (fun K => ak_fin I K mo D m h g q))) (hTXc : ∀ m m', TX m → tx_eq m m' → TX m') (hdd : 2 ≤ dd) (hw : wi m H G) (hH8 : H ≤ 8) (hG8 : G ≤ 8) {v : Int32} {b : Bool} : mx_C l E M_Mo_trial (dd + 5) 0 0 [.ref (mo), .int (v), .int (bI (b))] (t, S, I, P, J) (mx_sR (some (.int (sp_trial D m H v b).2)) t S P J (fun K => cz I K mo (sp_trial D m H v b).1)) := by
  obtain ⟨hM0, hMp1, hMp2, hMp4, hMp5, hMp7, hMp14, hMp21, hMp22, hMp23, hMp24, hMp25, hMp26, hMp27, hMs1, hMs2, hMs3, hMs4, hMs5, hMs6, hMs7, hMs8, hMs9, hMs10, hMs11, hMs12, hMs13⟩ := id hM
  refine mx_C_of (ls0 := [some (.ref (mo)), some (.int (v)), some (.int (bI (b))), none, none]) (by decide +kernel) rfl rfl (Nat.le_of_ble_eq_true rfl) rfl ?_
  refine mx_al0 d_Mo_trial_0 ?_
  refine mx_il1 d_Mo_trial_1 ?_
  refine mx_in_0 d_Mo_trial_2 ?_
  refine mx_bip 60 d_Mo_trial_3 (by decide) ?_
  refine mx_cS3i d_Mo_trial_5 (cm_isIn0 (x := v) (n := 60) (by omega)) ok_Mo_isIn ml_Mo_57 (by omega) (Nat.le_of_ble_eq_true rfl) ?_
  refine mx_ifB_ne 15 d_Mo_trial_8 (by decide) (fun c_8 => ?_) (fun c_8 => ?_)
  · skip
    obtain ⟨n, hnL, rfl⟩ := vs_isN_of (by omega) c_8
    have hnc : (nI n).toNatClampNeg = n := nI_clamp (by omega)
    refine mx_in_0 d_Mo_trial_15 ?_
    refine mx_putI d_Mo_trial_16 fl_Mo_54 (by assumption) ?_
    refine mx_al0 d_Mo_trial_19 ?_
    refine mx_getI d_Mo_trial_20 fl_Mo_54 (by assumption) ?_
    refine mx_ti (y := nI (0)) (vs_upx) ?_
    refine mx_if_le 28 d_Mo_trial_23 (by decide) (fun c_23 => ?_) (fun c_23 => absurd (by decide) c_23)
    refine mx_al0 d_Mo_trial_28 ?_
    refine mx_cV0v d_Mo_trial_29 (c_Mo_aside hM) ok_Mo_putsAside ml_Mo_192 (by assumption) ⟨rfl, rfl⟩ (by omega) (Nat.le_of_ble_eq_true rfl) ?_
    refine mx_al0 d_Mo_trial_32 ?_
    refine mx_il1 d_Mo_trial_33 ?_
    refine mx_in_1 d_Mo_trial_34 ?_
    refine mx_cV2iR d_Mo_trial_35 (c_Mo_goes hM (by rw [vs_cq_ne (by omega), mx_up_ne (by omega)]; exact hm) hTX hask hTXc hdd hw hH8 hG8 (n := n) (by omega) (b := true)) ok_Mo_goes ml_Mo_347 (by assumption) ⟨rfl, rfl⟩ (by omega) (Nat.le_of_ble_eq_true rfl) (fun K1 hK1 => ?_)
    refine mx_is3 d_Mo_trial_38 ?_
    refine mx_il2 d_Mo_trial_39 ?_
    refine mx_ifB_eq 50 d_Mo_trial_40 (by decide) (fun c_40 => ?_) (fun c_40 => ?_)
    · skip
      refine mx_al0 d_Mo_trial_50 ?_
      refine mx_cV0i d_Mo_trial_51 (cm_gladness hM hK1.2.2.1 (wi_ws (z := (m, nI 0, 0)) hw hH8).1 hH8) ok_Mo_gladness ml_Mo_319 (by assumption) ⟨rfl, rfl⟩ (by omega) (Nat.le_of_ble_eq_true rfl) ?_
      refine mx_is4 d_Mo_trial_54 ?_
      refine mx_al0 d_Mo_trial_56 ?_
      refine mx_cV0v d_Mo_trial_57 (c_Mo_comes hM) ok_Mo_comesBack ml_Mo_202 (by assumption) ⟨rfl, rfl⟩ (by omega) (Nat.le_of_ble_eq_true rfl) ?_
      refine mx_il4 d_Mo_trial_60 ?_
      exact mx_iret d_Mo_trial_62 rfl (mx_sR_i (by simp [sp_trial, w_ah, *]) (by rw [show (sp_trial D m H _ _).1 = 0 from by simp [sp_trial, w_ah, *]]; exact (cz_bk (cz_as hm).1 hm (cz_as hm).2 (fun _ _ => rfl) hK1 (tx_ws (z := (m, nI 0, 0)) hH8) tx_eq.rf).1))
    · skip
      refine mx_al0 d_Mo_trial_43 ?_
      refine mx_getI d_Mo_trial_44 fl_Mo_294 (by assumption) ?_
      refine mx_ti (y := (w_ws D true H n (m, nI 0, 0)).2.1) (hK1.2.2.2) ?_
      refine mx_goto 54 d_Mo_trial_47 (by decide) ?_
      refine mx_is4 d_Mo_trial_54 ?_
      refine mx_al0 d_Mo_trial_56 ?_
      refine mx_cV0v d_Mo_trial_57 (c_Mo_comes hM) ok_Mo_comesBack ml_Mo_202 (by assumption) ⟨rfl, rfl⟩ (by omega) (Nat.le_of_ble_eq_true rfl) ?_
      refine mx_il4 d_Mo_trial_60 ?_
      exact mx_iret d_Mo_trial_62 rfl (mx_sR_i (by simp [sp_trial, w_ah, *]) (by rw [show (sp_trial D m H _ _).1 = 0 from by simp [sp_trial, w_ah, *]]; exact (cz_bk (cz_as hm).1 hm (cz_as hm).2 (fun _ _ => rfl) hK1 (tx_ws (z := (m, nI 0, 0)) hH8) tx_eq.rf).1))
  · skip
    refine mx_in_1 d_Mo_trial_11 ?_
    refine mx_goto 16 d_Mo_trial_12 (by decide) ?_
    refine mx_putI d_Mo_trial_16 fl_Mo_54 (by assumption) ?_
    refine mx_al0 d_Mo_trial_19 ?_
    refine mx_getI d_Mo_trial_20 fl_Mo_54 (by assumption) ?_
    refine mx_ti (y := nI (1)) (vs_upx) ?_
    refine mx_if_le 28 d_Mo_trial_23 (by decide) (fun c_23 => absurd c_23 (by decide)) (fun c_23 => ?_)
    refine mx_in_0 d_Mo_trial_26 ?_
    exact mx_iret d_Mo_trial_27 rfl (mx_sR_i (by simp [sp_trial, w_ah, *]) (by rw [show (sp_trial D m H _ _).1 = 1 from by simp [sp_trial, w_ah, *]]; exact cz_th))
theorem c_Mo_settle (hM : mo_ok S P mo) (hm : I (mo + 1) = m) {dd : Nat} {TX : (Nat → Int32) → Prop} (hTX : TX m) (hask : ∀ (m : Nat → Int32) (I : mx_I) (h g q : Nat), TX m → I (mo + 1) = m → h < 8 → g < 8 → q < 8 → mx_C l E M_Mo_asks dd 0 0 [.ref (mo), .int (nI (h)), .int (nI (g)), .int (nI (q))] (t, S, I, P, J) (mx_sR none t S P J (fun K => ak_fin I K mo D m h g q))) (hTXc : ∀ m m', TX m → tx_eq m m' → TX m') (hdd : 2 ≤ dd) (hw : wi m H G) (hH8 : H ≤ 8) (hG8 : G ≤ 8) {v : Int32} : mx_C l E M_Mo_settle (dd + 5) 0 0 [.ref (mo), .int (v)] (t, S, I, P, J) (mx_sR (some (.int (sp_settle D m H v).2)) t S P J (fun K => cz I K mo (sp_settle D m H v).1)) := by
  obtain ⟨hM0, hMp1, hMp2, hMp4, hMp5, hMp7, hMp14, hMp21, hMp22, hMp23, hMp24, hMp25, hMp26, hMp27, hMs1, hMs2, hMs3, hMs4, hMs5, hMs6, hMs7, hMs8, hMs9, hMs10, hMs11, hMs12, hMs13⟩ := id hM
  refine mx_C_of (ls0 := [some (.ref (mo)), some (.int (v)), none, none, none]) (by decide +kernel) rfl rfl (Nat.le_of_ble_eq_true rfl) rfl ?_
  refine mx_al0 d_Mo_settle_0 ?_
  refine mx_al0 d_Mo_settle_1 ?_
  refine mx_il1 d_Mo_settle_2 ?_
  refine mx_cV1i d_Mo_settle_3 (cm_isHost hM hm hw.1 hH8) ok_Mo_isHost ml_Mo_310 (by assumption) ⟨rfl, rfl⟩ (by omega) (Nat.le_of_ble_eq_true rfl) ?_
  refine mx_ifB_ne 13 d_Mo_settle_6 (by decide) (fun c_6 => ?_) (fun c_6 => ?_)
  · skip
    obtain ⟨h, hhL, rfl⟩ := vs_isN_of (by omega) c_6
    have hhc : (nI h).toNatClampNeg = h := nI_clamp (by omega)
    have hhL8 : h < 8 := by omega
    refine mx_in_0 d_Mo_settle_13 ?_
    refine mx_putI d_Mo_settle_14 fl_Mo_54 (by assumption) ?_
    refine mx_al0 d_Mo_settle_17 ?_
    refine mx_getI d_Mo_settle_18 fl_Mo_54 (by assumption) ?_
    refine mx_ti (y := nI (0)) (vs_upx) ?_
    refine mx_if_le 26 d_Mo_settle_21 (by decide) (fun c_21 => ?_) (fun c_21 => absurd (by decide) c_21)
    refine mx_al0 d_Mo_settle_26 ?_
    refine mx_cV0v d_Mo_settle_27 (c_Mo_aside hM) ok_Mo_putsAside ml_Mo_192 (by assumption) ⟨rfl, rfl⟩ (by omega) (Nat.le_of_ble_eq_true rfl) ?_
    refine mx_ic_m1 d_Mo_settle_30 ?_
    refine mx_is2 d_Mo_settle_31 ?_
    refine mx_in_1 d_Mo_settle_32 ?_
    refine mx_is3 d_Mo_settle_33 ?_
    refine mx_loopX (α := (mx_I)) (N := 60) (a0 := (vs_cq (mx_up I (mo) 0 (nI (0))) (mo + 1) (0) (mo + 3) (0) 619)) (fun k z9 => ∃ v, bz (vs_cq (mx_up I (mo) 0 (nI (0))) (mo + 1) (0) (mo + 3) (0) 619) z9 mo (w_ws D false H k (m, nI 0, 0)).1 v) (ls := fun k z9 => [some (.ref (mo)), some (.int (nI (h))), some (.int ((st_fn D m H h k))), some (.int (nI (k + 1))), none]) (X := fun k z9 => (t, S, z9, P, J)) (⟨_, bz.rf (by rw [vs_cq_ne (by omega), mx_up_ne (by omega)]; exact hm) rfl⟩) (fun k hk z9 hinv ih => ?_) (fun z9 hinv => ?_)
    · skip
      obtain ⟨K, hz9⟩ : ∃ q, q = z9 := ⟨_, rfl⟩
      subst hz9
      try dsimp only at hinv ih ⊢
      obtain ⟨v0, hbv⟩ := id hinv
      have hwk : wi (w_ws D false H k (m, nI 0, 0)).1 H G := wi_ws (z := (m, nI 0, 0)) hw hH8
      refine mx_il3 d_Mo_settle_34 ?_
      refine mx_bip 60 d_Mo_settle_35 (by decide) ?_
      refine mx_icN_gt 72 d_Mo_settle_37 (by decide) (by omega) (by omega) (fun c_37 => absurd c_37 (by omega)) (fun c_37 => ?_)
      refine mx_il2 d_Mo_settle_40 ?_
      refine mx_ic_m1 d_Mo_settle_41 ?_
      refine mx_icmp_ne 72 d_Mo_settle_42 (by decide) (fun c_42 => ?_) (fun c_42 => ?_)
      · skip
        refine mx_al0 d_Mo_settle_72 ?_
        refine mx_cV0v d_Mo_settle_73 (c_Mo_comes hM) ok_Mo_comesBack ml_Mo_202 (by assumption) ⟨rfl, rfl⟩ (by omega) (Nat.le_of_ble_eq_true rfl) ?_
        refine mx_il2 d_Mo_settle_76 ?_
        exact mx_iret d_Mo_settle_77 rfl (mx_sR_i (by unfold sp_settle; first | (rw [if_pos c_6, hhc]; done) | (rw [if_pos c_6, hhc, st_fn_k (n := 60) (by omega) c_42]; done)) (by rw [show (sp_settle D m H _).1 = 0 from by simp [sp_settle, *]]; exact (cz_bk (cz_as hm).1 hm (cz_as hm).2 (fun _ _ => rfl) hbv (tx_ws (z := (m, nI 0, 0)) hH8) tx_eq.rf).1))
      · skip
        refine mx_al0 d_Mo_settle_45 ?_
        refine mx_in_1 d_Mo_settle_46 ?_
        refine mx_in_0 d_Mo_settle_47 ?_
        refine mx_cV2iR d_Mo_settle_48 (c_Mo_goes hM hbv.2.2.1 (hTXc _ _ hTX (tx_ws (z := (m, nI 0, 0)) hH8)) hask hTXc hdd hwk hH8 hG8 (n := 1) (by omega) (b := false)) ok_Mo_goes ml_Mo_347 (by assumption) ⟨rfl, rfl⟩ (by omega) (Nat.le_of_ble_eq_true rfl) (fun K1 hK1 => ?_)
        refine mx_is4 d_Mo_settle_51 ?_
        refine mx_al0 d_Mo_settle_53 ?_
        refine mx_getI d_Mo_settle_54 fl_Mo_294 (by assumption) ?_
        refine mx_ti (y := (w_wk D false H ((w_ws D false H k (m, nI 0, 0)).1, nI 0)).2) (hK1.2.2.2) ?_
        refine mx_il1 d_Mo_settle_57 ?_
        refine mx_cS2i d_Mo_settle_58 (c_Mo_isOf (j := h) (by omega)) ok_Mo_isOf ml_Mo_74 (by omega) (Nat.le_of_ble_eq_true rfl) ?_
        refine mx_ifB_eq 66 d_Mo_settle_61 (by decide) (fun c_61 => ?_) (fun c_61 => ?_)
        · skip
          refine mx_iN3 d_Mo_settle_66 ?_
          refine mx_goto 34 d_Mo_settle_69 (by decide) ?_
          refine mx_dn4 ?_
          have e2 : (st_fn D m H h k) = (st_fn D m H h (k + 1)) := by rw [st_fn_s, if_pos c_42]; first | (rw [if_pos (show w_sb D m H h k = true from c_61)]; done) | (rw [if_neg (by rw [show w_sb D m H h k = false from c_61]; decide)]; exact c_42)
          refine mx_lsc (congrArg (fun z9 => ([some (.ref (mo)), some (.int (nI (h))), some (.int (z9)), some (.int (nI (k + 1 + 1))), none] : List (Option Value))) e2) ?_
          have e3 : nI (k + 1 + 1) = nI ((k + 1) + 1) := by rfl
          refine mx_lsc (congrArg (fun z9 => ([some (.ref (mo)), some (.int (nI (h))), some (.int ((st_fn D m H h (k + 1)))), some (.int (z9)), none] : List (Option Value))) e3) ?_
          exact ih K1 (by rw [w_ws_s]; dsimp only; rw [w_wk_1 (v' := nI 0)]; exact ⟨_, hbv.tr hK1⟩)
        · skip
          refine mx_il3 d_Mo_settle_64 ?_
          refine mx_is2 d_Mo_settle_65 ?_
          refine mx_iN3 d_Mo_settle_66 ?_
          refine mx_goto 34 d_Mo_settle_69 (by decide) ?_
          refine mx_dn4 ?_
          have e2 : nI (k + 1) = (st_fn D m H h (k + 1)) := by rw [st_fn_s, if_pos c_42]; first | (rw [if_pos (show w_sb D m H h k = true from c_61)]; done) | (rw [if_neg (by rw [show w_sb D m H h k = false from c_61]; decide)]; exact c_42)
          refine mx_lsc (congrArg (fun z9 => ([some (.ref (mo)), some (.int (nI (h))), some (.int (z9)), some (.int (nI (k + 1 + 1))), none] : List (Option Value))) e2) ?_
          have e3 : nI (k + 1 + 1) = nI ((k + 1) + 1) := by rfl
          refine mx_lsc (congrArg (fun z9 => ([some (.ref (mo)), some (.int (nI (h))), some (.int ((st_fn D m H h (k + 1)))), some (.int (z9)), none] : List (Option Value))) e3) ?_
          exact ih K1 (by rw [w_ws_s]; dsimp only; rw [w_wk_1 (v' := nI 0)]; exact ⟨_, hbv.tr hK1⟩)
    · skip
      obtain ⟨K, hz9⟩ : ∃ q, q = z9 := ⟨_, rfl⟩
      subst hz9
      try dsimp only at hinv ⊢
      obtain ⟨v0, hbv⟩ := id hinv
      refine mx_il3 d_Mo_settle_34 ?_
      refine mx_bip 60 d_Mo_settle_35 (by decide) ?_
      refine mx_icN_gt 72 d_Mo_settle_37 (by decide) (by omega) (by omega) (fun c_37 => ?_) (fun c_37 => absurd c_37 (by omega))
      refine mx_al0 d_Mo_settle_72 ?_
      refine mx_cV0v d_Mo_settle_73 (c_Mo_comes hM) ok_Mo_comesBack ml_Mo_202 (by assumption) ⟨rfl, rfl⟩ (by omega) (Nat.le_of_ble_eq_true rfl) ?_
      refine mx_il2 d_Mo_settle_76 ?_
      exact mx_iret d_Mo_settle_77 rfl (mx_sR_i (by unfold sp_settle; first | (rw [if_pos c_6, hhc]; done) | (rw [if_pos c_6, hhc, st_fn_k (n := 60) (by omega) c_42]; done)) (by rw [show (sp_settle D m H _).1 = 0 from by simp [sp_settle, *]]; exact (cz_bk (cz_as hm).1 hm (cz_as hm).2 (fun _ _ => rfl) hbv (tx_ws (z := (m, nI 0, 0)) hH8) tx_eq.rf).1))
  · skip
    refine mx_in_1 d_Mo_settle_9 ?_
    refine mx_goto 14 d_Mo_settle_10 (by decide) ?_
    refine mx_putI d_Mo_settle_14 fl_Mo_54 (by assumption) ?_
    refine mx_al0 d_Mo_settle_17 ?_
    refine mx_getI d_Mo_settle_18 fl_Mo_54 (by assumption) ?_
    refine mx_ti (y := nI (1)) (vs_upx) ?_
    refine mx_if_le 26 d_Mo_settle_21 (by decide) (fun c_21 => absurd c_21 (by decide)) (fun c_21 => ?_)
    refine mx_in_0 d_Mo_settle_24 ?_
    exact mx_iret d_Mo_settle_25 rfl (mx_sR_i (by simp [sp_settle, *]) (by rw [show (sp_settle D m H _).1 = 1 from by simp [sp_settle, *]]; exact cz_th))
theorem c_Mo_span (hM : mo_ok S P mo) (hm : I (mo + 1) = m) {dd : Nat} {TX : (Nat → Int32) → Prop} (hTX : TX m) (hask : ∀ (m : Nat → Int32) (I : mx_I) (h g q : Nat), TX m → I (mo + 1) = m → h < 8 → g < 8 → q < 8 → mx_C l E M_Mo_asks dd 0 0 [.ref (mo), .int (nI (h)), .int (nI (g)), .int (nI (q))] (t, S, I, P, J) (mx_sR none t S P J (fun K => ak_fin I K mo D m h g q))) (hTXc : ∀ m m', TX m → tx_eq m m' → TX m') (hdd : 2 ≤ dd) (hw : wi m H G) (hH8 : H ≤ 8) (hG8 : G ≤ 8) {v : Int32} {b : Bool} : mx_C l E M_Mo_span (dd + 5) 0 0 [.ref (mo), .int (v), .int (bI (b))] (t, S, I, P, J) (mx_sR (some (.int (sp_span D m H v b).2)) t S P J (fun K => cz I K mo (sp_span D m H v b).1)) := by
  obtain ⟨hM0, hMp1, hMp2, hMp4, hMp5, hMp7, hMp14, hMp21, hMp22, hMp23, hMp24, hMp25, hMp26, hMp27, hMs1, hMs2, hMs3, hMs4, hMs5, hMs6, hMs7, hMs8, hMs9, hMs10, hMs11, hMs12, hMs13⟩ := id hM
  refine mx_C_of (ls0 := [some (.ref (mo)), some (.int (v)), some (.int (bI (b))), none, none, none, none]) (by decide +kernel) rfl rfl (Nat.le_of_ble_eq_true rfl) rfl ?_
  refine mx_al0 d_Mo_span_0 ?_
  refine mx_il1 d_Mo_span_1 ?_
  refine mx_in_0 d_Mo_span_2 ?_
  refine mx_bip 60 d_Mo_span_3 (by decide) ?_
  refine mx_cS3i d_Mo_span_5 (cm_isIn0 (x := v) (n := 60) (by omega)) ok_Mo_isIn ml_Mo_57 (by omega) (Nat.le_of_ble_eq_true rfl) ?_
  refine mx_ifB_ne 15 d_Mo_span_8 (by decide) (fun c_8 => ?_) (fun c_8 => ?_)
  · skip
    obtain ⟨n, hnL, rfl⟩ := vs_isN_of (by omega) c_8
    have hnc : (nI n).toNatClampNeg = n := nI_clamp (by omega)
    refine mx_in_0 d_Mo_span_15 ?_
    refine mx_putI d_Mo_span_16 fl_Mo_54 (by assumption) ?_
    refine mx_al0 d_Mo_span_19 ?_
    refine mx_getI d_Mo_span_20 fl_Mo_54 (by assumption) ?_
    refine mx_ti (y := nI (0)) (vs_upx) ?_
    refine mx_if_le 28 d_Mo_span_23 (by decide) (fun c_23 => ?_) (fun c_23 => absurd (by decide) c_23)
    refine mx_al0 d_Mo_span_28 ?_
    refine mx_cV0v d_Mo_span_29 (c_Mo_aside hM) ok_Mo_putsAside ml_Mo_192 (by assumption) ⟨rfl, rfl⟩ (by omega) (Nat.le_of_ble_eq_true rfl) ?_
    refine mx_ic_m1 d_Mo_span_32 ?_
    refine mx_is3 d_Mo_span_33 ?_
    refine mx_in_1 d_Mo_span_34 ?_
    refine mx_is4 d_Mo_span_35 ?_
    refine mx_loopX (α := (mx_I)) (N := 6) (a0 := (vs_cq (mx_up I (mo) 0 (nI (0))) (mo + 1) (0) (mo + 3) (0) 619)) (fun k z9 => cz I z9 mo 0 ∧ ∀ k, k < 619 → z9 (mo + 3) k = m k) (ls := fun k z9 => [some (.ref (mo)), some (.int (nI (n))), some (.int (bI (b))), some (.int ((sn_fn D m H n b k))), some (.int (nI (k + 1))), none, none]) (X := fun k z9 => (t, S, z9, P, J)) (cz_as hm) (fun k hk z9 hinv ih => ?_) (fun z9 hinv => ?_)
    · skip
      obtain ⟨K, hz9⟩ : ∃ q, q = z9 := ⟨_, rfl⟩
      subst hz9
      try dsimp only at hinv ih ⊢
      have hmK : K (mo + 1) = m := (hinv.1.1 _ (by omega) (by omega) (by omega)).trans hm
      refine mx_il4 d_Mo_span_37 ?_
      refine mx_bip 6 d_Mo_span_39 (by decide) ?_
      refine mx_icN_gt 107 d_Mo_span_41 (by decide) (by omega) (by omega) (fun c_41 => absurd c_41 (by omega)) (fun c_41 => ?_)
      refine mx_al0 d_Mo_span_44 ?_
      refine mx_getR d_Mo_span_45 fl_Mo_7 (by assumption) (by assumption) ?_
      refine mx_bip 10 d_Mo_span_48 (by decide) ?_
      refine mx_il4 d_Mo_span_50 ?_
      refine mx_iast d_Mo_span_52 (by assumption) (nI_inb (by omega) (by omega)) ?_
      rw [nI_clamp (by omega)]
      have hmk : (mx_up K (mo + 1) 10 (nI (k + 1))) (mo + 1) = (updI m 10 (nI (k + 1))) := by rw [← hmK]; funext j; unfold mx_up updI; simp
      refine mx_al0 d_Mo_span_53 ?_
      refine mx_il1 d_Mo_span_54 ?_
      refine mx_in_1 d_Mo_span_55 ?_
      refine mx_cV2iR d_Mo_span_56 (c_Mo_goes hM hmk (hTXc _ _ hTX tx_sd) hask hTXc hdd (wi_sd hw) hH8 hG8 (n := n) (by omega) (b := true)) ok_Mo_goes ml_Mo_347 (by assumption) ⟨rfl, rfl⟩ (by omega) (Nat.le_of_ble_eq_true rfl) (fun K1 hK1 => ?_)
      refine mx_is5 d_Mo_span_59 ?_
      refine mx_al0 d_Mo_span_61 ?_
      refine mx_cV0i d_Mo_span_62 (cm_gladness hM hK1.2.2.1 (wi_ws (z := ((updI m 10 (nI (k + 1))), nI 0, 0)) (wi_sd hw) hH8).1 hH8) ok_Mo_gladness ml_Mo_319 (by assumption) ⟨rfl, rfl⟩ (by omega) (Nat.le_of_ble_eq_true rfl) ?_
      refine mx_is6 d_Mo_span_65 ?_
      refine mx_al0 d_Mo_span_67 ?_
      refine mx_cV0v d_Mo_span_68 (c_Mo_comes hM) ok_Mo_comesBack ml_Mo_202 (by assumption) ⟨rfl, rfl⟩ (by omega) (Nat.le_of_ble_eq_true rfl) ?_
      refine mx_il3 d_Mo_span_71 ?_
      refine mx_ic_m1 d_Mo_span_72 ?_
      refine mx_icmp_ne 81 d_Mo_span_73 (by decide) (fun c_73 => ?_) (fun c_73 => ?_)
      · skip
        refine mx_il2 d_Mo_span_81 ?_
        refine mx_ifB_eq 94 d_Mo_span_82 (by decide) (fun c_82 => ?_) (fun c_82 => ?_)
        · skip
          refine mx_il3 d_Mo_span_94 ?_
          refine mx_il6 d_Mo_span_95 ?_
          refine mx_cS2i d_Mo_span_97 (c_Mo_lesser) ok_Mo_lesser ml_Mo_124 (by omega) (Nat.le_of_ble_eq_true rfl) ?_
          refine mx_is3 d_Mo_span_100 ?_
          refine mx_iN4 d_Mo_span_101 ?_
          refine mx_goto 37 d_Mo_span_104 (by decide) ?_
          refine mx_dn5 ?_
          refine mx_dn6 ?_
          have e3 : (if (sn_g D m H n k) ≤ (sn_fn D m H n b k) then (sn_g D m H n k) else (sn_fn D m H n b k)) = (sn_fn D m H n b (k + 1)) := by rw [sn_fn_s]; first | (rw [if_pos c_73]; done) | (rw [if_neg c_73, if_pos c_82]; done) | (rw [if_neg c_73, if_neg (c := b = true) (by rw [c_82]; decide)]; done)
          refine mx_lsc (congrArg (fun z9 => ([some (.ref (mo)), some (.int (nI (n))), some (.int (bI (b))), some (.int (z9)), some (.int (nI (k + 1 + 1))), none, none] : List (Option Value))) e3) ?_
          have e4 : nI (k + 1 + 1) = nI ((k + 1) + 1) := by rfl
          refine mx_lsc (congrArg (fun z9 => ([some (.ref (mo)), some (.int (nI (n))), some (.int (bI (b))), some (.int ((sn_fn D m H n b (k + 1)))), some (.int (z9)), none, none] : List (Option Value))) e4) ?_
          exact ih (vs_cq K1 (mo + 3) (0) (mo + 1) (0) 619) (cz_bk hinv.1 hm hinv.2 (fun c hc => mx_up_ne hc) hK1 (tx_ws (z := ((updI m 10 (nI (k + 1))), nI 0, 0)) hH8) tx_sd)
        · skip
          refine mx_il3 d_Mo_span_85 ?_
          refine mx_il6 d_Mo_span_86 ?_
          refine mx_cS2i d_Mo_span_88 (c_Mo_greater) ok_Mo_greater ml_Mo_277 (by omega) (Nat.le_of_ble_eq_true rfl) ?_
          refine mx_goto 100 d_Mo_span_91 (by decide) ?_
          refine mx_is3 d_Mo_span_100 ?_
          refine mx_iN4 d_Mo_span_101 ?_
          refine mx_goto 37 d_Mo_span_104 (by decide) ?_
          refine mx_dn5 ?_
          refine mx_dn6 ?_
          have e3 : (if (sn_fn D m H n b k) ≤ (sn_g D m H n k) then (sn_g D m H n k) else (sn_fn D m H n b k)) = (sn_fn D m H n b (k + 1)) := by rw [sn_fn_s]; first | (rw [if_pos c_73]; done) | (rw [if_neg c_73, if_pos c_82]; done) | (rw [if_neg c_73, if_neg (c := b = true) (by rw [c_82]; decide)]; done)
          refine mx_lsc (congrArg (fun z9 => ([some (.ref (mo)), some (.int (nI (n))), some (.int (bI (b))), some (.int (z9)), some (.int (nI (k + 1 + 1))), none, none] : List (Option Value))) e3) ?_
          have e4 : nI (k + 1 + 1) = nI ((k + 1) + 1) := by rfl
          refine mx_lsc (congrArg (fun z9 => ([some (.ref (mo)), some (.int (nI (n))), some (.int (bI (b))), some (.int ((sn_fn D m H n b (k + 1)))), some (.int (z9)), none, none] : List (Option Value))) e4) ?_
          exact ih (vs_cq K1 (mo + 3) (0) (mo + 1) (0) 619) (cz_bk hinv.1 hm hinv.2 (fun c hc => mx_up_ne hc) hK1 (tx_ws (z := ((updI m 10 (nI (k + 1))), nI 0, 0)) hH8) tx_sd)
      · skip
        refine mx_il6 d_Mo_span_76 ?_
        refine mx_goto 100 d_Mo_span_78 (by decide) ?_
        refine mx_is3 d_Mo_span_100 ?_
        refine mx_iN4 d_Mo_span_101 ?_
        refine mx_goto 37 d_Mo_span_104 (by decide) ?_
        refine mx_dn5 ?_
        refine mx_dn6 ?_
        have e3 : (sn_g D m H n k) = (sn_fn D m H n b (k + 1)) := by rw [sn_fn_s]; first | (rw [if_pos c_73]; done) | (rw [if_neg c_73, if_pos c_82]; done) | (rw [if_neg c_73, if_neg (c := b = true) (by rw [c_82]; decide)]; done)
        refine mx_lsc (congrArg (fun z9 => ([some (.ref (mo)), some (.int (nI (n))), some (.int (bI (b))), some (.int (z9)), some (.int (nI (k + 1 + 1))), none, none] : List (Option Value))) e3) ?_
        have e4 : nI (k + 1 + 1) = nI ((k + 1) + 1) := by rfl
        refine mx_lsc (congrArg (fun z9 => ([some (.ref (mo)), some (.int (nI (n))), some (.int (bI (b))), some (.int ((sn_fn D m H n b (k + 1)))), some (.int (z9)), none, none] : List (Option Value))) e4) ?_
        exact ih (vs_cq K1 (mo + 3) (0) (mo + 1) (0) 619) (cz_bk hinv.1 hm hinv.2 (fun c hc => mx_up_ne hc) hK1 (tx_ws (z := ((updI m 10 (nI (k + 1))), nI 0, 0)) hH8) tx_sd)
    · skip
      obtain ⟨K, hz9⟩ : ∃ q, q = z9 := ⟨_, rfl⟩
      subst hz9
      try dsimp only at hinv ⊢
      refine mx_il4 d_Mo_span_37 ?_
      refine mx_bip 6 d_Mo_span_39 (by decide) ?_
      refine mx_icN_gt 107 d_Mo_span_41 (by decide) (by omega) (by omega) (fun c_41 => ?_) (fun c_41 => absurd c_41 (by omega))
      refine mx_il3 d_Mo_span_107 ?_
      exact mx_iret d_Mo_span_108 rfl (mx_sR_i (by simp [sp_span, *]) (by rw [show (sp_span D m H _ _).1 = 0 from by simp [sp_span, *]]; exact hinv.1))
  · skip
    refine mx_in_1 d_Mo_span_11 ?_
    refine mx_goto 16 d_Mo_span_12 (by decide) ?_
    refine mx_putI d_Mo_span_16 fl_Mo_54 (by assumption) ?_
    refine mx_al0 d_Mo_span_19 ?_
    refine mx_getI d_Mo_span_20 fl_Mo_54 (by assumption) ?_
    refine mx_ti (y := nI (1)) (vs_upx) ?_
    refine mx_if_le 28 d_Mo_span_23 (by decide) (fun c_23 => absurd c_23 (by decide)) (fun c_23 => ?_)
    refine mx_in_0 d_Mo_span_26 ?_
    exact mx_iret d_Mo_span_27 rfl (mx_sR_i (by simp [sp_span, *]) (by rw [show (sp_span D m H _ _).1 = 1 from by simp [sp_span, *]]; exact cz_th))
theorem c_Mo_weeks (hM : mo_ok S P mo) (hm : I (mo + 1) = m) {dd : Nat} {TX : (Nat → Int32) → Prop} (hTX : TX m) (hask : ∀ (m : Nat → Int32) (I : mx_I) (h g q : Nat), TX m → I (mo + 1) = m → h < 8 → g < 8 → q < 8 → mx_C l E M_Mo_asks dd 0 0 [.ref (mo), .int (nI (h)), .int (nI (g)), .int (nI (q))] (t, S, I, P, J) (mx_sR none t S P J (fun K => ak_fin I K mo D m h g q))) (hTXc : ∀ m m', TX m → tx_eq m m' → TX m') (hdd : 2 ≤ dd) (hw : wi m H G) (hH8 : H ≤ 8) (hG8 : G ≤ 8) (hA : I mo 6 = nI A) (hA12 : A ≤ 12) {v : Int32} : mx_C l E M_Mo_weeks (dd + 5) 0 0 [.ref (mo), .int (v)] (t, S, I, P, J) (mx_sR (some (.int (sp_weeks D m H v).2)) t S P J (fun K => ((sp_weeks D m H v).1 = 0 ∧ bz (vs_rem (mx_up I (mo) 0 (nI (0))) mo A) K mo (w_ah D true H m v).1 (w_ah D true H m v).2.1) ∨ ((sp_weeks D m H v).1 = 1 ∧ K = mx_up I (mo) 0 (nI (1))))) := by
  obtain ⟨hM0, hMp1, hMp2, hMp4, hMp5, hMp7, hMp14, hMp21, hMp22, hMp23, hMp24, hMp25, hMp26, hMp27, hMs1, hMs2, hMs3, hMs4, hMs5, hMs6, hMs7, hMs8, hMs9, hMs10, hMs11, hMs12, hMs13⟩ := id hM
  refine mx_C_of (ls0 := [some (.ref (mo)), some (.int (v))]) (by decide +kernel) rfl rfl (Nat.le_of_ble_eq_true rfl) rfl ?_
  refine mx_al0 d_Mo_weeks_0 ?_
  refine mx_il1 d_Mo_weeks_1 ?_
  refine mx_in_1 d_Mo_weeks_2 ?_
  refine mx_bip 60 d_Mo_weeks_3 (by decide) ?_
  refine mx_cS3i d_Mo_weeks_5 (c_Mo_isIn) ok_Mo_isIn ml_Mo_57 (by omega) (Nat.le_of_ble_eq_true rfl) ?_
  refine mx_ifB_ne 15 d_Mo_weeks_8 (by decide) (fun c_8 => ?_) (fun c_8 => ?_)
  · skip
    have hnv := vs_in1 c_8
    obtain ⟨n, hnL, rfl⟩ := vs_isN_of (by omega) hnv
    have hnc : (nI n).toNatClampNeg = n := nI_clamp (by omega)
    refine mx_in_0 d_Mo_weeks_15 ?_
    refine mx_putI d_Mo_weeks_16 fl_Mo_54 (by assumption) ?_
    refine mx_al0 d_Mo_weeks_19 ?_
    refine mx_getI d_Mo_weeks_20 fl_Mo_54 (by assumption) ?_
    refine mx_ti (y := nI (0)) (vs_upx) ?_
    refine mx_if_le 28 d_Mo_weeks_23 (by decide) (fun c_23 => ?_) (fun c_23 => absurd (by decide) c_23)
    refine mx_al0 d_Mo_weeks_28 ?_
    refine mx_cV0v d_Mo_weeks_29 (c_Mo_rem hM (by simp [mx_up, hA]) hA12) ok_Mo_remembers ml_Mo_341 (by assumption) ⟨rfl, rfl⟩ (by omega) (Nat.le_of_ble_eq_true rfl) ?_
    refine mx_al0 d_Mo_weeks_32 ?_
    refine mx_il1 d_Mo_weeks_33 ?_
    refine mx_in_1 d_Mo_weeks_34 ?_
    refine mx_cV2iR d_Mo_weeks_35 (c_Mo_goes hM (by rw [vs_rem_o (by omega) (by omega), mx_up_ne (by omega)]; exact hm) hTX hask hTXc hdd hw hH8 hG8 (n := n) (by omega) (b := true)) ok_Mo_goes ml_Mo_347 (by assumption) ⟨rfl, rfl⟩ (by omega) (Nat.le_of_ble_eq_true rfl) (fun K1 hK1 => ?_)
    exact mx_iret d_Mo_weeks_38 rfl (mx_sR_i (by unfold sp_weeks w_ah; rw [if_pos c_8, hnc]) (Or.inl ⟨by unfold sp_weeks; rw [if_pos c_8], by unfold w_ah; rw [hnc]; exact hK1⟩))
  · skip
    refine mx_in_1 d_Mo_weeks_11 ?_
    refine mx_goto 16 d_Mo_weeks_12 (by decide) ?_
    refine mx_putI d_Mo_weeks_16 fl_Mo_54 (by assumption) ?_
    refine mx_al0 d_Mo_weeks_19 ?_
    refine mx_getI d_Mo_weeks_20 fl_Mo_54 (by assumption) ?_
    refine mx_ti (y := nI (1)) (vs_upx) ?_
    refine mx_if_le 28 d_Mo_weeks_23 (by decide) (fun c_23 => absurd c_23 (by decide)) (fun c_23 => ?_)
    refine mx_in_0 d_Mo_weeks_26 ?_
    exact mx_iret d_Mo_weeks_27 rfl (mx_sR_i (by unfold sp_weeks; rw [if_neg (by rw [c_8]; decide)]) (Or.inr ⟨by unfold sp_weeks; rw [if_neg (by rw [c_8]; decide)], rfl⟩))
end AK44
