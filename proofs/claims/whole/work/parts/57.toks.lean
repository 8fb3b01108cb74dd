/-! THE CLASS'S TEXT: letters, figures, words -/
def te_tx (I : mx_I) (te : Nat) (f : Nat → Nat) (L : Nat) : Prop := tp_rel I (te + 1) f ∧ I te 1 = nI L ∧ L ≤ 400
/-- a String of the program's text says these letters -/
abbrev sx_w (i : Nat) (w : List Nat) : Prop := sx_len i = w.length ∧ ∀ k, k < w.length → sx_ch i k = nI (w.getD k 0) ∧ w.getD k 0 < 256
theorem sx_wT : ∀ i, i < 26 → sx_w i (tq_WL.getD i ([], 0)).1 := by decide +kernel
section AP57
variable {l : Launch} {E : mx_Env} {t : Nat} {S : mx_S} {I : mx_I} {P : mx_P} {J : mx_G} {te L a e c n i : Nat} {f : Nat → Nat} {w : List Nat} {b : Bool}
theorem nI_m1lt {n : Nat} (h : n < 2 ^ 31) : (-1 : Int32) < nI n := by
  rw [Int32.lt_iff_toInt_lt, nI_toInt h]
  have : (-1 : Int32).toInt = -1 := by decide
  rw [this]; omega
theorem tq_l_of (h1 : ¬ c < 97) (h2 : ¬ 122 < c) : tq_l c = true := by unfold tq_l; rw [decide_eq_true (by omega), decide_eq_true (by omega)]; rfl
theorem tq_l_n1 (h1 : c < 97) : tq_l c = false := by unfold tq_l; rw [decide_eq_false (by omega)]; rfl
theorem tq_l_n2 (h1 : 122 < c) : tq_l c = false := by unfold tq_l; rw [decide_eq_false (show ¬ c ≤ 122 by omega), Bool.and_false]
theorem tq_f_of (h1 : ¬ c < 48) (h2 : ¬ 57 < c) : tq_f c = true := by unfold tq_f; rw [decide_eq_true (by omega), decide_eq_true (by omega)]; rfl
theorem tq_f_n1 (h1 : c < 48) : tq_f c = false := by unfold tq_f; rw [decide_eq_false (by omega)]; rfl
theorem tq_f_n2 (h1 : 57 < c) : tq_f c = false := by unfold tq_f; rw [decide_eq_false (show ¬ c ≤ 57 by omega), Bool.and_false]
theorem tq_l_v (h : tq_l c = true) : 97 ≤ c ∧ c ≤ 122 := by unfold tq_l at h; simpa using h
theorem tq_f_v (h : tq_f c = true) : 48 ≤ c ∧ c ≤ 57 := by unfold tq_f at h; simpa using h
theorem c_Te_isLetter (hc : c < 256)  : mx_C l E M_Te_isLetter 0 0 0 [.int (nI (c))] (t, S, I, P, J) (mx_ri (bI (tq_l c)) (t, S, I, P, J)) := by
  refine mx_C_of (ls0 := [some (.int (nI (c)))]) (by decide +kernel) rfl rfl (Nat.le_of_ble_eq_true rfl) rfl ?_
  refine mx_il0 d_Te_isLetter_0 ?_
  refine mx_bip 97 d_Te_isLetter_1 (by decide) ?_
  refine mx_icN_lt 16 d_Te_isLetter_3 (by decide) (by omega) (by omega) (fun c_3 => ?_) (fun c_3 => ?_)
  · skip
    refine mx_in_0 d_Te_isLetter_16 ?_
    exact mx_zret d_Te_isLetter_17 rfl (by first | exact Or.inl rfl | exact Or.inr rfl) (mx_ri_of (by first | (rw [tq_l_of (by omega) (by omega)]; rfl) | (rw [tq_l_n1 (by omega)]; rfl) | (rw [tq_l_n2 (by omega)]; rfl)))
  · skip
    refine mx_il0 d_Te_isLetter_6 ?_
    refine mx_bip 122 d_Te_isLetter_7 (by decide) ?_
    refine mx_icN_gt 16 d_Te_isLetter_9 (by decide) (by omega) (by omega) (fun c_9 => ?_) (fun c_9 => ?_)
    · skip
      refine mx_in_0 d_Te_isLetter_16 ?_
      exact mx_zret d_Te_isLetter_17 rfl (by first | exact Or.inl rfl | exact Or.inr rfl) (mx_ri_of (by first | (rw [tq_l_of (by omega) (by omega)]; rfl) | (rw [tq_l_n1 (by omega)]; rfl) | (rw [tq_l_n2 (by omega)]; rfl)))
    · skip
      refine mx_in_1 d_Te_isLetter_12 ?_
      refine mx_goto 17 d_Te_isLetter_13 (by decide) ?_
      exact mx_zret d_Te_isLetter_17 rfl (by first | exact Or.inl rfl | exact Or.inr rfl) (mx_ri_of (by first | (rw [tq_l_of (by omega) (by omega)]; rfl) | (rw [tq_l_n1 (by omega)]; rfl) | (rw [tq_l_n2 (by omega)]; rfl)))
theorem c_Te_isFigure (hc : c < 256)  : mx_C l E M_Te_isFigure 0 0 0 [.int (nI (c))] (t, S, I, P, J) (mx_ri (bI (tq_f c)) (t, S, I, P, J)) := by
  refine mx_C_of (ls0 := [some (.int (nI (c)))]) (by decide +kernel) rfl rfl (Nat.le_of_ble_eq_true rfl) rfl ?_
  refine mx_il0 d_Te_isFigure_0 ?_
  refine mx_bip 48 d_Te_isFigure_1 (by decide) ?_
  refine mx_icN_lt 16 d_Te_isFigure_3 (by decide) (by omega) (by omega) (fun c_3 => ?_) (fun c_3 => ?_)
  · skip
    refine mx_in_0 d_Te_isFigure_16 ?_
    exact mx_zret d_Te_isFigure_17 rfl (by first | exact Or.inl rfl | exact Or.inr rfl) (mx_ri_of (by first | (rw [tq_f_of (by omega) (by omega)]; rfl) | (rw [tq_f_n1 (by omega)]; rfl) | (rw [tq_f_n2 (by omega)]; rfl)))
  · skip
    refine mx_il0 d_Te_isFigure_6 ?_
    refine mx_bip 57 d_Te_isFigure_7 (by decide) ?_
    refine mx_icN_gt 16 d_Te_isFigure_9 (by decide) (by omega) (by omega) (fun c_9 => ?_) (fun c_9 => ?_)
    · skip
      refine mx_in_0 d_Te_isFigure_16 ?_
      exact mx_zret d_Te_isFigure_17 rfl (by first | exact Or.inl rfl | exact Or.inr rfl) (mx_ri_of (by first | (rw [tq_f_of (by omega) (by omega)]; rfl) | (rw [tq_f_n1 (by omega)]; rfl) | (rw [tq_f_n2 (by omega)]; rfl)))
    · skip
      refine mx_in_1 d_Te_isFigure_12 ?_
      refine mx_goto 17 d_Te_isFigure_13 (by decide) ?_
      exact mx_zret d_Te_isFigure_17 rfl (by first | exact Or.inl rfl | exact Or.inr rfl) (mx_ri_of (by first | (rw [tq_f_of (by omega) (by omega)]; rfl) | (rw [tq_f_n1 (by omega)]; rfl) | (rw [tq_f_n2 (by omega)]; rfl)))
theorem c_Te_behindL (hTe : te_ok S P te) (hx : te_tx I te f L) (ha : a ≤ L)  : mx_C l E M_Te_behindOf 1 0 0 [.ref (te), .int (nI (a)), .int (nI (1))] (t, S, I, P, J) (mx_ri (nI (tq_lz f L a)) (t, S, I, P, J)) := by
  obtain ⟨hT0, hT1, hT2, hT3, hT4, hT5, hT6, hT7, hT8, hT9, hT10⟩ := id hTe
  obtain ⟨hy0, hy1, hL⟩ := id hx
  have hE1 : a ≤ tq_lz f L a := tq_ge _ L a
  have hE2 : tq_lz f L a ≤ L := tq_le ha
  have hyb : ∀ j, j < 400 → f j < 256 := fun j hj => (hy0 j hj).1
  have hyE := hyb (a + (tq_lz f L a - a))
  refine mx_C_of (ls0 := [some (.ref (te)), some (.int (nI (a))), some (.int (nI (1))), none]) (by decide +kernel) rfl rfl (Nat.le_of_ble_eq_true rfl) rfl ?_
  refine mx_il1 d_Te_behindOf_0 ?_
  refine mx_is3 d_Te_behindOf_1 ?_
  refine mx_lsc (congrArg (fun z9 => ([some (.ref (te)), some (.int (nI (a))), some (.int (nI (1))), some (.int (z9))] : List (Option Value))) ((show nI a = nI (a + 0) from rfl))) ?_
  refine mx_loop (N := tq_lz f L a - a) (ls := fun k9 => [some (.ref (te)), some (.int (nI (a))), some (.int (nI (1))), some (.int (nI (a + k9)))]) (X := fun k9 => (t, S, I, P, J)) (fun k9 hk9 ih => ?_) ?_
  · try dsimp only
    have hin : tq_l (f (a + k9)) = true := tq_in (p := fun q => tq_l (f q)) (L := L) (a := a) (by omega) (by have h9 := hk9; unfold tq_lz at h9; omega)
    have hy9 := (hy0 (a + k9) (by omega)).1
    refine mx_il3 d_Te_behindOf_2 ?_
    refine mx_al0 d_Te_behindOf_3 ?_
    refine mx_getI d_Te_behindOf_4 fl_Te_15 (by assumption) ?_
    refine mx_ti (y := nI (L)) (hy1) ?_
    refine mx_icN_ge 51 d_Te_behindOf_7 (by decide) (by omega) (by omega) (fun c_7 => absurd c_7 (by omega)) (fun c_7 => ?_)
    refine mx_il2 d_Te_behindOf_10 ?_
    refine mx_if_eq 31 d_Te_behindOf_11 (by decide) (fun c_11 => absurd c_11 (by decide)) (fun c_11 => ?_)
    refine mx_al0 d_Te_behindOf_14 ?_
    refine mx_getR d_Te_behindOf_15 fl_Te_9 (by assumption) (by assumption) ?_
    refine mx_il3 d_Te_behindOf_18 ?_
    refine mx_cSN2i d_Te_behindOf_19 (c_get (k := a + k9) (by assumption) (by omega) (by omega)) ok_Vh_get ml_Te_41 (by decide) (Nat.le_of_ble_eq_true rfl) ?_
    skip
    refine mx_ti (y := nI (f (a + k9))) ((hy0 _ (by omega)).2) ?_
    refine mx_cS1i d_Te_behindOf_22 (c_Te_isLetter (c := f (a + k9)) (by omega)) ok_Te_isLetter ml_Te_45 (by decide) (Nat.le_of_ble_eq_true rfl) ?_
    refine mx_ifB_eq 51 d_Te_behindOf_25 (by decide) (fun c_25 => absurd c_25 (by rw [hin]; decide)) (fun c_25 => ?_)
    refine mx_goto 45 d_Te_behindOf_28 (by decide) ?_
    refine mx_iN3 d_Te_behindOf_45 ?_
    refine mx_goto 2 d_Te_behindOf_48 (by decide) ?_
    have e3 : nI (a + k9 + 1) = nI (a + (k9 + 1)) := by rfl
    refine mx_lsc (congrArg (fun z9 => ([some (.ref (te)), some (.int (nI (a))), some (.int (nI (1))), some (.int (z9))] : List (Option Value))) e3) ?_
    exact ih
  · try dsimp only
    have hout : tq_lz f L a < L → tq_l (f (a + (tq_lz f L a - a))) = false := fun h9 => by have h8 := tq_out (p := fun q => tq_l (f q)) (L := L) (a := a) (by unfold tq_lz at h9; exact h9); rw [show a + (tq_lz f L a - a) = tq_lz f L a by omega]; exact h8
    refine mx_il3 d_Te_behindOf_2 ?_
    refine mx_al0 d_Te_behindOf_3 ?_
    refine mx_getI d_Te_behindOf_4 fl_Te_15 (by assumption) ?_
    refine mx_ti (y := nI (L)) (hy1) ?_
    refine mx_icN_ge 51 d_Te_behindOf_7 (by decide) (by omega) (by omega) (fun c_7 => ?_) (fun c_7 => ?_)
    · skip
      refine mx_il3 d_Te_behindOf_51 ?_
      exact mx_iret d_Te_behindOf_52 rfl (mx_ri_of (by rw [show a + (tq_lz f L a - a) = tq_lz f L a by omega]))
    · skip
      refine mx_il2 d_Te_behindOf_10 ?_
      refine mx_if_eq 31 d_Te_behindOf_11 (by decide) (fun c_11 => absurd c_11 (by decide)) (fun c_11 => ?_)
      refine mx_al0 d_Te_behindOf_14 ?_
      refine mx_getR d_Te_behindOf_15 fl_Te_9 (by assumption) (by assumption) ?_
      refine mx_il3 d_Te_behindOf_18 ?_
      refine mx_cSN2i d_Te_behindOf_19 (c_get (k := a + (tq_lz f L a - a)) (by assumption) (by omega) (by omega)) ok_Vh_get ml_Te_41 (by decide) (Nat.le_of_ble_eq_true rfl) ?_
      skip
      refine mx_ti (y := nI (f (a + (tq_lz f L a - a)))) ((hy0 _ (by omega)).2) ?_
      refine mx_cS1i d_Te_behindOf_22 (c_Te_isLetter (c := f (a + (tq_lz f L a - a))) (by omega)) ok_Te_isLetter ml_Te_45 (by decide) (Nat.le_of_ble_eq_true rfl) ?_
      refine mx_ifB_eq 51 d_Te_behindOf_25 (by decide) (fun c_25 => ?_) (fun c_25 => absurd c_25 (by rw [hout (by omega)]; decide))
      refine mx_il3 d_Te_behindOf_51 ?_
      exact mx_iret d_Te_behindOf_52 rfl (mx_ri_of (by rw [show a + (tq_lz f L a - a) = tq_lz f L a by omega]))
theorem c_Te_behindF (hTe : te_ok S P te) (hx : te_tx I te f L) (ha : a ≤ L)  : mx_C l E M_Te_behindOf 1 0 0 [.ref (te), .int (nI (a)), .int (nI (0))] (t, S, I, P, J) (mx_ri (nI (tq_fe f L a)) (t, S, I, P, J)) := by
  obtain ⟨hT0, hT1, hT2, hT3, hT4, hT5, hT6, hT7, hT8, hT9, hT10⟩ := id hTe
  obtain ⟨hy0, hy1, hL⟩ := id hx
  have hE1 : a ≤ tq_fe f L a := tq_ge _ L a
  have hE2 : tq_fe f L a ≤ L := tq_le ha
  have hyb : ∀ j, j < 400 → f j < 256 := fun j hj => (hy0 j hj).1
  have hyE := hyb (a + (tq_fe f L a - a))
  refine mx_C_of (ls0 := [some (.ref (te)), some (.int (nI (a))), some (.int (nI (0))), none]) (by decide +kernel) rfl rfl (Nat.le_of_ble_eq_true rfl) rfl ?_
  refine mx_il1 d_Te_behindOf_0 ?_
  refine mx_is3 d_Te_behindOf_1 ?_
  refine mx_lsc (congrArg (fun z9 => ([some (.ref (te)), some (.int (nI (a))), some (.int (nI (0))), some (.int (z9))] : List (Option Value))) ((show nI a = nI (a + 0) from rfl))) ?_
  refine mx_loop (N := tq_fe f L a - a) (ls := fun k9 => [some (.ref (te)), some (.int (nI (a))), some (.int (nI (0))), some (.int (nI (a + k9)))]) (X := fun k9 => (t, S, I, P, J)) (fun k9 hk9 ih => ?_) ?_
  · try dsimp only
    have hin : tq_f (f (a + k9)) = true := tq_in (p := fun q => tq_f (f q)) (L := L) (a := a) (by omega) (by have h9 := hk9; unfold tq_fe at h9; omega)
    have hy9 := (hy0 (a + k9) (by omega)).1
    refine mx_il3 d_Te_behindOf_2 ?_
    refine mx_al0 d_Te_behindOf_3 ?_
    refine mx_getI d_Te_behindOf_4 fl_Te_15 (by assumption) ?_
    refine mx_ti (y := nI (L)) (hy1) ?_
    refine mx_icN_ge 51 d_Te_behindOf_7 (by decide) (by omega) (by omega) (fun c_7 => absurd c_7 (by omega)) (fun c_7 => ?_)
    refine mx_il2 d_Te_behindOf_10 ?_
    refine mx_if_eq 31 d_Te_behindOf_11 (by decide) (fun c_11 => ?_) (fun c_11 => absurd (by decide) c_11)
    refine mx_al0 d_Te_behindOf_31 ?_
    refine mx_getR d_Te_behindOf_32 fl_Te_9 (by assumption) (by assumption) ?_
    refine mx_il3 d_Te_behindOf_35 ?_
    refine mx_cSN2i d_Te_behindOf_36 (c_get (k := a + k9) (by assumption) (by omega) (by omega)) ok_Vh_get ml_Te_41 (by decide) (Nat.le_of_ble_eq_true rfl) ?_
    skip
    refine mx_ti (y := nI (f (a + k9))) ((hy0 _ (by omega)).2) ?_
    refine mx_cS1i d_Te_behindOf_39 (c_Te_isFigure (c := f (a + k9)) (by omega)) ok_Te_isFigure ml_Te_49 (by decide) (Nat.le_of_ble_eq_true rfl) ?_
    refine mx_ifB_eq 51 d_Te_behindOf_42 (by decide) (fun c_42 => absurd c_42 (by rw [hin]; decide)) (fun c_42 => ?_)
    refine mx_iN3 d_Te_behindOf_45 ?_
    refine mx_goto 2 d_Te_behindOf_48 (by decide) ?_
    have e3 : nI (a + k9 + 1) = nI (a + (k9 + 1)) := by rfl
    refine mx_lsc (congrArg (fun z9 => ([some (.ref (te)), some (.int (nI (a))), some (.int (nI (0))), some (.int (z9))] : List (Option Value))) e3) ?_
    exact ih
  · try dsimp only
    have hout : tq_fe f L a < L → tq_f (f (a + (tq_fe f L a - a))) = false := fun h9 => by have h8 := tq_out (p := fun q => tq_f (f q)) (L := L) (a := a) (by unfold tq_fe at h9; exact h9); rw [show a + (tq_fe f L a - a) = tq_fe f L a by omega]; exact h8
    refine mx_il3 d_Te_behindOf_2 ?_
    refine mx_al0 d_Te_behindOf_3 ?_
    refine mx_getI d_Te_behindOf_4 fl_Te_15 (by assumption) ?_
    refine mx_ti (y := nI (L)) (hy1) ?_
    refine mx_icN_ge 51 d_Te_behindOf_7 (by decide) (by omega) (by omega) (fun c_7 => ?_) (fun c_7 => ?_)
    · skip
      refine mx_il3 d_Te_behindOf_51 ?_
      exact mx_iret d_Te_behindOf_52 rfl (mx_ri_of (by rw [show a + (tq_fe f L a - a) = tq_fe f L a by omega]))
    · skip
      refine mx_il2 d_Te_behindOf_10 ?_
      refine mx_if_eq 31 d_Te_behindOf_11 (by decide) (fun c_11 => ?_) (fun c_11 => absurd (by decide) c_11)
      refine mx_al0 d_Te_behindOf_31 ?_
      refine mx_getR d_Te_behindOf_32 fl_Te_9 (by assumption) (by assumption) ?_
      refine mx_il3 d_Te_behindOf_35 ?_
      refine mx_cSN2i d_Te_behindOf_36 (c_get (k := a + (tq_fe f L a - a)) (by assumption) (by omega) (by omega)) ok_Vh_get ml_Te_41 (by decide) (Nat.le_of_ble_eq_true rfl) ?_
      skip
      refine mx_ti (y := nI (f (a + (tq_fe f L a - a)))) ((hy0 _ (by omega)).2) ?_
      refine mx_cS1i d_Te_behindOf_39 (c_Te_isFigure (c := f (a + (tq_fe f L a - a))) (by omega)) ok_Te_isFigure ml_Te_49 (by decide) (Nat.le_of_ble_eq_true rfl) ?_
      refine mx_ifB_eq 51 d_Te_behindOf_42 (by decide) (fun c_42 => ?_) (fun c_42 => absurd c_42 (by rw [hout (by omega)]; decide))
      refine mx_il3 d_Te_behindOf_51 ?_
      exact mx_iret d_Te_behindOf_52 rfl (mx_ri_of (by rw [show a + (tq_fe f L a - a) = tq_fe f L a by omega]))
theorem c_Te_behindOf (hTe : te_ok S P te) (hx : te_tx I te f L) (ha : a ≤ L) : mx_C l E M_Te_behindOf 1 0 0 [.ref (te), .int (nI (a)), .int (bI (b))] (t, S, I, P, J) (mx_ri (nI (if b = true then tq_lz f L a else tq_fe f L a)) (t, S, I, P, J)) := by
  cases b
  · exact c_Te_behindF hTe hx ha
  · exact c_Te_behindL hTe hx ha
theorem c_Te_is (hTe : te_ok S P te) (hx : te_tx I te f L) (hi : i < 69) (hw : sx_w i w) (hae : a ≤ e) (heL : e ≤ L)  : mx_C l E M_Te_is 4 0 0 [.ref (te), .int (nI (a)), .int (nI (e)), .ref (mx_aK E i)] (t, S, I, P, J) (mx_ri (bI (tq_w f a e w)) (t, S, I, P, J)) := by
  obtain ⟨hT0, hT1, hT2, hT3, hT4, hT5, hT6, hT7, hT8, hT9, hT10⟩ := id hTe
  obtain ⟨hy0, hy1, hL⟩ := id hx
  have hl := hw.1
  have hln := (sx_all i hi).1
  refine mx_C_of (ls0 := [some (.ref (te)), some (.int (nI (a))), some (.int (nI (e))), some (.ref (mx_aK E i)), none]) (by decide +kernel) rfl rfl (Nat.le_of_ble_eq_true rfl) rfl ?_
  refine mx_il2 d_Te_is_0 ?_
  refine mx_il1 d_Te_is_1 ?_
  refine mx_isubN d_Te_is_2 (by omega) ?_
  refine mx_al3 d_Te_is_3 ?_
  refine sx_call0 d_Te_is_4 hi (c_Sx_length hi) ok_Jd_String_length ml_Te_87 rfl (by decide) (Nat.le_of_ble_eq_true rfl) ?_
  have hl := hw.1
  refine mx_icN_eq 12 d_Te_is_7 (by decide) (by omega) (by omega) (fun c_7 => ?_) (fun c_7 => ?_)
  · skip
    refine mx_in_0 d_Te_is_12 ?_
    refine mx_is4 d_Te_is_13 ?_
    refine mx_loopI (N := w.length) (fun k9 => ∀ j, j < k9 → f (a + j) = w.getD j 0) (ls := fun k9 => [some (.ref (te)), some (.int (nI (a))), some (.int (nI (e))), some (.ref (mx_aK E i)), some (.int (nI (k9)))]) (X := fun k9 => (t, S, I, P, J)) (fun j hj => absurd hj (by omega)) (fun k9 hk9 hinv ih => ?_) (fun hinv => ?_)
    · try dsimp only at hinv ih ⊢
      refine mx_il4 d_Te_is_15 ?_
      refine mx_al3 d_Te_is_17 ?_
      refine sx_call0 d_Te_is_18 hi (c_Sx_length hi) ok_Jd_String_length ml_Te_87 rfl (by decide) (Nat.le_of_ble_eq_true rfl) ?_
      refine mx_icN_ge 52 d_Te_is_21 (by decide) (by omega) (by omega) (fun c_21 => absurd c_21 (by omega)) (fun c_21 => ?_)
      have hy9 := (hy0 (a + k9) (by omega)).1
      have hw9 := (hw.2 k9 (by omega)).2
      refine mx_al0 d_Te_is_24 ?_
      refine mx_getR d_Te_is_25 fl_Te_9 (by assumption) (by assumption) ?_
      refine mx_il1 d_Te_is_28 ?_
      refine mx_il4 d_Te_is_29 ?_
      refine mx_iaddN d_Te_is_31 ?_
      refine mx_cSN2i d_Te_is_32 (c_get (k := a + k9) (by assumption) (by omega) (by omega)) ok_Vh_get ml_Te_41 (by decide) (Nat.le_of_ble_eq_true rfl) ?_
      refine mx_ti (y := nI (f (a + k9))) ((hy0 _ (by omega)).2) ?_
      refine mx_al3 d_Te_is_35 ?_
      refine mx_il4 d_Te_is_36 ?_
      refine sx_call1 d_Te_is_38 hi (c_Sx_charAt (j := k9) hi (by omega)) ok_Jd_String_charAt ml_Te_92 rfl (by decide) (Nat.le_of_ble_eq_true rfl) ?_
      refine mx_ti (y := nI (w.getD k9 0)) ((hw.2 k9 (by omega)).1) ?_
      refine mx_icN_eq 46 d_Te_is_41 (by decide) (by omega) (by omega) (fun c_41 => ?_) (fun c_41 => ?_)
      · skip
        refine mx_iN4 d_Te_is_46 ?_
        refine mx_goto 15 d_Te_is_49 (by decide) ?_
        exact ih (vs_nextT hinv c_41)
      · skip
        have k0 : tq_w f a e w = false := by unfold tq_w; rw [decide_eq_false (show ¬ ∀ i, i < w.length → f (a + i) = w.getD i 0 from fun z => c_41 (z k9 (by omega))), Bool.and_false]
        refine mx_in_0 d_Te_is_44 ?_
        exact mx_zret d_Te_is_45 rfl (by first | exact Or.inl rfl | exact Or.inr rfl) (mx_ri_of (by rw [k0]; rfl))
    · try dsimp only at hinv ⊢
      refine mx_il4 d_Te_is_15 ?_
      refine mx_al3 d_Te_is_17 ?_
      refine sx_call0 d_Te_is_18 hi (c_Sx_length hi) ok_Jd_String_length ml_Te_87 rfl (by decide) (Nat.le_of_ble_eq_true rfl) ?_
      refine mx_icN_ge 52 d_Te_is_21 (by decide) (by omega) (by omega) (fun c_21 => ?_) (fun c_21 => absurd c_21 (by omega))
      refine mx_in_1 d_Te_is_52 ?_
      exact mx_zret d_Te_is_53 rfl (by first | exact Or.inl rfl | exact Or.inr rfl) (mx_ri_of (by rw [show tq_w f a e w = true from by unfold tq_w; rw [decide_eq_true (by omega), decide_eq_true hinv]; rfl]; rfl))
  · skip
    have k0 : tq_w f a e w = false := by unfold tq_w; rw [decide_eq_false (by omega), Bool.false_and]
    refine mx_in_0 d_Te_is_10 ?_
    exact mx_zret d_Te_is_11 rfl (by first | exact Or.inl rfl | exact Or.inr rfl) (mx_ri_of (by rw [k0]; rfl))
theorem c_Te_signOf (hc : c < 256)  : mx_C l E M_Te_signOf 0 0 0 [.int ((nI c))] (t, S, I, P, J) (mx_ri (nI (tq_sg c)) (t, S, I, P, J)) := by
  refine mx_C_of (ls0 := [some (.int ((nI c)))]) (by decide +kernel) rfl rfl (Nat.le_of_ble_eq_true rfl) rfl ?_
  refine mx_il0 d_Te_signOf_0 ?_
  by_cases k_40 : (nI c) = nI 40
  · refine mx_lookup (off := 61) 62 d_Te_signOf_1 (by decide) (by rw [k_40]; decide) (by decide) ?_
    have hz : c = 40 := (nI_eq (by omega) (by omega)).mp k_40
    refine mx_in_4 d_Te_signOf_62 ?_
    exact mx_iret d_Te_signOf_63 rfl (mx_ri_of (by rw [hz]; rfl))
  by_cases k_41 : (nI c) = nI 41
  · refine mx_lookup (off := 63) 64 d_Te_signOf_1 (by decide) (by rw [k_41]; decide) (by decide) ?_
    have hz : c = 41 := (nI_eq (by omega) (by omega)).mp k_41
    refine mx_in_5 d_Te_signOf_64 ?_
    exact mx_iret d_Te_signOf_65 rfl (mx_ri_of (by rw [hz]; rfl))
  by_cases k_43 : (nI c) = nI 43
  · refine mx_lookup (off := 71) 72 d_Te_signOf_1 (by decide) (by rw [k_43]; decide) (by decide) ?_
    have hz : c = 43 := (nI_eq (by omega) (by omega)).mp k_43
    refine mx_bip 8 d_Te_signOf_72 (by decide) ?_
    exact mx_iret d_Te_signOf_74 rfl (mx_ri_of (by rw [hz]; rfl))
  by_cases k_59 : (nI c) = nI 59
  · refine mx_lookup (off := 59) 60 d_Te_signOf_1 (by decide) (by rw [k_59]; decide) (by decide) ?_
    have hz : c = 59 := (nI_eq (by omega) (by omega)).mp k_59
    refine mx_in_3 d_Te_signOf_60 ?_
    exact mx_iret d_Te_signOf_61 rfl (mx_ri_of (by rw [hz]; rfl))
  by_cases k_60 : (nI c) = nI 60
  · refine mx_lookup (off := 65) 66 d_Te_signOf_1 (by decide) (by rw [k_60]; decide) (by decide) ?_
    have hz : c = 60 := (nI_eq (by omega) (by omega)).mp k_60
    refine mx_bip 6 d_Te_signOf_66 (by decide) ?_
    exact mx_iret d_Te_signOf_68 rfl (mx_ri_of (by rw [hz]; rfl))
  by_cases k_62 : (nI c) = nI 62
  · refine mx_lookup (off := 68) 69 d_Te_signOf_1 (by decide) (by rw [k_62]; decide) (by decide) ?_
    have hz : c = 62 := (nI_eq (by omega) (by omega)).mp k_62
    refine mx_bip 7 d_Te_signOf_69 (by decide) ?_
    exact mx_iret d_Te_signOf_71 rfl (mx_ri_of (by rw [hz]; rfl))
  refine mx_lookup (off := 74) 75 d_Te_signOf_1 (by decide) ((lv_osw k_40 (by decide)).trans ((lv_osw k_41 (by decide)).trans ((lv_osw k_43 (by decide)).trans ((lv_osw k_59 (by decide)).trans ((lv_osw k_60 (by decide)).trans ((lv_osw k_62 (by decide)).trans (rfl))))))) (by decide) ?_
  refine mx_in_1 d_Te_signOf_75 ?_
  exact mx_iret d_Te_signOf_76 rfl (mx_ri_of (by unfold tq_sg; rw [if_neg (fun z => k_59 (congrArg nI z)), if_neg (fun z => k_40 (congrArg nI z)), if_neg (fun z => k_41 (congrArg nI z)), if_neg (fun z => k_60 (congrArg nI z)), if_neg (fun z => k_62 (congrArg nI z)), if_neg (fun z => k_43 (congrArg nI z))]))
theorem c_Te_numberOf (hTe : te_ok S P te) (hx : te_tx I te f L) (hae : a ≤ e) (heL : e ≤ L) (hfig : ∀ j, a ≤ j → j < e → tq_f (f j) = true)  : mx_C l E M_Te_numberOf 1 0 0 [.ref (te), .int (nI (a)), .int (nI (e))] (t, S, I, P, J) (mx_ri (if e - a ≤ 3 then nI (tq_nm f a (e - a)) else -1) (t, S, I, P, J)) := by
  obtain ⟨hT0, hT1, hT2, hT3, hT4, hT5, hT6, hT7, hT8, hT9, hT10⟩ := id hTe
  obtain ⟨hy0, hy1, hL⟩ := id hx
  refine mx_C_of (ls0 := [some (.ref (te)), some (.int (nI (a))), some (.int (nI (e))), none, none]) (by decide +kernel) rfl rfl (Nat.le_of_ble_eq_true rfl) rfl ?_
  refine mx_in_0 d_Te_numberOf_0 ?_
  refine mx_is3 d_Te_numberOf_1 ?_
  refine mx_il1 d_Te_numberOf_2 ?_
  refine mx_is4 d_Te_numberOf_3 ?_
  refine mx_lsc (congrArg (fun z9 => ([some (.ref (te)), some (.int (nI (a))), some (.int (nI (e))), some (.int (nI (0))), some (.int (z9))] : List (Option Value))) ((show nI a = nI (a + 0) from rfl))) ?_
  refine mx_lsc (congrArg (fun z9 => ([some (.ref (te)), some (.int (nI (a))), some (.int (nI (e))), some (.int (z9)), some (.int (nI (a + 0)))] : List (Option Value))) ((show nI 0 = nI (tq_nm f a 0) from rfl))) ?_
  refine mx_loop (N := min (e - a) 3) (ls := fun k9 => [some (.ref (te)), some (.int (nI (a))), some (.int (nI (e))), some (.int (nI (tq_nm f a k9))), some (.int (nI (a + k9)))]) (X := fun k9 => (t, S, I, P, J)) (fun k9 hk9 ih => ?_) ?_
  · try dsimp only
    refine mx_il4 d_Te_numberOf_5 ?_
    refine mx_il2 d_Te_numberOf_7 ?_
    refine mx_icN_ge 43 d_Te_numberOf_8 (by decide) (by omega) (by omega) (fun c_8 => absurd c_8 (by omega)) (fun c_8 => ?_)
    refine mx_il4 d_Te_numberOf_11 ?_
    refine mx_il1 d_Te_numberOf_13 ?_
    refine mx_in_3 d_Te_numberOf_14 ?_
    refine mx_iaddN d_Te_numberOf_15 ?_
    refine mx_icN_ge 43 d_Te_numberOf_16 (by decide) (by omega) (by omega) (fun c_16 => absurd c_16 (by omega)) (fun c_16 => ?_)
    refine mx_bip 10 d_Te_numberOf_19 (by decide) ?_
    refine mx_il3 d_Te_numberOf_21 ?_
    have hy9 := (hy0 (a + k9) (by omega)).1
    have hg9 := tq_f_v (hfig (a + k9) (by omega) (by omega))
    have hn9 : tq_nm f a k9 < 10 ^ k9 := tq_nm_lt (fun i hi => hfig (a + i) (by omega) (by omega))
    have hp9 : 10 ^ k9 ≤ 10 ^ 3 := Nat.pow_le_pow_right (by omega) (by omega)
    refine mx_imulN d_Te_numberOf_22 ?_
    refine mx_al0 d_Te_numberOf_23 ?_
    refine mx_getR d_Te_numberOf_24 fl_Te_9 (by assumption) (by assumption) ?_
    refine mx_il4 d_Te_numberOf_27 ?_
    refine mx_cSN2i d_Te_numberOf_29 (c_get (k := a + k9) (by assumption) (by omega) (by omega)) ok_Vh_get ml_Te_41 (by decide) (Nat.le_of_ble_eq_true rfl) ?_
    refine mx_ti (y := nI (f (a + k9))) ((hy0 _ (by omega)).2) ?_
    refine mx_iaddN d_Te_numberOf_32 ?_
    refine mx_bip 48 d_Te_numberOf_33 (by decide) ?_
    refine mx_isubN d_Te_numberOf_35 (by omega) ?_
    refine mx_is3 d_Te_numberOf_36 ?_
    refine mx_iN4 d_Te_numberOf_37 ?_
    refine mx_goto 5 d_Te_numberOf_40 (by decide) ?_
    have e3 : nI ((10 * (tq_nm f a k9) + (f (a + k9))) - 48) = nI (tq_nm f a (k9 + 1)) := by exact congrArg nI (show 10 * tq_nm f a k9 + f (a + k9) - 48 = 10 * tq_nm f a k9 + (f (a + k9) - 48) by omega)
    refine mx_lsc (congrArg (fun z9 => ([some (.ref (te)), some (.int (nI (a))), some (.int (nI (e))), some (.int (z9)), some (.int (nI (a + k9 + 1)))] : List (Option Value))) e3) ?_
    have e4 : nI (a + k9 + 1) = nI (a + (k9 + 1)) := by rfl
    refine mx_lsc (congrArg (fun z9 => ([some (.ref (te)), some (.int (nI (a))), some (.int (nI (e))), some (.int (nI (tq_nm f a (k9 + 1)))), some (.int (z9))] : List (Option Value))) e4) ?_
    exact ih
  · try dsimp only
    refine mx_il4 d_Te_numberOf_5 ?_
    refine mx_il2 d_Te_numberOf_7 ?_
    refine mx_icN_ge 43 d_Te_numberOf_8 (by decide) (by omega) (by omega) (fun c_8 => ?_) (fun c_8 => ?_)
    · skip
      refine mx_il2 d_Te_numberOf_43 ?_
      refine mx_il1 d_Te_numberOf_44 ?_
      refine mx_isubN d_Te_numberOf_45 (by omega) ?_
      refine mx_in_3 d_Te_numberOf_46 ?_
      refine mx_icN_le 54 d_Te_numberOf_47 (by decide) (by omega) (by omega) (fun c_47 => ?_) (fun c_47 => ?_)
      · skip
        have hc7 : e - a ≤ 3 := by omega
        refine mx_il3 d_Te_numberOf_54 ?_
        exact mx_iret d_Te_numberOf_55 rfl (mx_ri_of (by first | (rw [if_pos hc7, show min (e - a) 3 = e - a by omega]; done) | (rw [if_neg hc7]; done)))
      · skip
        have hc7 : ¬ e - a ≤ 3 := by omega
        refine mx_ic_m1 d_Te_numberOf_50 ?_
        refine mx_goto 55 d_Te_numberOf_51 (by decide) ?_
        exact mx_iret d_Te_numberOf_55 rfl (mx_ri_of (by first | (rw [if_pos hc7, show min (e - a) 3 = e - a by omega]; done) | (rw [if_neg hc7]; done)))
    · skip
      refine mx_il4 d_Te_numberOf_11 ?_
      refine mx_il1 d_Te_numberOf_13 ?_
      refine mx_in_3 d_Te_numberOf_14 ?_
      refine mx_iaddN d_Te_numberOf_15 ?_
      refine mx_icN_ge 43 d_Te_numberOf_16 (by decide) (by omega) (by omega) (fun c_16 => ?_) (fun c_16 => absurd c_16 (by omega))
      refine mx_il2 d_Te_numberOf_43 ?_
      refine mx_il1 d_Te_numberOf_44 ?_
      refine mx_isubN d_Te_numberOf_45 (by omega) ?_
      refine mx_in_3 d_Te_numberOf_46 ?_
      refine mx_icN_le 54 d_Te_numberOf_47 (by decide) (by omega) (by omega) (fun c_47 => ?_) (fun c_47 => ?_)
      · skip
        have hc7 : e - a ≤ 3 := by omega
        refine mx_il3 d_Te_numberOf_54 ?_
        exact mx_iret d_Te_numberOf_55 rfl (mx_ri_of (by first | (rw [if_pos hc7, show min (e - a) 3 = e - a by omega]; done) | (rw [if_neg hc7]; done)))
      · skip
        have hc7 : ¬ e - a ≤ 3 := by omega
        refine mx_ic_m1 d_Te_numberOf_50 ?_
        refine mx_goto 55 d_Te_numberOf_51 (by decide) ?_
        exact mx_iret d_Te_numberOf_55 rfl (mx_ri_of (by first | (rw [if_pos hc7, show min (e - a) 3 = e - a by omega]; done) | (rw [if_neg hc7]; done)))
/-- what MARKS a word tells, or none -/
def tq_mv (o : Option Nat) : Int32 := match o with | some v => nI v | none => -1
theorem tq_ms_n {f : Nat → Nat} {a n s : Nat} (h : tq_ms f a n = some s) (c : 6 ≤ f (a + n) - 97 ∨ s.testBit (f (a + n) - 97) = true) : tq_ms f a (n + 1) = none := by
  unfold tq_ms
  rw [h]
  exact if_pos c
theorem tq_ms_s {f : Nat → Nat} {a n s : Nat} (h : tq_ms f a n = some s) (c1 : ¬ 5 < f (a + n) - 97) (c2 : s.testBit (f (a + n) - 97) = false) : tq_ms f a (n + 1) = some (bset s (f (a + n) - 97)) := by
  unfold tq_ms
  rw [h]
  exact if_neg (fun z => z.elim (fun z => c1 (by omega)) (fun z => by rw [c2] at z; cases z))
theorem vs_has_tb {s j : Nat} (hs : s < 2 ^ 31) (hj : j < 32) : vs_has (nI s) j = s.testBit j := by rw [vs_has_bt hj, vs_bt_nI s j hs]
theorem c_Te_markSet (hTe : te_ok S P te) (hx : te_tx I te f L) (hae : a ≤ e) (heL : e ≤ L) (hlet : ∀ j, a ≤ j → j < e → tq_l (f j) = true)  : mx_C l E M_Te_markSet 1 0 0 [.ref (te), .int (nI (a)), .int (nI (e))] (t, S, I, P, J) (mx_ri (tq_mv (tq_ms f a (e - a))) (t, S, I, P, J)) := by
  obtain ⟨hT0, hT1, hT2, hT3, hT4, hT5, hT6, hT7, hT8, hT9, hT10⟩ := id hTe
  obtain ⟨hy0, hy1, hL⟩ := id hx
  refine mx_C_of (ls0 := [some (.ref (te)), some (.int (nI (a))), some (.int (nI (e))), none, none, none]) (by decide +kernel) rfl rfl (Nat.le_of_ble_eq_true rfl) rfl ?_
  refine mx_in_0 d_Te_markSet_0 ?_
  refine mx_is3 d_Te_markSet_1 ?_
  refine mx_il1 d_Te_markSet_2 ?_
  refine mx_is4 d_Te_markSet_3 ?_
  refine mx_lsc (congrArg (fun z9 => ([some (.ref (te)), some (.int (nI (a))), some (.int (nI (e))), some (.int (nI (0))), some (.int (z9)), none] : List (Option Value))) ((show nI a = nI (a + 0) from rfl))) ?_
  refine mx_loopX (α := (Nat)) (N := e - a) (a0 := 0) (fun k9 z9 => tq_ms f a k9 = some z9) (ls := fun k9 z9 => [some (.ref (te)), some (.int (nI (a))), some (.int (nI (e))), some (.int (nI (z9))), some (.int (nI (a + k9))), none]) (X := fun k9 z9 => (t, S, I, P, J)) (rfl) (fun k9 hk9 z9 hinv ih => ?_) (fun z9 hinv => ?_)
  · skip
    obtain ⟨s9, hz9⟩ : ∃ q, q = z9 := ⟨_, rfl⟩
    subst hz9
    try dsimp only at hinv ih ⊢
    refine mx_il4 d_Te_markSet_5 ?_
    refine mx_il2 d_Te_markSet_7 ?_
    refine mx_icN_ge 55 d_Te_markSet_8 (by decide) (by omega) (by omega) (fun c_8 => absurd c_8 (by omega)) (fun c_8 => ?_)
    have hy9 := (hy0 (a + k9) (by omega)).1
    have hg9 := tq_l_v (hlet (a + k9) (by omega) (by omega))
    have hs9 := tq_ms_lt _ _ hinv
    refine mx_al0 d_Te_markSet_11 ?_
    refine mx_getR d_Te_markSet_12 fl_Te_9 (by assumption) (by assumption) ?_
    refine mx_il4 d_Te_markSet_15 ?_
    refine mx_cSN2i d_Te_markSet_17 (c_get (k := a + k9) (by assumption) (by omega) (by omega)) ok_Vh_get ml_Te_41 (by decide) (Nat.le_of_ble_eq_true rfl) ?_
    refine mx_ti (y := nI (f (a + k9))) ((hy0 _ (by omega)).2) ?_
    refine mx_bip 97 d_Te_markSet_20 (by decide) ?_
    refine mx_isubN d_Te_markSet_22 (by omega) ?_
    refine mx_is5 d_Te_markSet_23 ?_
    refine mx_il5 d_Te_markSet_25 ?_
    refine mx_in_5 d_Te_markSet_27 ?_
    refine mx_icN_gt 40 d_Te_markSet_28 (by decide) (by omega) (by omega) (fun c_28 => ?_) (fun c_28 => ?_)
    · skip
      have k0 := tq_ms_none (tq_ms_n hinv (Or.inl (by omega))) (show k9 + 1 ≤ e - a by omega)
      refine mx_ic_m1 d_Te_markSet_40 ?_
      exact mx_iret d_Te_markSet_41 rfl (mx_ri_of (by rw [k0]; rfl))
    · skip
      refine mx_il3 d_Te_markSet_31 ?_
      refine mx_il5 d_Te_markSet_32 ?_
      refine mx_cSN2i d_Te_markSet_34 (c_has (j := (f (a + k9)) - 97) (by omega)) ok_Vh_has ml_Te_83 (by decide) (Nat.le_of_ble_eq_true rfl) ?_
      refine mx_ifB_eq 42 d_Te_markSet_37 (by decide) (fun c_37 => ?_) (fun c_37 => ?_)
      · skip
        have c_37b : s9.testBit (f (a + k9) - 97) = false := by rw [← vs_has_tb (by omega) (by omega)]; exact c_37
        refine mx_il3 d_Te_markSet_42 ?_
        refine mx_in_1 d_Te_markSet_43 ?_
        refine mx_il5 d_Te_markSet_44 ?_
        refine mx_ishl d_Te_markSet_46 ?_
        refine mx_ior d_Te_markSet_47 ?_
        refine mx_ti (y := nI (bset s9 (f (a + k9) - 97))) (bset_nI s9 (by omega) _ (by omega)) ?_
        refine mx_is3 d_Te_markSet_48 ?_
        refine mx_iN4 d_Te_markSet_49 ?_
        refine mx_goto 5 d_Te_markSet_52 (by decide) ?_
        refine mx_dn5 ?_
        have e4 : nI (a + k9 + 1) = nI (a + (k9 + 1)) := by rfl
        refine mx_lsc (congrArg (fun z9 => ([some (.ref (te)), some (.int (nI (a))), some (.int (nI (e))), some (.int (nI (bset s9 (f (a + k9) - 97)))), some (.int (z9)), none] : List (Option Value))) e4) ?_
        exact ih (bset s9 (f (a + k9) - 97)) (tq_ms_s hinv (by omega) c_37b)
      · skip
        have k0 := tq_ms_none (tq_ms_n hinv (Or.inr (by rw [← vs_has_tb (by omega) (by omega)]; exact c_37))) (show k9 + 1 ≤ e - a by omega)
        refine mx_ic_m1 d_Te_markSet_40 ?_
        exact mx_iret d_Te_markSet_41 rfl (mx_ri_of (by rw [k0]; rfl))
  · skip
    obtain ⟨s9, hz9⟩ : ∃ q, q = z9 := ⟨_, rfl⟩
    subst hz9
    try dsimp only at hinv ⊢
    refine mx_il4 d_Te_markSet_5 ?_
    refine mx_il2 d_Te_markSet_7 ?_
    refine mx_icN_ge 55 d_Te_markSet_8 (by decide) (by omega) (by omega) (fun c_8 => ?_) (fun c_8 => absurd c_8 (by omega))
    refine mx_il3 d_Te_markSet_55 ?_
    exact mx_iret d_Te_markSet_56 rfl (mx_ri_of (by rw [hinv]; rfl))
theorem tq_WL26 : ∀ q ∈ tq_WL, ∃ j, j < 26 ∧ tq_WL.getD j ([], 0) = q := by
  intro q hq
  obtain ⟨j, hj, e⟩ := List.getElem_of_mem hq
  exact ⟨j, hj, by rw [List.getD_eq_getElem?_getD, List.getElem?_eq_getElem hj]; exact e⟩
theorem tq_WLm : ∀ j, j < 26 → tq_WL.getD j ([], 0) ∈ tq_WL := by decide +kernel
theorem tq_wd_n (h : ∀ j, j < 26 → tq_w f a e (tq_WL.getD j ([], 0)).1 = false) : tq_wd f a e = 9 := tq_wd_9 (fun q hq => by
  obtain ⟨j, hj, rfl⟩ := tq_WL26 q hq
  exact h j hj)
theorem c_Te_lawWordOf (hTe : te_ok S P te) (hx : te_tx I te f L) (hae : a ≤ e) (heL : e ≤ L) (h13 : ∀ j, j < 13 → tq_w f a e (tq_WL.getD j ([], 0)).1 = false)  : mx_C l E M_Te_lawWordOf 5 0 0 [.ref (te), .int (nI (a)), .int (nI (e))] (t, S, I, P, J) (mx_ri (nI (tq_wd f a e)) (t, S, I, P, J)) := by
  obtain ⟨hT0, hT1, hT2, hT3, hT4, hT5, hT6, hT7, hT8, hT9, hT10⟩ := id hTe
  obtain ⟨hy0, hy1, hL⟩ := id hx
  refine mx_C_of (ls0 := [some (.ref (te)), some (.int (nI (a))), some (.int (nI (e)))]) (by decide +kernel) rfl rfl (Nat.le_of_ble_eq_true rfl) rfl ?_
  refine mx_al0 d_Te_lawWordOf_0 ?_
  refine mx_il1 d_Te_lawWordOf_1 ?_
  refine mx_il2 d_Te_lawWordOf_2 ?_
  refine mx_ldcS (i := 13) d_Te_lawWordOf_3 rfl rfl ?_
  refine mx_cV3i d_Te_lawWordOf_5 (c_Te_is hTe hx (i := 13) (by omega) (sx_wT 13 (by omega)) hae heL) ok_Te_is ml_Te_98 (by assumption) ⟨rfl, rfl⟩ (by decide) (Nat.le_of_ble_eq_true rfl) ?_
  refine mx_ifB_eq 14 d_Te_lawWordOf_8 (by decide) (fun c_8 => ?_) (fun c_8 => ?_)
  · skip
    refine mx_al0 d_Te_lawWordOf_14 ?_
    refine mx_il1 d_Te_lawWordOf_15 ?_
    refine mx_il2 d_Te_lawWordOf_16 ?_
    refine mx_ldcS (i := 14) d_Te_lawWordOf_17 rfl rfl ?_
    refine mx_cV3i d_Te_lawWordOf_19 (c_Te_is hTe hx (i := 14) (by omega) (sx_wT 14 (by omega)) hae heL) ok_Te_is ml_Te_98 (by assumption) ⟨rfl, rfl⟩ (by decide) (Nat.le_of_ble_eq_true rfl) ?_
    refine mx_ifB_eq 28 d_Te_lawWordOf_22 (by decide) (fun c_22 => ?_) (fun c_22 => ?_)
    · skip
      refine mx_al0 d_Te_lawWordOf_28 ?_
      refine mx_il1 d_Te_lawWordOf_29 ?_
      refine mx_il2 d_Te_lawWordOf_30 ?_
      refine mx_ldcS (i := 15) d_Te_lawWordOf_31 rfl rfl ?_
      refine mx_cV3i d_Te_lawWordOf_33 (c_Te_is hTe hx (i := 15) (by omega) (sx_wT 15 (by omega)) hae heL) ok_Te_is ml_Te_98 (by assumption) ⟨rfl, rfl⟩ (by decide) (Nat.le_of_ble_eq_true rfl) ?_
      refine mx_ifB_eq 42 d_Te_lawWordOf_36 (by decide) (fun c_36 => ?_) (fun c_36 => ?_)
      · skip
        refine mx_al0 d_Te_lawWordOf_42 ?_
        refine mx_il1 d_Te_lawWordOf_43 ?_
        refine mx_il2 d_Te_lawWordOf_44 ?_
        refine mx_ldcS (i := 16) d_Te_lawWordOf_45 rfl rfl ?_
        refine mx_cV3i d_Te_lawWordOf_47 (c_Te_is hTe hx (i := 16) (by omega) (sx_wT 16 (by omega)) hae heL) ok_Te_is ml_Te_98 (by assumption) ⟨rfl, rfl⟩ (by decide) (Nat.le_of_ble_eq_true rfl) ?_
        refine mx_ifB_eq 56 d_Te_lawWordOf_50 (by decide) (fun c_50 => ?_) (fun c_50 => ?_)
        · skip
          refine mx_al0 d_Te_lawWordOf_56 ?_
          refine mx_il1 d_Te_lawWordOf_57 ?_
          refine mx_il2 d_Te_lawWordOf_58 ?_
          refine mx_ldcS (i := 17) d_Te_lawWordOf_59 rfl rfl ?_
          refine mx_cV3i d_Te_lawWordOf_61 (c_Te_is hTe hx (i := 17) (by omega) (sx_wT 17 (by omega)) hae heL) ok_Te_is ml_Te_98 (by assumption) ⟨rfl, rfl⟩ (by decide) (Nat.le_of_ble_eq_true rfl) ?_
          refine mx_ifB_eq 70 d_Te_lawWordOf_64 (by decide) (fun c_64 => ?_) (fun c_64 => ?_)
          · skip
            refine mx_al0 d_Te_lawWordOf_70 ?_
            refine mx_il1 d_Te_lawWordOf_71 ?_
            refine mx_il2 d_Te_lawWordOf_72 ?_
            refine mx_ldcS (i := 18) d_Te_lawWordOf_73 rfl rfl ?_
            refine mx_cV3i d_Te_lawWordOf_75 (c_Te_is hTe hx (i := 18) (by omega) (sx_wT 18 (by omega)) hae heL) ok_Te_is ml_Te_98 (by assumption) ⟨rfl, rfl⟩ (by decide) (Nat.le_of_ble_eq_true rfl) ?_
            refine mx_ifB_eq 84 d_Te_lawWordOf_78 (by decide) (fun c_78 => ?_) (fun c_78 => ?_)
            · skip
              refine mx_al0 d_Te_lawWordOf_84 ?_
              refine mx_il1 d_Te_lawWordOf_85 ?_
              refine mx_il2 d_Te_lawWordOf_86 ?_
              refine mx_ldcS (i := 19) d_Te_lawWordOf_87 rfl rfl ?_
              refine mx_cV3i d_Te_lawWordOf_89 (c_Te_is hTe hx (i := 19) (by omega) (sx_wT 19 (by omega)) hae heL) ok_Te_is ml_Te_98 (by assumption) ⟨rfl, rfl⟩ (by decide) (Nat.le_of_ble_eq_true rfl) ?_
              refine mx_ifB_eq 98 d_Te_lawWordOf_92 (by decide) (fun c_92 => ?_) (fun c_92 => ?_)
              · skip
                refine mx_al0 d_Te_lawWordOf_98 ?_
                refine mx_il1 d_Te_lawWordOf_99 ?_
                refine mx_il2 d_Te_lawWordOf_100 ?_
                refine mx_ldcS (i := 20) d_Te_lawWordOf_101 rfl rfl ?_
                refine mx_cV3i d_Te_lawWordOf_103 (c_Te_is hTe hx (i := 20) (by omega) (sx_wT 20 (by omega)) hae heL) ok_Te_is ml_Te_98 (by assumption) ⟨rfl, rfl⟩ (by decide) (Nat.le_of_ble_eq_true rfl) ?_
                refine mx_ifB_eq 112 d_Te_lawWordOf_106 (by decide) (fun c_106 => ?_) (fun c_106 => ?_)
                · skip
                  refine mx_al0 d_Te_lawWordOf_112 ?_
                  refine mx_il1 d_Te_lawWordOf_113 ?_
                  refine mx_il2 d_Te_lawWordOf_114 ?_
                  refine mx_ldcS (i := 21) d_Te_lawWordOf_115 rfl rfl ?_
                  refine mx_cV3i d_Te_lawWordOf_117 (c_Te_is hTe hx (i := 21) (by omega) (sx_wT 21 (by omega)) hae heL) ok_Te_is ml_Te_98 (by assumption) ⟨rfl, rfl⟩ (by decide) (Nat.le_of_ble_eq_true rfl) ?_
                  refine mx_ifB_eq 126 d_Te_lawWordOf_120 (by decide) (fun c_120 => ?_) (fun c_120 => ?_)
                  · skip
                    refine mx_al0 d_Te_lawWordOf_126 ?_
                    refine mx_il1 d_Te_lawWordOf_127 ?_
                    refine mx_il2 d_Te_lawWordOf_128 ?_
                    refine mx_ldcS (i := 22) d_Te_lawWordOf_129 rfl rfl ?_
                    refine mx_cV3i d_Te_lawWordOf_131 (c_Te_is hTe hx (i := 22) (by omega) (sx_wT 22 (by omega)) hae heL) ok_Te_is ml_Te_98 (by assumption) ⟨rfl, rfl⟩ (by decide) (Nat.le_of_ble_eq_true rfl) ?_
                    refine mx_ifB_eq 140 d_Te_lawWordOf_134 (by decide) (fun c_134 => ?_) (fun c_134 => ?_)
                    · skip
                      refine mx_al0 d_Te_lawWordOf_140 ?_
                      refine mx_il1 d_Te_lawWordOf_141 ?_
                      refine mx_il2 d_Te_lawWordOf_142 ?_
                      refine mx_ldcS (i := 23) d_Te_lawWordOf_143 rfl rfl ?_
                      refine mx_cV3i d_Te_lawWordOf_145 (c_Te_is hTe hx (i := 23) (by omega) (sx_wT 23 (by omega)) hae heL) ok_Te_is ml_Te_98 (by assumption) ⟨rfl, rfl⟩ (by decide) (Nat.le_of_ble_eq_true rfl) ?_
                      refine mx_ifB_eq 154 d_Te_lawWordOf_148 (by decide) (fun c_148 => ?_) (fun c_148 => ?_)
                      · skip
                        refine mx_al0 d_Te_lawWordOf_154 ?_
                        refine mx_il1 d_Te_lawWordOf_155 ?_
                        refine mx_il2 d_Te_lawWordOf_156 ?_
                        refine mx_ldcS (i := 24) d_Te_lawWordOf_157 rfl rfl ?_
                        refine mx_cV3i d_Te_lawWordOf_159 (c_Te_is hTe hx (i := 24) (by omega) (sx_wT 24 (by omega)) hae heL) ok_Te_is ml_Te_98 (by assumption) ⟨rfl, rfl⟩ (by decide) (Nat.le_of_ble_eq_true rfl) ?_
                        refine mx_ifB_eq 168 d_Te_lawWordOf_162 (by decide) (fun c_162 => ?_) (fun c_162 => ?_)
                        · skip
                          refine mx_al0 d_Te_lawWordOf_168 ?_
                          refine mx_il1 d_Te_lawWordOf_169 ?_
                          refine mx_il2 d_Te_lawWordOf_170 ?_
                          refine mx_ldcS (i := 25) d_Te_lawWordOf_171 rfl rfl ?_
                          refine mx_cV3i d_Te_lawWordOf_173 (c_Te_is hTe hx (i := 25) (by omega) (sx_wT 25 (by omega)) hae heL) ok_Te_is ml_Te_98 (by assumption) ⟨rfl, rfl⟩ (by decide) (Nat.le_of_ble_eq_true rfl) ?_
                          refine mx_ifB_eq 182 d_Te_lawWordOf_176 (by decide) (fun c_176 => ?_) (fun c_176 => ?_)
                          · skip
                            have g14 : ∀ j, j < 14 → tq_w f a e (tq_WL.getD j ([], 0)).1 = false := vs_nextT h13 c_8
                            have g15 : ∀ j, j < 15 → tq_w f a e (tq_WL.getD j ([], 0)).1 = false := vs_nextT g14 c_22
                            have g16 : ∀ j, j < 16 → tq_w f a e (tq_WL.getD j ([], 0)).1 = false := vs_nextT g15 c_36
                            have g17 : ∀ j, j < 17 → tq_w f a e (tq_WL.getD j ([], 0)).1 = false := vs_nextT g16 c_50
                            have g18 : ∀ j, j < 18 → tq_w f a e (tq_WL.getD j ([], 0)).1 = false := vs_nextT g17 c_64
                            have g19 : ∀ j, j < 19 → tq_w f a e (tq_WL.getD j ([], 0)).1 = false := vs_nextT g18 c_78
                            have g20 : ∀ j, j < 20 → tq_w f a e (tq_WL.getD j ([], 0)).1 = false := vs_nextT g19 c_92
                            have g21 : ∀ j, j < 21 → tq_w f a e (tq_WL.getD j ([], 0)).1 = false := vs_nextT g20 c_106
                            have g22 : ∀ j, j < 22 → tq_w f a e (tq_WL.getD j ([], 0)).1 = false := vs_nextT g21 c_120
                            have g23 : ∀ j, j < 23 → tq_w f a e (tq_WL.getD j ([], 0)).1 = false := vs_nextT g22 c_134
                            have g24 : ∀ j, j < 24 → tq_w f a e (tq_WL.getD j ([], 0)).1 = false := vs_nextT g23 c_148
                            have g25 : ∀ j, j < 25 → tq_w f a e (tq_WL.getD j ([], 0)).1 = false := vs_nextT g24 c_162
                            have g26 : ∀ j, j < 26 → tq_w f a e (tq_WL.getD j ([], 0)).1 = false := vs_nextT g25 c_176
                            refine mx_bip 9 d_Te_lawWordOf_182 (by decide) ?_
                            exact mx_iret d_Te_lawWordOf_184 rfl (mx_ri_of (by rw [tq_wd_n g26]))
                          · skip
                            refine mx_bip 18 d_Te_lawWordOf_179 (by decide) ?_
                            exact mx_iret d_Te_lawWordOf_181 rfl (mx_ri_of (congrArg nI ((tq_wd_iff (tq_WLm 25 (by omega))).mpr c_176).symm))
                        · skip
                          refine mx_bip 17 d_Te_lawWordOf_165 (by decide) ?_
                          exact mx_iret d_Te_lawWordOf_167 rfl (mx_ri_of (congrArg nI ((tq_wd_iff (tq_WLm 24 (by omega))).mpr c_162).symm))
                      · skip
                        refine mx_bip 15 d_Te_lawWordOf_151 (by decide) ?_
                        exact mx_iret d_Te_lawWordOf_153 rfl (mx_ri_of (congrArg nI ((tq_wd_iff (tq_WLm 23 (by omega))).mpr c_148).symm))
                    · skip
                      refine mx_bip 14 d_Te_lawWordOf_137 (by decide) ?_
                      exact mx_iret d_Te_lawWordOf_139 rfl (mx_ri_of (congrArg nI ((tq_wd_iff (tq_WLm 22 (by omega))).mpr c_134).symm))
                  · skip
                    refine mx_bip 13 d_Te_lawWordOf_123 (by decide) ?_
                    exact mx_iret d_Te_lawWordOf_125 rfl (mx_ri_of (congrArg nI ((tq_wd_iff (tq_WLm 21 (by omega))).mpr c_120).symm))
                · skip
                  refine mx_bip 12 d_Te_lawWordOf_109 (by decide) ?_
                  exact mx_iret d_Te_lawWordOf_111 rfl (mx_ri_of (congrArg nI ((tq_wd_iff (tq_WLm 20 (by omega))).mpr c_106).symm))
              · skip
                refine mx_bip 31 d_Te_lawWordOf_95 (by decide) ?_
                exact mx_iret d_Te_lawWordOf_97 rfl (mx_ri_of (congrArg nI ((tq_wd_iff (tq_WLm 19 (by omega))).mpr c_92).symm))
            · skip
              refine mx_bip 30 d_Te_lawWordOf_81 (by decide) ?_
              exact mx_iret d_Te_lawWordOf_83 rfl (mx_ri_of (congrArg nI ((tq_wd_iff (tq_WLm 18 (by omega))).mpr c_78).symm))
          · skip
            refine mx_bip 29 d_Te_lawWordOf_67 (by decide) ?_
            exact mx_iret d_Te_lawWordOf_69 rfl (mx_ri_of (congrArg nI ((tq_wd_iff (tq_WLm 17 (by omega))).mpr c_64).symm))
        · skip
          refine mx_bip 35 d_Te_lawWordOf_53 (by decide) ?_
          exact mx_iret d_Te_lawWordOf_55 rfl (mx_ri_of (congrArg nI ((tq_wd_iff (tq_WLm 16 (by omega))).mpr c_50).symm))
      · skip
        refine mx_bip 34 d_Te_lawWordOf_39 (by decide) ?_
        exact mx_iret d_Te_lawWordOf_41 rfl (mx_ri_of (congrArg nI ((tq_wd_iff (tq_WLm 15 (by omega))).mpr c_36).symm))
    · skip
      refine mx_bip 33 d_Te_lawWordOf_25 (by decide) ?_
      exact mx_iret d_Te_lawWordOf_27 rfl (mx_ri_of (congrArg nI ((tq_wd_iff (tq_WLm 14 (by omega))).mpr c_22).symm))
  · skip
    refine mx_bip 32 d_Te_lawWordOf_11 (by decide) ?_
    exact mx_iret d_Te_lawWordOf_13 rfl (mx_ri_of (congrArg nI ((tq_wd_iff (tq_WLm 13 (by omega))).mpr c_8).symm))
theorem c_Te_wordOf (hTe : te_ok S P te) (hx : te_tx I te f L) (hae : a ≤ e) (heL : e ≤ L)  : mx_C l E M_Te_wordOf 6 0 0 [.ref (te), .int (nI (a)), .int (nI (e))] (t, S, I, P, J) (mx_ri (nI (tq_wd f a e)) (t, S, I, P, J)) := by
  obtain ⟨hT0, hT1, hT2, hT3, hT4, hT5, hT6, hT7, hT8, hT9, hT10⟩ := id hTe
  obtain ⟨hy0, hy1, hL⟩ := id hx
  refine mx_C_of (ls0 := [some (.ref (te)), some (.int (nI (a))), some (.int (nI (e)))]) (by decide +kernel) rfl rfl (Nat.le_of_ble_eq_true rfl) rfl ?_
  refine mx_al0 d_Te_wordOf_0 ?_
  refine mx_il1 d_Te_wordOf_1 ?_
  refine mx_il2 d_Te_wordOf_2 ?_
  refine mx_ldcS (i := 0) d_Te_wordOf_3 rfl rfl ?_
  refine mx_cV3i d_Te_wordOf_5 (c_Te_is hTe hx (i := 0) (by omega) (sx_wT 0 (by omega)) hae heL) ok_Te_is ml_Te_98 (by assumption) ⟨rfl, rfl⟩ (by decide) (Nat.le_of_ble_eq_true rfl) ?_
  refine mx_ifB_eq 14 d_Te_wordOf_8 (by decide) (fun c_8 => ?_) (fun c_8 => ?_)
  · skip
    refine mx_al0 d_Te_wordOf_14 ?_
    refine mx_il1 d_Te_wordOf_15 ?_
    refine mx_il2 d_Te_wordOf_16 ?_
    refine mx_ldcS (i := 1) d_Te_wordOf_17 rfl rfl ?_
    refine mx_cV3i d_Te_wordOf_19 (c_Te_is hTe hx (i := 1) (by omega) (sx_wT 1 (by omega)) hae heL) ok_Te_is ml_Te_98 (by assumption) ⟨rfl, rfl⟩ (by decide) (Nat.le_of_ble_eq_true rfl) ?_
    refine mx_ifB_eq 28 d_Te_wordOf_22 (by decide) (fun c_22 => ?_) (fun c_22 => ?_)
    · skip
      refine mx_al0 d_Te_wordOf_28 ?_
      refine mx_il1 d_Te_wordOf_29 ?_
      refine mx_il2 d_Te_wordOf_30 ?_
      refine mx_ldcS (i := 2) d_Te_wordOf_31 rfl rfl ?_
      refine mx_cV3i d_Te_wordOf_33 (c_Te_is hTe hx (i := 2) (by omega) (sx_wT 2 (by omega)) hae heL) ok_Te_is ml_Te_98 (by assumption) ⟨rfl, rfl⟩ (by decide) (Nat.le_of_ble_eq_true rfl) ?_
      refine mx_ifB_eq 42 d_Te_wordOf_36 (by decide) (fun c_36 => ?_) (fun c_36 => ?_)
      · skip
        refine mx_al0 d_Te_wordOf_42 ?_
        refine mx_il1 d_Te_wordOf_43 ?_
        refine mx_il2 d_Te_wordOf_44 ?_
        refine mx_ldcS (i := 3) d_Te_wordOf_45 rfl rfl ?_
        refine mx_cV3i d_Te_wordOf_47 (c_Te_is hTe hx (i := 3) (by omega) (sx_wT 3 (by omega)) hae heL) ok_Te_is ml_Te_98 (by assumption) ⟨rfl, rfl⟩ (by decide) (Nat.le_of_ble_eq_true rfl) ?_
        refine mx_ifB_eq 56 d_Te_wordOf_50 (by decide) (fun c_50 => ?_) (fun c_50 => ?_)
        · skip
          refine mx_al0 d_Te_wordOf_56 ?_
          refine mx_il1 d_Te_wordOf_57 ?_
          refine mx_il2 d_Te_wordOf_58 ?_
          refine mx_ldcS (i := 4) d_Te_wordOf_59 rfl rfl ?_
          refine mx_cV3i d_Te_wordOf_61 (c_Te_is hTe hx (i := 4) (by omega) (sx_wT 4 (by omega)) hae heL) ok_Te_is ml_Te_98 (by assumption) ⟨rfl, rfl⟩ (by decide) (Nat.le_of_ble_eq_true rfl) ?_
          refine mx_ifB_eq 70 d_Te_wordOf_64 (by decide) (fun c_64 => ?_) (fun c_64 => ?_)
          · skip
            refine mx_al0 d_Te_wordOf_70 ?_
            refine mx_il1 d_Te_wordOf_71 ?_
            refine mx_il2 d_Te_wordOf_72 ?_
            refine mx_ldcS (i := 5) d_Te_wordOf_73 rfl rfl ?_
            refine mx_cV3i d_Te_wordOf_75 (c_Te_is hTe hx (i := 5) (by omega) (sx_wT 5 (by omega)) hae heL) ok_Te_is ml_Te_98 (by assumption) ⟨rfl, rfl⟩ (by decide) (Nat.le_of_ble_eq_true rfl) ?_
            refine mx_ifB_eq 84 d_Te_wordOf_78 (by decide) (fun c_78 => ?_) (fun c_78 => ?_)
            · skip
              refine mx_al0 d_Te_wordOf_84 ?_
              refine mx_il1 d_Te_wordOf_85 ?_
              refine mx_il2 d_Te_wordOf_86 ?_
              refine mx_ldcS (i := 6) d_Te_wordOf_87 rfl rfl ?_
              refine mx_cV3i d_Te_wordOf_89 (c_Te_is hTe hx (i := 6) (by omega) (sx_wT 6 (by omega)) hae heL) ok_Te_is ml_Te_98 (by assumption) ⟨rfl, rfl⟩ (by decide) (Nat.le_of_ble_eq_true rfl) ?_
              refine mx_ifB_eq 98 d_Te_wordOf_92 (by decide) (fun c_92 => ?_) (fun c_92 => ?_)
              · skip
                refine mx_al0 d_Te_wordOf_98 ?_
                refine mx_il1 d_Te_wordOf_99 ?_
                refine mx_il2 d_Te_wordOf_100 ?_
                refine mx_ldcS (i := 7) d_Te_wordOf_101 rfl rfl ?_
                refine mx_cV3i d_Te_wordOf_103 (c_Te_is hTe hx (i := 7) (by omega) (sx_wT 7 (by omega)) hae heL) ok_Te_is ml_Te_98 (by assumption) ⟨rfl, rfl⟩ (by decide) (Nat.le_of_ble_eq_true rfl) ?_
                refine mx_ifB_eq 112 d_Te_wordOf_106 (by decide) (fun c_106 => ?_) (fun c_106 => ?_)
                · skip
                  refine mx_al0 d_Te_wordOf_112 ?_
                  refine mx_il1 d_Te_wordOf_113 ?_
                  refine mx_il2 d_Te_wordOf_114 ?_
                  refine mx_ldcS (i := 8) d_Te_wordOf_115 rfl rfl ?_
                  refine mx_cV3i d_Te_wordOf_117 (c_Te_is hTe hx (i := 8) (by omega) (sx_wT 8 (by omega)) hae heL) ok_Te_is ml_Te_98 (by assumption) ⟨rfl, rfl⟩ (by decide) (Nat.le_of_ble_eq_true rfl) ?_
                  refine mx_ifB_eq 126 d_Te_wordOf_120 (by decide) (fun c_120 => ?_) (fun c_120 => ?_)
                  · skip
                    refine mx_al0 d_Te_wordOf_126 ?_
                    refine mx_il1 d_Te_wordOf_127 ?_
                    refine mx_il2 d_Te_wordOf_128 ?_
                    refine mx_ldcS (i := 9) d_Te_wordOf_129 rfl rfl ?_
                    refine mx_cV3i d_Te_wordOf_131 (c_Te_is hTe hx (i := 9) (by omega) (sx_wT 9 (by omega)) hae heL) ok_Te_is ml_Te_98 (by assumption) ⟨rfl, rfl⟩ (by decide) (Nat.le_of_ble_eq_true rfl) ?_
                    refine mx_ifB_eq 140 d_Te_wordOf_134 (by decide) (fun c_134 => ?_) (fun c_134 => ?_)
                    · skip
                      refine mx_al0 d_Te_wordOf_140 ?_
                      refine mx_il1 d_Te_wordOf_141 ?_
                      refine mx_il2 d_Te_wordOf_142 ?_
                      refine mx_ldcS (i := 10) d_Te_wordOf_143 rfl rfl ?_
                      refine mx_cV3i d_Te_wordOf_145 (c_Te_is hTe hx (i := 10) (by omega) (sx_wT 10 (by omega)) hae heL) ok_Te_is ml_Te_98 (by assumption) ⟨rfl, rfl⟩ (by decide) (Nat.le_of_ble_eq_true rfl) ?_
                      refine mx_ifB_eq 154 d_Te_wordOf_148 (by decide) (fun c_148 => ?_) (fun c_148 => ?_)
                      · skip
                        refine mx_al0 d_Te_wordOf_154 ?_
                        refine mx_il1 d_Te_wordOf_155 ?_
                        refine mx_il2 d_Te_wordOf_156 ?_
                        refine mx_ldcS (i := 11) d_Te_wordOf_157 rfl rfl ?_
                        refine mx_cV3i d_Te_wordOf_159 (c_Te_is hTe hx (i := 11) (by omega) (sx_wT 11 (by omega)) hae heL) ok_Te_is ml_Te_98 (by assumption) ⟨rfl, rfl⟩ (by decide) (Nat.le_of_ble_eq_true rfl) ?_
                        refine mx_ifB_eq 168 d_Te_wordOf_162 (by decide) (fun c_162 => ?_) (fun c_162 => ?_)
                        · skip
                          refine mx_al0 d_Te_wordOf_168 ?_
                          refine mx_il1 d_Te_wordOf_169 ?_
                          refine mx_il2 d_Te_wordOf_170 ?_
                          refine mx_ldcS (i := 12) d_Te_wordOf_171 rfl rfl ?_
                          refine mx_cV3i d_Te_wordOf_173 (c_Te_is hTe hx (i := 12) (by omega) (sx_wT 12 (by omega)) hae heL) ok_Te_is ml_Te_98 (by assumption) ⟨rfl, rfl⟩ (by decide) (Nat.le_of_ble_eq_true rfl) ?_
                          refine mx_ifB_eq 182 d_Te_wordOf_176 (by decide) (fun c_176 => ?_) (fun c_176 => ?_)
                          · skip
                            refine mx_al0 d_Te_wordOf_182 ?_
                            refine mx_il1 d_Te_wordOf_183 ?_
                            refine mx_il2 d_Te_wordOf_184 ?_
                            have g1 : ∀ j, j < 1 → tq_w f a e (tq_WL.getD j ([], 0)).1 = false := vs_nextT (fun j hj => absurd hj (by omega) : ∀ j, j < 0 → tq_w f a e (tq_WL.getD j ([], 0)).1 = false) c_8
                            have g2 : ∀ j, j < 2 → tq_w f a e (tq_WL.getD j ([], 0)).1 = false := vs_nextT g1 c_22
                            have g3 : ∀ j, j < 3 → tq_w f a e (tq_WL.getD j ([], 0)).1 = false := vs_nextT g2 c_36
                            have g4 : ∀ j, j < 4 → tq_w f a e (tq_WL.getD j ([], 0)).1 = false := vs_nextT g3 c_50
                            have g5 : ∀ j, j < 5 → tq_w f a e (tq_WL.getD j ([], 0)).1 = false := vs_nextT g4 c_64
                            have g6 : ∀ j, j < 6 → tq_w f a e (tq_WL.getD j ([], 0)).1 = false := vs_nextT g5 c_78
                            have g7 : ∀ j, j < 7 → tq_w f a e (tq_WL.getD j ([], 0)).1 = false := vs_nextT g6 c_92
                            have g8 : ∀ j, j < 8 → tq_w f a e (tq_WL.getD j ([], 0)).1 = false := vs_nextT g7 c_106
                            have g9 : ∀ j, j < 9 → tq_w f a e (tq_WL.getD j ([], 0)).1 = false := vs_nextT g8 c_120
                            have g10 : ∀ j, j < 10 → tq_w f a e (tq_WL.getD j ([], 0)).1 = false := vs_nextT g9 c_134
                            have g11 : ∀ j, j < 11 → tq_w f a e (tq_WL.getD j ([], 0)).1 = false := vs_nextT g10 c_148
                            have g12 : ∀ j, j < 12 → tq_w f a e (tq_WL.getD j ([], 0)).1 = false := vs_nextT g11 c_162
                            have g13 : ∀ j, j < 13 → tq_w f a e (tq_WL.getD j ([], 0)).1 = false := vs_nextT g12 c_176
                            refine mx_cV2i d_Te_wordOf_185 (c_Te_lawWordOf hTe hx hae heL g13) ok_Te_lawWordOf ml_Te_126 (by assumption) ⟨rfl, rfl⟩ (by decide) (Nat.le_of_ble_eq_true rfl) ?_
                            exact mx_iret d_Te_wordOf_188 rfl (mx_ri_of rfl)
                          · skip
                            refine mx_bip 28 d_Te_wordOf_179 (by decide) ?_
                            exact mx_iret d_Te_wordOf_181 rfl (mx_ri_of (congrArg nI ((tq_wd_iff (tq_WLm 12 (by omega))).mpr c_176).symm))
                        · skip
                          refine mx_bip 27 d_Te_wordOf_165 (by decide) ?_
                          exact mx_iret d_Te_wordOf_167 rfl (mx_ri_of (congrArg nI ((tq_wd_iff (tq_WLm 11 (by omega))).mpr c_162).symm))
                      · skip
                        refine mx_bip 26 d_Te_wordOf_151 (by decide) ?_
                        exact mx_iret d_Te_wordOf_153 rfl (mx_ri_of (congrArg nI ((tq_wd_iff (tq_WLm 10 (by omega))).mpr c_148).symm))
                    · skip
                      refine mx_bip 25 d_Te_wordOf_137 (by decide) ?_
                      exact mx_iret d_Te_wordOf_139 rfl (mx_ri_of (congrArg nI ((tq_wd_iff (tq_WLm 9 (by omega))).mpr c_134).symm))
                  · skip
                    refine mx_bip 24 d_Te_wordOf_123 (by decide) ?_
                    exact mx_iret d_Te_wordOf_125 rfl (mx_ri_of (congrArg nI ((tq_wd_iff (tq_WLm 8 (by omega))).mpr c_120).symm))
                · skip
                  refine mx_bip 23 d_Te_wordOf_109 (by decide) ?_
                  exact mx_iret d_Te_wordOf_111 rfl (mx_ri_of (congrArg nI ((tq_wd_iff (tq_WLm 7 (by omega))).mpr c_106).symm))
              · skip
                refine mx_bip 22 d_Te_wordOf_95 (by decide) ?_
                exact mx_iret d_Te_wordOf_97 rfl (mx_ri_of (congrArg nI ((tq_wd_iff (tq_WLm 6 (by omega))).mpr c_92).symm))
            · skip
              refine mx_bip 19 d_Te_wordOf_81 (by decide) ?_
              exact mx_iret d_Te_wordOf_83 rfl (mx_ri_of (congrArg nI ((tq_wd_iff (tq_WLm 5 (by omega))).mpr c_78).symm))
          · skip
            refine mx_bip 21 d_Te_wordOf_67 (by decide) ?_
            exact mx_iret d_Te_wordOf_69 rfl (mx_ri_of (congrArg nI ((tq_wd_iff (tq_WLm 4 (by omega))).mpr c_64).symm))
        · skip
          refine mx_bip 20 d_Te_wordOf_53 (by decide) ?_
          exact mx_iret d_Te_wordOf_55 rfl (mx_ri_of (congrArg nI ((tq_wd_iff (tq_WLm 3 (by omega))).mpr c_50).symm))
      · skip
        refine mx_bip 16 d_Te_wordOf_39 (by decide) ?_
        exact mx_iret d_Te_wordOf_41 rfl (mx_ri_of (congrArg nI ((tq_wd_iff (tq_WLm 2 (by omega))).mpr c_36).symm))
    · skip
      refine mx_bip 11 d_Te_wordOf_25 (by decide) ?_
      exact mx_iret d_Te_wordOf_27 rfl (mx_ri_of (congrArg nI ((tq_wd_iff (tq_WLm 1 (by omega))).mpr c_22).symm))
  · skip
    refine mx_bip 10 d_Te_wordOf_11 (by decide) ?_
    exact mx_iret d_Te_wordOf_13 rfl (mx_ri_of (congrArg nI ((tq_wd_iff (tq_WLm 0 (by omega))).mpr c_8).symm))
theorem te_tx.of {K : mx_I} (h : te_tx I te f L) (h1 : K (te + 1) = I (te + 1)) (h2 : K te 1 = I te 1) : te_tx K te f L := ⟨fun k hk => by rw [h1]; exact h.1 k hk, by rw [h2]; exact h.2.1, h.2.2⟩
def tk_w (I : mx_I) (te n a e k : Nat) (v : Int32) : mx_I := mx_up (mx_up (mx_up (mx_up (mx_up I (te + 3) n (nI a)) (te + 4) n (nI (e - a))) (te + 2) n (nI k)) (te + 5) n v) te 7 (nI (n + 1))
def tk_z (I : mx_I) (te n L : Nat) : mx_I := mx_up (mx_up (mx_up (mx_up (mx_up I (te + 2) n (nI 0)) (te + 3) n (nI L)) (te + 4) n (nI 0)) (te + 5) n (-1)) te 7 (nI (n + 1))
theorem tq_en_l (h : tq_l (f a) = true) : (if tq_l (f a) = true then tq_lz f L a else tq_fe f L a) = tq_en f L a := by unfold tq_en; rw [if_pos h, if_pos h]
theorem tq_en_f (h1 : tq_l (f a) = false) (h : tq_f (f a) = true) : (if tq_l (f a) = true then tq_lz f L a else tq_fe f L a) = tq_en f L a := by unfold tq_en; rw [if_neg (by rw [h1]; simp), if_neg (by rw [h1]; simp), if_pos h]
theorem tq_en_s (h1 : tq_l (f a) = false) (h : tq_f (f a) = false) : a + 1 = tq_en f L a := by unfold tq_en; rw [if_neg (by rw [h1]; simp), if_neg (by rw [h]; simp)]
theorem tq_lets (h : tq_l (f a) = true) : ∀ j, a ≤ j → j < tq_en f L a → tq_l (f j) = true := fun j h1 h2 => by
  unfold tq_en at h2
  rw [if_pos h] at h2
  exact tq_in (p := fun q => tq_l (f q)) h1 h2
theorem tq_figs (h1 : tq_l (f a) = false) (h : tq_f (f a) = true) : ∀ j, a ≤ j → j < tq_en f L a → tq_f (f j) = true := fun j h2 h3 => by
  unfold tq_en at h3
  rw [if_neg (by rw [h1]; simp), if_pos h] at h3
  exact tq_in (p := fun q => tq_f (f q)) h2 h3
theorem tq_k_l (ha : a < L) (h : tq_l (f a) = true) : tq_k f L a = tq_wd f a (tq_en f L a) ∧ tq_v f L a = tq_ms f a (tq_en f L a - a) := by unfold tq_k tq_v; rw [if_pos ha, if_pos ha, if_pos h, if_pos h]; exact ⟨rfl, rfl⟩
theorem tq_k_f (ha : a < L) (h1 : tq_l (f a) = false) (h : tq_f (f a) = true) : tq_k f L a = 2 ∧ tq_mv (tq_v f L a) = if tq_en f L a - a ≤ 3 then nI (tq_nm f a (tq_en f L a - a)) else -1 := by
  unfold tq_k tq_v
  simp only [if_pos ha, h1, h, Bool.false_eq_true, if_false, if_true, true_and]
  by_cases c : tq_en f L a - a ≤ 3
  · rw [if_pos c, if_pos c]; rfl
  · rw [if_neg c, if_neg c]; rfl
theorem tq_k_s (ha : a < L) (h1 : tq_l (f a) = false) (h : tq_f (f a) = false) : tq_k f L a = tq_sg (f a) ∧ tq_v f L a = none := by
  unfold tq_k tq_v
  simp only [if_pos ha, h1, h, Bool.false_eq_true, if_false, false_and, and_self]
theorem c_Te_addToken (hTe : te_ok S P te) (hx : te_tx I te f L) (ha : a < L) (hn : I te 7 = nI n) (hn4 : n < 400)  : mx_C l E M_Te_addToken 7 0 0 [.ref (te), .int (nI (a)), .int (nI (f a))] (t, S, I, P, J) (mx_rv (t, S, tk_w I te n a (tq_en f L a) (tq_k f L a) (tq_mv (tq_v f L a)), P, J)) := by
  obtain ⟨hT0, hT1, hT2, hT3, hT4, hT5, hT6, hT7, hT8, hT9, hT10⟩ := id hTe
  obtain ⟨hy0, hy1, hL⟩ := id hx
  have hae : a ≤ tq_en f L a := Nat.le_of_lt (tq_en_gt ha).1
  have heL := (tq_en_gt (f := f) ha).2
  have hfa := (hy0 a (by omega)).1
  refine mx_C_of (ls0 := [some (.ref (te)), some (.int (nI (a))), some (.int (nI (f a))), none, none]) (by decide +kernel) rfl rfl (Nat.le_of_ble_eq_true rfl) rfl ?_
  refine mx_il2 d_Te_addToken_0 ?_
  refine mx_cS1i d_Te_addToken_1 (c_Te_isLetter (c := f a) (by omega)) ok_Te_isLetter ml_Te_45 (by decide) (Nat.le_of_ble_eq_true rfl) ?_
  refine mx_ifB_ne 14 d_Te_addToken_4 (by decide) (fun c_4 => ?_) (fun c_4 => ?_)
  · skip
    have c_1 := c_4
    refine mx_in_1 d_Te_addToken_14 ?_
    refine mx_goto 19 d_Te_addToken_15 (by decide) ?_
    refine mx_is3 d_Te_addToken_19 ?_
    refine mx_il3 d_Te_addToken_20 ?_
    refine mx_if_eq 36 d_Te_addToken_21 (by decide) (fun c_21 => absurd c_21 (by decide)) (fun c_21 => ?_)
    refine mx_al0 d_Te_addToken_24 ?_
    refine mx_il1 d_Te_addToken_25 ?_
    refine mx_il2 d_Te_addToken_26 ?_
    refine mx_cS1i d_Te_addToken_27 (c_Te_isLetter (c := f a) (by omega)) ok_Te_isLetter ml_Te_45 (by decide) (Nat.le_of_ble_eq_true rfl) ?_
    refine mx_cV2i d_Te_addToken_30 (c_Te_behindOf hTe hx (by omega)) ok_Te_behindOf ml_Te_65 (by assumption) ⟨rfl, rfl⟩ (by decide) (Nat.le_of_ble_eq_true rfl) ?_
    refine mx_ti (y := nI (tq_en f L a)) (congrArg nI (by first | exact tq_en_l c_1 | exact tq_en_f c_1 c_2)) ?_
    refine mx_goto 39 d_Te_addToken_33 (by decide) ?_
    refine mx_ti (y := nI (tq_en f L a)) (rfl) ?_
    refine mx_is4 d_Te_addToken_39 ?_
    refine mx_al0 d_Te_addToken_41 ?_
    refine mx_getR d_Te_addToken_42 fl_Te_25 (by assumption) (by assumption) ?_
    refine mx_al0 d_Te_addToken_45 ?_
    refine mx_getI d_Te_addToken_46 fl_Te_38 (by assumption) ?_
    refine mx_ti (y := nI (n)) (hn) ?_
    refine mx_il1 d_Te_addToken_49 ?_
    refine mx_cSN3v d_Te_addToken_50 (c_put (k := n) (by assumption) (by omega) (by omega)) ok_Vh_put ml_Te_34 (by decide) (Nat.le_of_ble_eq_true rfl) ?_
    refine mx_al0 d_Te_addToken_53 ?_
    refine mx_getR d_Te_addToken_54 fl_Te_28 (by assumption) (by assumption) ?_
    refine mx_al0 d_Te_addToken_57 ?_
    refine mx_getI d_Te_addToken_58 fl_Te_38 (by assumption) ?_
    refine mx_ti (y := nI (n)) ((by simp [mx_up, hn])) ?_
    refine mx_il4 d_Te_addToken_61 ?_
    refine mx_il1 d_Te_addToken_63 ?_
    refine mx_isubN d_Te_addToken_64 (by omega) ?_
    refine mx_cSN3v d_Te_addToken_65 (c_put (k := n) (by assumption) (by omega) (by omega)) ok_Vh_put ml_Te_34 (by decide) (Nat.le_of_ble_eq_true rfl) ?_
    refine mx_il2 d_Te_addToken_68 ?_
    refine mx_cS1i d_Te_addToken_69 (c_Te_isLetter (c := f a) (by omega)) ok_Te_isLetter ml_Te_45 (by decide) (Nat.le_of_ble_eq_true rfl) ?_
    refine mx_ifB_eq 114 d_Te_addToken_72 (by decide) (fun c_72 => absurd c_72 (by rw [c_1]; decide)) (fun c_72 => ?_)
    refine mx_al0 d_Te_addToken_75 ?_
    refine mx_getR d_Te_addToken_76 fl_Te_22 (by assumption) (by assumption) ?_
    refine mx_al0 d_Te_addToken_79 ?_
    refine mx_getI d_Te_addToken_80 fl_Te_38 (by assumption) ?_
    refine mx_ti (y := nI (n)) ((by simp [mx_up, hn])) ?_
    refine mx_al0 d_Te_addToken_83 ?_
    refine mx_il1 d_Te_addToken_84 ?_
    refine mx_il4 d_Te_addToken_85 ?_
    refine mx_cV2i d_Te_addToken_87 (c_Te_wordOf hTe (hx.of (by funext z9; simp [mx_up]) (by simp [mx_up])) hae heL) ok_Te_wordOf ml_Te_69 (by assumption) ⟨rfl, rfl⟩ (by decide) (Nat.le_of_ble_eq_true rfl) ?_
    refine mx_cSN3v d_Te_addToken_90 (c_put (k := n) (by assumption) (by omega) (by omega)) ok_Vh_put ml_Te_34 (by decide) (Nat.le_of_ble_eq_true rfl) ?_
    refine mx_al0 d_Te_addToken_93 ?_
    refine mx_getR d_Te_addToken_94 fl_Te_31 (by assumption) (by assumption) ?_
    refine mx_al0 d_Te_addToken_97 ?_
    refine mx_getI d_Te_addToken_98 fl_Te_38 (by assumption) ?_
    refine mx_ti (y := nI (n)) ((by simp [mx_up, hn])) ?_
    refine mx_al0 d_Te_addToken_101 ?_
    refine mx_il1 d_Te_addToken_102 ?_
    refine mx_il4 d_Te_addToken_103 ?_
    refine mx_cV2i d_Te_addToken_105 (c_Te_markSet hTe (hx.of (by funext z9; simp [mx_up]) (by simp [mx_up])) hae heL (tq_lets c_1)) ok_Te_markSet ml_Te_73 (by assumption) ⟨rfl, rfl⟩ (by decide) (Nat.le_of_ble_eq_true rfl) ?_
    refine mx_cSN3v d_Te_addToken_108 (c_put (k := n) (by assumption) (by omega) (by omega)) ok_Vh_put ml_Te_34 (by decide) (Nat.le_of_ble_eq_true rfl) ?_
    refine mx_goto 181 d_Te_addToken_111 (by decide) ?_
    refine mx_al0 d_Te_addToken_181 ?_
    refine mx_dup d_Te_addToken_182 rfl ?_
    refine mx_getI d_Te_addToken_183 fl_Te_38 (by assumption) ?_
    refine mx_ti (y := nI (n)) ((by simp [mx_up, hn])) ?_
    refine mx_in_1 d_Te_addToken_186 ?_
    refine mx_iaddN d_Te_addToken_187 ?_
    refine mx_putI d_Te_addToken_188 fl_Te_38 (by assumption) ?_
    exact mx_vret d_Te_addToken_191 rfl (mx_rv_of (by first | (rw [(tq_k_l ha c_1).1, (tq_k_l ha c_1).2]; rfl) | (rw [(tq_k_f ha c_1 c_2).1, (tq_k_f ha c_1 c_2).2]; rfl) | (rw [(tq_k_s ha c_1 c_2).1, (tq_k_s ha c_1 c_2).2]; rfl)))
  · skip
    have c_1 := c_4
    refine mx_il2 d_Te_addToken_7 ?_
    refine mx_cS1i d_Te_addToken_8 (c_Te_isFigure (c := f a) (by omega)) ok_Te_isFigure ml_Te_49 (by decide) (Nat.le_of_ble_eq_true rfl) ?_
    refine mx_ifB_eq 18 d_Te_addToken_11 (by decide) (fun c_11 => ?_) (fun c_11 => ?_)
    · skip
      have c_2 := c_11
      refine mx_in_0 d_Te_addToken_18 ?_
      refine mx_is3 d_Te_addToken_19 ?_
      refine mx_il3 d_Te_addToken_20 ?_
      refine mx_if_eq 36 d_Te_addToken_21 (by decide) (fun c_21 => ?_) (fun c_21 => absurd (by decide) c_21)
      refine mx_il1 d_Te_addToken_36 ?_
      refine mx_in_1 d_Te_addToken_37 ?_
      refine mx_iaddN d_Te_addToken_38 ?_
      refine mx_ti (y := nI (tq_en f L a)) (congrArg nI (tq_en_s c_1 c_2)) ?_
      refine mx_is4 d_Te_addToken_39 ?_
      refine mx_al0 d_Te_addToken_41 ?_
      refine mx_getR d_Te_addToken_42 fl_Te_25 (by assumption) (by assumption) ?_
      refine mx_al0 d_Te_addToken_45 ?_
      refine mx_getI d_Te_addToken_46 fl_Te_38 (by assumption) ?_
      refine mx_ti (y := nI (n)) (hn) ?_
      refine mx_il1 d_Te_addToken_49 ?_
      refine mx_cSN3v d_Te_addToken_50 (c_put (k := n) (by assumption) (by omega) (by omega)) ok_Vh_put ml_Te_34 (by decide) (Nat.le_of_ble_eq_true rfl) ?_
      refine mx_al0 d_Te_addToken_53 ?_
      refine mx_getR d_Te_addToken_54 fl_Te_28 (by assumption) (by assumption) ?_
      refine mx_al0 d_Te_addToken_57 ?_
      refine mx_getI d_Te_addToken_58 fl_Te_38 (by assumption) ?_
      refine mx_ti (y := nI (n)) ((by simp [mx_up, hn])) ?_
      refine mx_il4 d_Te_addToken_61 ?_
      refine mx_il1 d_Te_addToken_63 ?_
      refine mx_isubN d_Te_addToken_64 (by omega) ?_
      refine mx_cSN3v d_Te_addToken_65 (c_put (k := n) (by assumption) (by omega) (by omega)) ok_Vh_put ml_Te_34 (by decide) (Nat.le_of_ble_eq_true rfl) ?_
      refine mx_il2 d_Te_addToken_68 ?_
      refine mx_cS1i d_Te_addToken_69 (c_Te_isLetter (c := f a) (by omega)) ok_Te_isLetter ml_Te_45 (by decide) (Nat.le_of_ble_eq_true rfl) ?_
      refine mx_ifB_eq 114 d_Te_addToken_72 (by decide) (fun c_72 => ?_) (fun c_72 => absurd c_72 (by rw [c_1]; decide))
      refine mx_il2 d_Te_addToken_114 ?_
      refine mx_cS1i d_Te_addToken_115 (c_Te_isFigure (c := f a) (by omega)) ok_Te_isFigure ml_Te_49 (by decide) (Nat.le_of_ble_eq_true rfl) ?_
      refine mx_ifB_eq 154 d_Te_addToken_118 (by decide) (fun c_118 => ?_) (fun c_118 => absurd c_118 (by rw [c_2]; decide))
      refine mx_al0 d_Te_addToken_154 ?_
      refine mx_getR d_Te_addToken_155 fl_Te_22 (by assumption) (by assumption) ?_
      refine mx_al0 d_Te_addToken_158 ?_
      refine mx_getI d_Te_addToken_159 fl_Te_38 (by assumption) ?_
      refine mx_ti (y := nI (n)) ((by simp [mx_up, hn])) ?_
      refine mx_il2 d_Te_addToken_162 ?_
      refine mx_cS1i d_Te_addToken_163 (c_Te_signOf (by omega)) ok_Te_signOf ml_Te_79 (by decide) (Nat.le_of_ble_eq_true rfl) ?_
      refine mx_cSN3v d_Te_addToken_166 (c_put (k := n) (by assumption) (by omega) (by omega)) ok_Vh_put ml_Te_34 (by decide) (Nat.le_of_ble_eq_true rfl) ?_
      refine mx_al0 d_Te_addToken_169 ?_
      refine mx_getR d_Te_addToken_170 fl_Te_31 (by assumption) (by assumption) ?_
      refine mx_al0 d_Te_addToken_173 ?_
      refine mx_getI d_Te_addToken_174 fl_Te_38 (by assumption) ?_
      refine mx_ti (y := nI (n)) ((by simp [mx_up, hn])) ?_
      refine mx_ic_m1 d_Te_addToken_177 ?_
      refine mx_cSN3v d_Te_addToken_178 (c_put (k := n) (by assumption) (by omega) (by omega)) ok_Vh_put ml_Te_34 (by decide) (Nat.le_of_ble_eq_true rfl) ?_
      refine mx_al0 d_Te_addToken_181 ?_
      refine mx_dup d_Te_addToken_182 rfl ?_
      refine mx_getI d_Te_addToken_183 fl_Te_38 (by assumption) ?_
      refine mx_ti (y := nI (n)) ((by simp [mx_up, hn])) ?_
      refine mx_in_1 d_Te_addToken_186 ?_
      refine mx_iaddN d_Te_addToken_187 ?_
      refine mx_putI d_Te_addToken_188 fl_Te_38 (by assumption) ?_
      exact mx_vret d_Te_addToken_191 rfl (mx_rv_of (by first | (rw [(tq_k_l ha c_1).1, (tq_k_l ha c_1).2]; rfl) | (rw [(tq_k_f ha c_1 c_2).1, (tq_k_f ha c_1 c_2).2]; rfl) | (rw [(tq_k_s ha c_1 c_2).1, (tq_k_s ha c_1 c_2).2]; rfl)))
    · skip
      have c_2 := c_11
      refine mx_in_1 d_Te_addToken_14 ?_
      refine mx_goto 19 d_Te_addToken_15 (by decide) ?_
      refine mx_is3 d_Te_addToken_19 ?_
      refine mx_il3 d_Te_addToken_20 ?_
      refine mx_if_eq 36 d_Te_addToken_21 (by decide) (fun c_21 => absurd c_21 (by decide)) (fun c_21 => ?_)
      refine mx_al0 d_Te_addToken_24 ?_
      refine mx_il1 d_Te_addToken_25 ?_
      refine mx_il2 d_Te_addToken_26 ?_
      refine mx_cS1i d_Te_addToken_27 (c_Te_isLetter (c := f a) (by omega)) ok_Te_isLetter ml_Te_45 (by decide) (Nat.le_of_ble_eq_true rfl) ?_
      refine mx_cV2i d_Te_addToken_30 (c_Te_behindOf hTe hx (by omega)) ok_Te_behindOf ml_Te_65 (by assumption) ⟨rfl, rfl⟩ (by decide) (Nat.le_of_ble_eq_true rfl) ?_
      refine mx_ti (y := nI (tq_en f L a)) (congrArg nI (by first | exact tq_en_l c_1 | exact tq_en_f c_1 c_2)) ?_
      refine mx_goto 39 d_Te_addToken_33 (by decide) ?_
      refine mx_ti (y := nI (tq_en f L a)) (rfl) ?_
      refine mx_is4 d_Te_addToken_39 ?_
      refine mx_al0 d_Te_addToken_41 ?_
      refine mx_getR d_Te_addToken_42 fl_Te_25 (by assumption) (by assumption) ?_
      refine mx_al0 d_Te_addToken_45 ?_
      refine mx_getI d_Te_addToken_46 fl_Te_38 (by assumption) ?_
      refine mx_ti (y := nI (n)) (hn) ?_
      refine mx_il1 d_Te_addToken_49 ?_
      refine mx_cSN3v d_Te_addToken_50 (c_put (k := n) (by assumption) (by omega) (by omega)) ok_Vh_put ml_Te_34 (by decide) (Nat.le_of_ble_eq_true rfl) ?_
      refine mx_al0 d_Te_addToken_53 ?_
      refine mx_getR d_Te_addToken_54 fl_Te_28 (by assumption) (by assumption) ?_
      refine mx_al0 d_Te_addToken_57 ?_
      refine mx_getI d_Te_addToken_58 fl_Te_38 (by assumption) ?_
      refine mx_ti (y := nI (n)) ((by simp [mx_up, hn])) ?_
      refine mx_il4 d_Te_addToken_61 ?_
      refine mx_il1 d_Te_addToken_63 ?_
      refine mx_isubN d_Te_addToken_64 (by omega) ?_
      refine mx_cSN3v d_Te_addToken_65 (c_put (k := n) (by assumption) (by omega) (by omega)) ok_Vh_put ml_Te_34 (by decide) (Nat.le_of_ble_eq_true rfl) ?_
      refine mx_il2 d_Te_addToken_68 ?_
      refine mx_cS1i d_Te_addToken_69 (c_Te_isLetter (c := f a) (by omega)) ok_Te_isLetter ml_Te_45 (by decide) (Nat.le_of_ble_eq_true rfl) ?_
      refine mx_ifB_eq 114 d_Te_addToken_72 (by decide) (fun c_72 => ?_) (fun c_72 => absurd c_72 (by rw [c_1]; decide))
      refine mx_il2 d_Te_addToken_114 ?_
      refine mx_cS1i d_Te_addToken_115 (c_Te_isFigure (c := f a) (by omega)) ok_Te_isFigure ml_Te_49 (by decide) (Nat.le_of_ble_eq_true rfl) ?_
      refine mx_ifB_eq 154 d_Te_addToken_118 (by decide) (fun c_118 => absurd c_118 (by rw [c_2]; decide)) (fun c_118 => ?_)
      refine mx_al0 d_Te_addToken_121 ?_
      refine mx_getR d_Te_addToken_122 fl_Te_22 (by assumption) (by assumption) ?_
      refine mx_al0 d_Te_addToken_125 ?_
      refine mx_getI d_Te_addToken_126 fl_Te_38 (by assumption) ?_
      refine mx_ti (y := nI (n)) ((by simp [mx_up, hn])) ?_
      refine mx_in_2 d_Te_addToken_129 ?_
      refine mx_cSN3v d_Te_addToken_130 (c_put (k := n) (by assumption) (by omega) (by omega)) ok_Vh_put ml_Te_34 (by decide) (Nat.le_of_ble_eq_true rfl) ?_
      refine mx_al0 d_Te_addToken_133 ?_
      refine mx_getR d_Te_addToken_134 fl_Te_31 (by assumption) (by assumption) ?_
      refine mx_al0 d_Te_addToken_137 ?_
      refine mx_getI d_Te_addToken_138 fl_Te_38 (by assumption) ?_
      refine mx_ti (y := nI (n)) ((by simp [mx_up, hn])) ?_
      refine mx_al0 d_Te_addToken_141 ?_
      refine mx_il1 d_Te_addToken_142 ?_
      refine mx_il4 d_Te_addToken_143 ?_
      refine mx_cV2i d_Te_addToken_145 (c_Te_numberOf hTe (hx.of (by funext z9; simp [mx_up]) (by simp [mx_up])) hae heL (tq_figs c_1 c_2)) ok_Te_numberOf ml_Te_76 (by assumption) ⟨rfl, rfl⟩ (by decide) (Nat.le_of_ble_eq_true rfl) ?_
      refine mx_cSN3v d_Te_addToken_148 (c_put (k := n) (by assumption) (by omega) (by omega)) ok_Vh_put ml_Te_34 (by decide) (Nat.le_of_ble_eq_true rfl) ?_
      refine mx_goto 181 d_Te_addToken_151 (by decide) ?_
      refine mx_al0 d_Te_addToken_181 ?_
      refine mx_dup d_Te_addToken_182 rfl ?_
      refine mx_getI d_Te_addToken_183 fl_Te_38 (by assumption) ?_
      refine mx_ti (y := nI (n)) ((by simp [mx_up, hn])) ?_
      refine mx_in_1 d_Te_addToken_186 ?_
      refine mx_iaddN d_Te_addToken_187 ?_
      refine mx_putI d_Te_addToken_188 fl_Te_38 (by assumption) ?_
      exact mx_vret d_Te_addToken_191 rfl (mx_rv_of (by first | (rw [(tq_k_l ha c_1).1, (tq_k_l ha c_1).2]; rfl) | (rw [(tq_k_f ha c_1 c_2).1, (tq_k_f ha c_1 c_2).2]; rfl) | (rw [(tq_k_s ha c_1 c_2).1, (tq_k_s ha c_1 c_2).2]; rfl)))
theorem c_Te_addEnd (hTe : te_ok S P te) (hx : te_tx I te f L) (hn : I te 7 = nI n) (hn4 : n ≤ 400)  : mx_C l E M_Te_addEnd 1 0 0 [.ref (te)] (t, S, I, P, J) (mx_rv (t, S, tk_z I te n L, P, J)) := by
  obtain ⟨hT0, hT1, hT2, hT3, hT4, hT5, hT6, hT7, hT8, hT9, hT10⟩ := id hTe
  obtain ⟨hy0, hy1, hL⟩ := id hx
  refine mx_C_of (ls0 := [some (.ref (te))]) (by decide +kernel) rfl rfl (Nat.le_of_ble_eq_true rfl) rfl ?_
  refine mx_al0 d_Te_addEnd_0 ?_
  refine mx_getR d_Te_addEnd_1 fl_Te_22 (by assumption) (by assumption) ?_
  refine mx_al0 d_Te_addEnd_4 ?_
  refine mx_getI d_Te_addEnd_5 fl_Te_38 (by assumption) ?_
  refine mx_ti (y := nI (n)) (hn) ?_
  refine mx_in_0 d_Te_addEnd_8 ?_
  refine mx_cSN3v d_Te_addEnd_9 (c_put (k := n) (by assumption) (by omega) (by omega)) ok_Vh_put ml_Te_34 (by decide) (Nat.le_of_ble_eq_true rfl) ?_
  refine mx_al0 d_Te_addEnd_12 ?_
  refine mx_getR d_Te_addEnd_13 fl_Te_25 (by assumption) (by assumption) ?_
  refine mx_al0 d_Te_addEnd_16 ?_
  refine mx_getI d_Te_addEnd_17 fl_Te_38 (by assumption) ?_
  refine mx_ti (y := nI (n)) ((by simp [mx_up, hn])) ?_
  refine mx_al0 d_Te_addEnd_20 ?_
  refine mx_getI d_Te_addEnd_21 fl_Te_15 (by assumption) ?_
  refine mx_ti (y := nI (L)) ((by simp [mx_up, hy1])) ?_
  refine mx_cSN3v d_Te_addEnd_24 (c_put (k := n) (by assumption) (by omega) (by omega)) ok_Vh_put ml_Te_34 (by decide) (Nat.le_of_ble_eq_true rfl) ?_
  refine mx_al0 d_Te_addEnd_27 ?_
  refine mx_getR d_Te_addEnd_28 fl_Te_28 (by assumption) (by assumption) ?_
  refine mx_al0 d_Te_addEnd_31 ?_
  refine mx_getI d_Te_addEnd_32 fl_Te_38 (by assumption) ?_
  refine mx_ti (y := nI (n)) ((by simp [mx_up, hn])) ?_
  refine mx_in_0 d_Te_addEnd_35 ?_
  refine mx_cSN3v d_Te_addEnd_36 (c_put (k := n) (by assumption) (by omega) (by omega)) ok_Vh_put ml_Te_34 (by decide) (Nat.le_of_ble_eq_true rfl) ?_
  refine mx_al0 d_Te_addEnd_39 ?_
  refine mx_getR d_Te_addEnd_40 fl_Te_31 (by assumption) (by assumption) ?_
  refine mx_al0 d_Te_addEnd_43 ?_
  refine mx_getI d_Te_addEnd_44 fl_Te_38 (by assumption) ?_
  refine mx_ti (y := nI (n)) ((by simp [mx_up, hn])) ?_
  refine mx_ic_m1 d_Te_addEnd_47 ?_
  refine mx_cSN3v d_Te_addEnd_48 (c_put (k := n) (by assumption) (by omega) (by omega)) ok_Vh_put ml_Te_34 (by decide) (Nat.le_of_ble_eq_true rfl) ?_
  refine mx_al0 d_Te_addEnd_51 ?_
  refine mx_dup d_Te_addEnd_52 rfl ?_
  refine mx_getI d_Te_addEnd_53 fl_Te_38 (by assumption) ?_
  refine mx_ti (y := nI (n)) ((by simp [mx_up, hn])) ?_
  refine mx_in_1 d_Te_addEnd_56 ?_
  refine mx_iaddN d_Te_addEnd_57 ?_
  refine mx_putI d_Te_addEnd_58 fl_Te_38 (by assumption) ?_
  exact mx_vret d_Te_addEnd_61 rfl (mx_rv_of rfl)
def tq_sz (f : Nat → Nat) (L a : Nat) : Nat := if a < L then tq_en f L a - a else 0
/-- the first n tokens stand in their rows -/
def tk_rows (K : mx_I) (te : Nat) (f : Nat → Nat) (L n : Nat) : Prop := ∀ j, j < n → K (te + 2) j = nI (tq_k f L (tq_b f L j)) ∧ K (te + 3) j = nI (tq_b f L j) ∧ K (te + 4) j = nI (tq_sz f L (tq_b f L j)) ∧ K (te + 5) j = tq_mv (tq_v f L (tq_b f L j))
def te_off (I K : mx_I) (te : Nat) : Prop := (∀ c, c ≠ te → c ≠ te + 2 → c ≠ te + 3 → c ≠ te + 4 → c ≠ te + 5 → K c = I c) ∧ ∀ k, k ≠ 2 → k ≠ 7 → k ≠ 8 → k ≠ 9 → K te k = I te k
theorem te_off.tx {K : mx_I} (h : te_off I K te) (hx : te_tx I te f L) : te_tx K te f L := hx.of (h.1 _ (by omega) (by omega) (by omega) (by omega) (by omega)) (h.2 1 (by omega) (by omega) (by omega) (by omega))
/-- one token more -/
theorem tk_rows.ww {K : mx_I} {v : Int32} (h : tk_rows K te f L n) (hb : tq_b f L n = a) (ha : a < L) (hv : v = tq_mv (tq_v f L a)) : tk_rows (tk_w K te n a (tq_en f L a) (tq_k f L a) v) te f L (n + 1) := by
  intro j hj
  by_cases e : j = n
  · subst e
    rw [hb, hv]
    unfold tk_w tq_sz
    rw [if_pos ha]
    refine ⟨?_, ?_, ?_, ?_⟩ <;> simp [mx_up]
  · obtain ⟨q1, q2, q3, q4⟩ := h j (by omega)
    rw [← q1, ← q2, ← q3, ← q4]
    unfold tk_w
    refine ⟨?_, ?_, ?_, ?_⟩ <;> simp [mx_up, e]
theorem tk_rows.z {K : mx_I} (h : tk_rows K te f L n) (hb : tq_b f L n = L) : tk_rows (tk_z K te n L) te f L (n + 1) := by
  intro j hj
  by_cases e : j = n
  · subst e
    rw [hb]
    unfold tk_z tq_sz tq_v
    rw [if_neg (by omega), if_neg (by omega), (tq_k0 (Nat.le_refl L)).mpr rfl]
    refine ⟨?_, ?_, ?_, ?_⟩ <;> simp [mx_up, tq_mv]
  · obtain ⟨q1, q2, q3, q4⟩ := h j (by omega)
    rw [← q1, ← q2, ← q3, ← q4]
    unfold tk_z
    refine ⟨?_, ?_, ?_, ?_⟩ <;> simp [mx_up, e]
theorem te_off.ww {K : mx_I} {k : Nat} {v : Int32} (h : te_off I K te) : te_off I (tk_w K te n a e k v) te := by
  refine ⟨fun c h0 h2 h3 h4 h5 => ?_, fun j j2 j7 j8 j9 => ?_⟩
  · rw [← h.1 c h0 h2 h3 h4 h5]; unfold tk_w; funext q; simp [mx_up, h0, h2, h3, h4, h5]
  · rw [← h.2 j j2 j7 j8 j9]; unfold tk_w; simp [mx_up, j7]
theorem te_off.z {K : mx_I} (h : te_off I K te) : te_off I (tk_z K te n L) te := by
  refine ⟨fun c h0 h2 h3 h4 h5 => ?_, fun j j2 j7 j8 j9 => ?_⟩
  · rw [← h.1 c h0 h2 h3 h4 h5]; unfold tk_z; funext q; simp [mx_up, h0, h2, h3, h4, h5]
  · rw [← h.2 j j2 j7 j8 j9]; unfold tk_z; simp [mx_up, j7]
theorem te_off.u {K : mx_I} {k : Nat} {v : Int32} (h : te_off I K te) (hk : k = 2 ∨ k = 7 ∨ k = 8 ∨ k = 9) : te_off I (mx_up K te k v) te :=
  ⟨fun c h0 h2 h3 h4 h5 => by rw [← h.1 c h0 h2 h3 h4 h5]; funext q; simp [mx_up, h0], fun j j2 j7 j8 j9 => by rw [← h.2 j j2 j7 j8 j9]; simp [mx_up, show j ≠ k by omega]⟩
theorem te_off.rf : te_off I I te := ⟨fun _ _ _ _ _ _ => rfl, fun _ _ _ _ _ => rfl⟩
/-- all tokens stand in their rows, with the end behind them -/
def tk_tok (K : mx_I) (te : Nat) (f : Nat → Nat) (L : Nat) : Prop := te_tx K te f L ∧ tk_rows K te f L (tq_n f L + 1) ∧ K te 7 = nI (tq_n f L + 1)
/-- the token that comes next -/
def tk_cur (K : mx_I) (te : Nat) (f : Nat → Nat) (L t : Nat) : Prop := K te 8 = nI t ∧ K te 9 = nI (tq_k f L (tq_b f L t)) ∧ t ≤ tq_n f L
def tq_ah (f : Nat → Nat) (k : Nat) : Nat := if k = 0 then 32 else f (k - 1)
theorem tq_ah_lt {f : Nat → Nat} {L k : Nat} (h : ∀ j, j < L → f j < 256) (hk : k < L) : tq_ah f k < 256 := by
  unfold tq_ah
  split
  · omega
  · exact h _ (by omega)
theorem tq_st_sp {k : Nat} (c : f k = 32) : tq_st f k = false := by unfold tq_st; rw [decide_eq_true c]; rfl
theorem tq_st_1 {k : Nat} (c : ¬ f k = 32) (h : (tq_l (tq_ah f k) && tq_l (f k) || tq_f (tq_ah f k) && tq_f (f k)) = false) : tq_st f k = true := by
  unfold tq_st
  rw [decide_eq_false c]
  show (!false && !(tq_l (tq_ah f k) && tq_l (f k) || tq_f (tq_ah f k) && tq_f (f k))) = true
  rw [h]; rfl
theorem tq_st_2 {k : Nat} (h : (tq_l (tq_ah f k) && tq_l (f k) || tq_f (tq_ah f k) && tq_f (f k)) = true) : tq_st f k = false := by
  unfold tq_st
  show (!decide (f k = 32) && !(tq_l (tq_ah f k) && tq_l (f k) || tq_f (tq_ah f k) && tq_f (f k))) = false
  rw [h]; simp
theorem tq_n_y {k : Nat} (h : tq_st f k = true) : tq_n f (k + 1) = tq_n f k + 1 := if_pos h
theorem tq_n_no {k : Nat} (h : tq_st f k = false) : tq_n f (k + 1) = tq_n f k := if_neg (by rw [h]; simp)
/-- where the reader of the text stands -/
def tk_beg (I K : mx_I) (te : Nat) (f : Nat → Nat) (L k : Nat) : Prop := te_off I K te ∧ tk_rows K te f L (tq_n f k) ∧ K te 7 = nI (tq_n f k) ∧ K te 2 = -1
theorem tk_beg.y {K : mx_I} {k : Nat} (h : tk_beg I K te f L k) (hk : k < L) (hs : tq_st f k = true) : tk_beg I (tk_w K te (tq_n f k) k (tq_en f L k) (tq_k f L k) (tq_mv (tq_v f L k))) te f L (k + 1) := by
  have hi := tq_n_inv (f := f) (L := L) k (by omega)
  have hb := (tq_st_iff hk hi.1 hi.2).mp hs
  refine ⟨te_off.ww h.1, by rw [tq_n_y hs]; exact h.2.1.ww hb.symm hk rfl, by rw [tq_n_y hs]; unfold tk_w; simp [mx_up], ?_⟩
  rw [← h.2.2.2]; unfold tk_w; simp [mx_up]
theorem tk_beg.nn {K : mx_I} {k : Nat} (h : tk_beg I K te f L k) (hs : tq_st f k = false) : tk_beg I K te f L (k + 1) := by
  unfold tk_beg
  rw [tq_n_no hs]
  exact h
theorem tk_beg.end {K : mx_I} (h : tk_beg I K te f L L) (hx : te_tx I te f L) : te_off I (mx_up (mx_up (tk_z K te (tq_n f L) L) te 8 (nI 0)) te 9 (nI (tq_k f L (tq_b f L 0)))) te ∧ tk_tok (mx_up (mx_up (tk_z K te (tq_n f L) L) te 8 (nI 0)) te 9 (nI (tq_k f L (tq_b f L 0)))) te f L ∧ tk_cur (mx_up (mx_up (tk_z K te (tq_n f L) L) te 8 (nI 0)) te 9 (nI (tq_k f L (tq_b f L 0)))) te f L 0 ∧ (mx_up (mx_up (tk_z K te (tq_n f L) L) te 8 (nI 0)) te 9 (nI (tq_k f L (tq_b f L 0)))) te 2 = -1 := by
  have ho := ((te_off.z (n := tq_n f L) (L := L) h.1).u (k := 8) (v := nI 0) (by omega)).u (k := 9) (v := nI (tq_k f L (tq_b f L 0))) (by omega)
  have hr := h.2.1.z tq_T.1
  refine ⟨ho, ⟨ho.tx hx, fun j hj => ?_, ?_⟩, ⟨?_, ?_, Nat.zero_le _⟩, ?_⟩
  · obtain ⟨q1, q2, q3, q4⟩ := hr j hj
    rw [← q1, ← q2, ← q3, ← q4]
    refine ⟨?_, ?_, ?_, ?_⟩ <;> simp [mx_up]
  · unfold tk_z; simp [mx_up]
  · simp [mx_up]
  · simp [mx_up]
  · rw [← h.2.2.2]; unfold tk_z; simp [mx_up]
theorem c_Te_begin (hTe : te_ok S P te) (hx : te_tx I te f L)  : mx_C l E M_Te_begin 8 0 0 [.ref (te)] (t, S, I, P, J) (mx_sR none t S P J (fun K => te_off I K te ∧ tk_tok K te f L ∧ tk_cur K te f L 0 ∧ K te 2 = -1)) := by
  obtain ⟨hT0, hT1, hT2, hT3, hT4, hT5, hT6, hT7, hT8, hT9, hT10⟩ := id hTe
  obtain ⟨hy0, hy1, hL⟩ := id hx
  refine mx_C_of (ls0 := [some (.ref (te)), none, none, none, none]) (by decide +kernel) rfl rfl (Nat.le_of_ble_eq_true rfl) rfl ?_
  refine mx_al0 d_Te_begin_0 ?_
  refine mx_ic_m1 d_Te_begin_1 ?_
  refine mx_putI d_Te_begin_2 fl_Te_19 (by assumption) ?_
  refine mx_al0 d_Te_begin_5 ?_
  refine mx_in_0 d_Te_begin_6 ?_
  refine mx_putI d_Te_begin_7 fl_Te_38 (by assumption) ?_
  refine mx_in_0 d_Te_begin_10 ?_
  refine mx_is1 d_Te_begin_11 ?_
  refine mx_loopX (α := (mx_I)) (N := L) (a0 := (mx_up (mx_up I (te) 2 ((-1))) (te) 7 (nI (0)))) (fun k9 z9 => tk_beg I z9 te f L k9) (ls := fun k9 z9 => [some (.ref (te)), some (.int (nI (k9))), none, none, none]) (X := fun k9 z9 => (t, S, z9, P, J)) (⟨(te_off.rf.u (by omega)).u (by omega), fun j hj => absurd hj (by show ¬ j < 0; omega), by simp [mx_up, tq_n], by simp [mx_up]⟩) (fun k9 hk9 z9 hinv ih => ?_) (fun z9 hinv => ?_)
  · skip
    obtain ⟨K, hz9⟩ : ∃ q, q = z9 := ⟨_, rfl⟩
    subst hz9
    try dsimp only at hinv ih ⊢
    refine mx_il1 d_Te_begin_12 ?_
    refine mx_al0 d_Te_begin_13 ?_
    refine mx_getI d_Te_begin_14 fl_Te_15 (by assumption) ?_
    refine mx_ti (y := nI (L)) ((hinv.1.tx hx).2.1) ?_
    refine mx_icN_ge 107 d_Te_begin_17 (by decide) (by omega) (by omega) (fun c_17 => absurd c_17 (by omega)) (fun c_17 => ?_)
    have hb9 := ((hinv.1.tx hx).1 k9 (by omega)).1
    have ha9 : tq_ah f k9 < 256 := tq_ah_lt (fun j hj => ((hinv.1.tx hx).1 j (by omega)).1) hk9
    refine mx_il1 d_Te_begin_20 ?_
    refine mx_if_ne 29 d_Te_begin_21 (by decide) (fun c_21 => ?_) (fun c_21 => ?_)
    · skip
      have hk1 : 1 ≤ k9 := (Nat.eq_zero_or_pos k9).elim (fun z => absurd (by rw [z]; rfl) c_21) id
      refine mx_al0 d_Te_begin_29 ?_
      refine mx_getR d_Te_begin_30 fl_Te_9 (by assumption) (by assumption) ?_
      refine mx_il1 d_Te_begin_33 ?_
      refine mx_in_1 d_Te_begin_34 ?_
      refine mx_isubN d_Te_begin_35 (by omega) ?_
      refine mx_cSN2i d_Te_begin_36 (c_get (k := k9 - 1) (by assumption) (by omega) (by omega)) ok_Vh_get ml_Te_41 (by decide) (Nat.le_of_ble_eq_true rfl) ?_
      refine mx_ti (y := nI (tq_ah f k9)) ((((hinv.1.tx hx).1 _ (by omega)).2.trans (congrArg nI (show f (k9 - 1) = tq_ah f k9 from (if_neg (by omega)).symm)))) ?_
      refine mx_is2 d_Te_begin_39 ?_
      refine mx_al0 d_Te_begin_40 ?_
      refine mx_getR d_Te_begin_41 fl_Te_9 (by assumption) (by assumption) ?_
      refine mx_il1 d_Te_begin_44 ?_
      refine mx_cSN2i d_Te_begin_45 (c_get (k := k9) (by assumption) (by omega) (by omega)) ok_Vh_get ml_Te_41 (by decide) (Nat.le_of_ble_eq_true rfl) ?_
      refine mx_ti (y := nI (f k9)) (((hinv.1.tx hx).1 _ (by omega)).2) ?_
      refine mx_is3 d_Te_begin_48 ?_
      refine mx_il2 d_Te_begin_49 ?_
      refine mx_cS1i d_Te_begin_50 (c_Te_isLetter (c := tq_ah f k9) (by omega)) ok_Te_isLetter ml_Te_45 (by decide) (Nat.le_of_ble_eq_true rfl) ?_
      refine mx_ifB_eq 63 d_Te_begin_53 (by decide) (fun c_53 => ?_) (fun c_53 => ?_)
      · skip
        have hl9 : (tq_l (tq_ah f k9) && tq_l (f k9)) = false := by rw [c_53]; rfl
        refine mx_il2 d_Te_begin_63 ?_
        refine mx_cS1i d_Te_begin_64 (c_Te_isFigure (c := tq_ah f k9) (by omega)) ok_Te_isFigure ml_Te_49 (by decide) (Nat.le_of_ble_eq_true rfl) ?_
        refine mx_ifB_eq 81 d_Te_begin_67 (by decide) (fun c_67 => ?_) (fun c_67 => ?_)
        · skip
          have hgo : (tq_l (tq_ah f k9) && tq_l (f k9) || tq_f (tq_ah f k9) && tq_f (f k9)) = false := by rw [hl9, c_67]; rfl
          refine mx_in_0 d_Te_begin_81 ?_
          refine mx_is4 d_Te_begin_82 ?_
          refine mx_il3 d_Te_begin_84 ?_
          refine mx_bip 32 d_Te_begin_85 (by decide) ?_
          refine mx_icN_eq 101 d_Te_begin_87 (by decide) (by omega) (by omega) (fun c_87 => ?_) (fun c_87 => ?_)
          · skip
            refine mx_iN1 d_Te_begin_101 ?_
            refine mx_goto 12 d_Te_begin_104 (by decide) ?_
            refine mx_dn2 ?_
            refine mx_dn3 ?_
            refine mx_dn4 ?_
            exact ih K (hinv.nn (tq_st_sp c_87))
          · skip
            refine mx_il4 d_Te_begin_90 ?_
            refine mx_if_ne 101 d_Te_begin_92 (by decide) (fun c_92 => absurd (by decide) c_92) (fun c_92 => ?_)
            have k1 := tq_st_1 c_87 hgo
            have hnk := tq_n_le f k9
            refine mx_al0 d_Te_begin_95 ?_
            refine mx_il1 d_Te_begin_96 ?_
            refine mx_il3 d_Te_begin_97 ?_
            refine mx_cV2v d_Te_begin_98 (c_Te_addToken hTe (hinv.1.tx hx) (by omega) hinv.2.2.1 (by omega)) ok_Te_addToken ml_Te_52 (by assumption) ⟨rfl, rfl⟩ (by decide) (Nat.le_of_ble_eq_true rfl) ?_
            refine mx_iN1 d_Te_begin_101 ?_
            refine mx_goto 12 d_Te_begin_104 (by decide) ?_
            refine mx_dn2 ?_
            refine mx_dn3 ?_
            refine mx_dn4 ?_
            exact ih (tk_w K te (tq_n f k9) k9 (tq_en f L k9) (tq_k f L k9) (tq_mv (tq_v f L k9))) (hinv.y (by omega) k1)
        · skip
          refine mx_il3 d_Te_begin_70 ?_
          refine mx_cS1i d_Te_begin_71 (c_Te_isFigure (c := f k9) (by omega)) ok_Te_isFigure ml_Te_49 (by decide) (Nat.le_of_ble_eq_true rfl) ?_
          refine mx_ifB_eq 81 d_Te_begin_74 (by decide) (fun c_74 => ?_) (fun c_74 => ?_)
          · skip
            have hgo : (tq_l (tq_ah f k9) && tq_l (f k9) || tq_f (tq_ah f k9) && tq_f (f k9)) = false := by rw [hl9, c_74]; simp
            refine mx_in_0 d_Te_begin_81 ?_
            refine mx_is4 d_Te_begin_82 ?_
            refine mx_il3 d_Te_begin_84 ?_
            refine mx_bip 32 d_Te_begin_85 (by decide) ?_
            refine mx_icN_eq 101 d_Te_begin_87 (by decide) (by omega) (by omega) (fun c_87 => ?_) (fun c_87 => ?_)
            · skip
              refine mx_iN1 d_Te_begin_101 ?_
              refine mx_goto 12 d_Te_begin_104 (by decide) ?_
              refine mx_dn2 ?_
              refine mx_dn3 ?_
              refine mx_dn4 ?_
              exact ih K (hinv.nn (tq_st_sp c_87))
            · skip
              refine mx_il4 d_Te_begin_90 ?_
              refine mx_if_ne 101 d_Te_begin_92 (by decide) (fun c_92 => absurd (by decide) c_92) (fun c_92 => ?_)
              have k1 := tq_st_1 c_87 hgo
              have hnk := tq_n_le f k9
              refine mx_al0 d_Te_begin_95 ?_
              refine mx_il1 d_Te_begin_96 ?_
              refine mx_il3 d_Te_begin_97 ?_
              refine mx_cV2v d_Te_begin_98 (c_Te_addToken hTe (hinv.1.tx hx) (by omega) hinv.2.2.1 (by omega)) ok_Te_addToken ml_Te_52 (by assumption) ⟨rfl, rfl⟩ (by decide) (Nat.le_of_ble_eq_true rfl) ?_
              refine mx_iN1 d_Te_begin_101 ?_
              refine mx_goto 12 d_Te_begin_104 (by decide) ?_
              refine mx_dn2 ?_
              refine mx_dn3 ?_
              refine mx_dn4 ?_
              exact ih (tk_w K te (tq_n f k9) k9 (tq_en f L k9) (tq_k f L k9) (tq_mv (tq_v f L k9))) (hinv.y (by omega) k1)
          · skip
            have hgo : (tq_l (tq_ah f k9) && tq_l (f k9) || tq_f (tq_ah f k9) && tq_f (f k9)) = true := by rw [c_67, c_74]; simp
            refine mx_in_1 d_Te_begin_77 ?_
            refine mx_goto 82 d_Te_begin_78 (by decide) ?_
            refine mx_is4 d_Te_begin_82 ?_
            refine mx_il3 d_Te_begin_84 ?_
            refine mx_bip 32 d_Te_begin_85 (by decide) ?_
            refine mx_icN_eq 101 d_Te_begin_87 (by decide) (by omega) (by omega) (fun c_87 => ?_) (fun c_87 => ?_)
            · skip
              refine mx_iN1 d_Te_begin_101 ?_
              refine mx_goto 12 d_Te_begin_104 (by decide) ?_
              refine mx_dn2 ?_
              refine mx_dn3 ?_
              refine mx_dn4 ?_
              exact ih K (hinv.nn (tq_st_sp c_87))
            · skip
              refine mx_il4 d_Te_begin_90 ?_
              refine mx_if_ne 101 d_Te_begin_92 (by decide) (fun c_92 => ?_) (fun c_92 => absurd c_92 (by decide))
              refine mx_iN1 d_Te_begin_101 ?_
              refine mx_goto 12 d_Te_begin_104 (by decide) ?_
              refine mx_dn2 ?_
              refine mx_dn3 ?_
              refine mx_dn4 ?_
              exact ih K (hinv.nn (tq_st_2 hgo))
      · skip
        refine mx_il3 d_Te_begin_56 ?_
        refine mx_cS1i d_Te_begin_57 (c_Te_isLetter (c := f k9) (by omega)) ok_Te_isLetter ml_Te_45 (by decide) (Nat.le_of_ble_eq_true rfl) ?_
        refine mx_ifB_ne 77 d_Te_begin_60 (by decide) (fun c_60 => ?_) (fun c_60 => ?_)
        · skip
          have hgo : (tq_l (tq_ah f k9) && tq_l (f k9) || tq_f (tq_ah f k9) && tq_f (f k9)) = true := by rw [c_53, c_60]; rfl
          refine mx_in_1 d_Te_begin_77 ?_
          refine mx_goto 82 d_Te_begin_78 (by decide) ?_
          refine mx_is4 d_Te_begin_82 ?_
          refine mx_il3 d_Te_begin_84 ?_
          refine mx_bip 32 d_Te_begin_85 (by decide) ?_
          refine mx_icN_eq 101 d_Te_begin_87 (by decide) (by omega) (by omega) (fun c_87 => ?_) (fun c_87 => ?_)
          · skip
            refine mx_iN1 d_Te_begin_101 ?_
            refine mx_goto 12 d_Te_begin_104 (by decide) ?_
            refine mx_dn2 ?_
            refine mx_dn3 ?_
            refine mx_dn4 ?_
            exact ih K (hinv.nn (tq_st_sp c_87))
          · skip
            refine mx_il4 d_Te_begin_90 ?_
            refine mx_if_ne 101 d_Te_begin_92 (by decide) (fun c_92 => ?_) (fun c_92 => absurd c_92 (by decide))
            refine mx_iN1 d_Te_begin_101 ?_
            refine mx_goto 12 d_Te_begin_104 (by decide) ?_
            refine mx_dn2 ?_
            refine mx_dn3 ?_
            refine mx_dn4 ?_
            exact ih K (hinv.nn (tq_st_2 hgo))
        · skip
          have hl9 : (tq_l (tq_ah f k9) && tq_l (f k9)) = false := by rw [c_60]; simp
          refine mx_il2 d_Te_begin_63 ?_
          refine mx_cS1i d_Te_begin_64 (c_Te_isFigure (c := tq_ah f k9) (by omega)) ok_Te_isFigure ml_Te_49 (by decide) (Nat.le_of_ble_eq_true rfl) ?_
          refine mx_ifB_eq 81 d_Te_begin_67 (by decide) (fun c_67 => ?_) (fun c_67 => ?_)
          · skip
            have hgo : (tq_l (tq_ah f k9) && tq_l (f k9) || tq_f (tq_ah f k9) && tq_f (f k9)) = false := by rw [hl9, c_67]; rfl
            refine mx_in_0 d_Te_begin_81 ?_
            refine mx_is4 d_Te_begin_82 ?_
            refine mx_il3 d_Te_begin_84 ?_
            refine mx_bip 32 d_Te_begin_85 (by decide) ?_
            refine mx_icN_eq 101 d_Te_begin_87 (by decide) (by omega) (by omega) (fun c_87 => ?_) (fun c_87 => ?_)
            · skip
              refine mx_iN1 d_Te_begin_101 ?_
              refine mx_goto 12 d_Te_begin_104 (by decide) ?_
              refine mx_dn2 ?_
              refine mx_dn3 ?_
              refine mx_dn4 ?_
              exact ih K (hinv.nn (tq_st_sp c_87))
            · skip
              refine mx_il4 d_Te_begin_90 ?_
              refine mx_if_ne 101 d_Te_begin_92 (by decide) (fun c_92 => absurd (by decide) c_92) (fun c_92 => ?_)
              have k1 := tq_st_1 c_87 hgo
              have hnk := tq_n_le f k9
              refine mx_al0 d_Te_begin_95 ?_
              refine mx_il1 d_Te_begin_96 ?_
              refine mx_il3 d_Te_begin_97 ?_
              refine mx_cV2v d_Te_begin_98 (c_Te_addToken hTe (hinv.1.tx hx) (by omega) hinv.2.2.1 (by omega)) ok_Te_addToken ml_Te_52 (by assumption) ⟨rfl, rfl⟩ (by decide) (Nat.le_of_ble_eq_true rfl) ?_
              refine mx_iN1 d_Te_begin_101 ?_
              refine mx_goto 12 d_Te_begin_104 (by decide) ?_
              refine mx_dn2 ?_
              refine mx_dn3 ?_
              refine mx_dn4 ?_
              exact ih (tk_w K te (tq_n f k9) k9 (tq_en f L k9) (tq_k f L k9) (tq_mv (tq_v f L k9))) (hinv.y (by omega) k1)
          · skip
            refine mx_il3 d_Te_begin_70 ?_
            refine mx_cS1i d_Te_begin_71 (c_Te_isFigure (c := f k9) (by omega)) ok_Te_isFigure ml_Te_49 (by decide) (Nat.le_of_ble_eq_true rfl) ?_
            refine mx_ifB_eq 81 d_Te_begin_74 (by decide) (fun c_74 => ?_) (fun c_74 => ?_)
            · skip
              have hgo : (tq_l (tq_ah f k9) && tq_l (f k9) || tq_f (tq_ah f k9) && tq_f (f k9)) = false := by rw [hl9, c_74]; simp
              refine mx_in_0 d_Te_begin_81 ?_
              refine mx_is4 d_Te_begin_82 ?_
              refine mx_il3 d_Te_begin_84 ?_
              refine mx_bip 32 d_Te_begin_85 (by decide) ?_
              refine mx_icN_eq 101 d_Te_begin_87 (by decide) (by omega) (by omega) (fun c_87 => ?_) (fun c_87 => ?_)
              · skip
                refine mx_iN1 d_Te_begin_101 ?_
                refine mx_goto 12 d_Te_begin_104 (by decide) ?_
                refine mx_dn2 ?_
                refine mx_dn3 ?_
                refine mx_dn4 ?_
                exact ih K (hinv.nn (tq_st_sp c_87))
              · skip
                refine mx_il4 d_Te_begin_90 ?_
                refine mx_if_ne 101 d_Te_begin_92 (by decide) (fun c_92 => absurd (by decide) c_92) (fun c_92 => ?_)
                have k1 := tq_st_1 c_87 hgo
                have hnk := tq_n_le f k9
                refine mx_al0 d_Te_begin_95 ?_
                refine mx_il1 d_Te_begin_96 ?_
                refine mx_il3 d_Te_begin_97 ?_
                refine mx_cV2v d_Te_begin_98 (c_Te_addToken hTe (hinv.1.tx hx) (by omega) hinv.2.2.1 (by omega)) ok_Te_addToken ml_Te_52 (by assumption) ⟨rfl, rfl⟩ (by decide) (Nat.le_of_ble_eq_true rfl) ?_
                refine mx_iN1 d_Te_begin_101 ?_
                refine mx_goto 12 d_Te_begin_104 (by decide) ?_
                refine mx_dn2 ?_
                refine mx_dn3 ?_
                refine mx_dn4 ?_
                exact ih (tk_w K te (tq_n f k9) k9 (tq_en f L k9) (tq_k f L k9) (tq_mv (tq_v f L k9))) (hinv.y (by omega) k1)
            · skip
              have hgo : (tq_l (tq_ah f k9) && tq_l (f k9) || tq_f (tq_ah f k9) && tq_f (f k9)) = true := by rw [c_67, c_74]; simp
              refine mx_in_1 d_Te_begin_77 ?_
              refine mx_goto 82 d_Te_begin_78 (by decide) ?_
              refine mx_is4 d_Te_begin_82 ?_
              refine mx_il3 d_Te_begin_84 ?_
              refine mx_bip 32 d_Te_begin_85 (by decide) ?_
              refine mx_icN_eq 101 d_Te_begin_87 (by decide) (by omega) (by omega) (fun c_87 => ?_) (fun c_87 => ?_)
              · skip
                refine mx_iN1 d_Te_begin_101 ?_
                refine mx_goto 12 d_Te_begin_104 (by decide) ?_
                refine mx_dn2 ?_
                refine mx_dn3 ?_
                refine mx_dn4 ?_
                exact ih K (hinv.nn (tq_st_sp c_87))
              · skip
                refine mx_il4 d_Te_begin_90 ?_
                refine mx_if_ne 101 d_Te_begin_92 (by decide) (fun c_92 => ?_) (fun c_92 => absurd c_92 (by decide))
                refine mx_iN1 d_Te_begin_101 ?_
                refine mx_goto 12 d_Te_begin_104 (by decide) ?_
                refine mx_dn2 ?_
                refine mx_dn3 ?_
                refine mx_dn4 ?_
                exact ih K (hinv.nn (tq_st_2 hgo))
    · skip
      have hk1 : k9 = 0 := (Nat.eq_zero_or_pos k9).elim id (fun z => absurd c_21 (nI_ne0 z (by omega)))
      refine mx_bip 32 d_Te_begin_24 (by decide) ?_
      refine mx_goto 39 d_Te_begin_26 (by decide) ?_
      refine mx_ti (y := nI (tq_ah f k9)) (congrArg nI (show 32 = tq_ah f k9 from (if_pos (by omega)).symm)) ?_
      refine mx_is2 d_Te_begin_39 ?_
      refine mx_al0 d_Te_begin_40 ?_
      refine mx_getR d_Te_begin_41 fl_Te_9 (by assumption) (by assumption) ?_
      refine mx_il1 d_Te_begin_44 ?_
      refine mx_cSN2i d_Te_begin_45 (c_get (k := k9) (by assumption) (by omega) (by omega)) ok_Vh_get ml_Te_41 (by decide) (Nat.le_of_ble_eq_true rfl) ?_
      refine mx_ti (y := nI (f k9)) (((hinv.1.tx hx).1 _ (by omega)).2) ?_
      refine mx_is3 d_Te_begin_48 ?_
      refine mx_il2 d_Te_begin_49 ?_
      refine mx_cS1i d_Te_begin_50 (c_Te_isLetter (c := tq_ah f k9) (by omega)) ok_Te_isLetter ml_Te_45 (by decide) (Nat.le_of_ble_eq_true rfl) ?_
      refine mx_ifB_eq 63 d_Te_begin_53 (by decide) (fun c_53 => ?_) (fun c_53 => ?_)
      · skip
        have hl9 : (tq_l (tq_ah f k9) && tq_l (f k9)) = false := by rw [c_53]; rfl
        refine mx_il2 d_Te_begin_63 ?_
        refine mx_cS1i d_Te_begin_64 (c_Te_isFigure (c := tq_ah f k9) (by omega)) ok_Te_isFigure ml_Te_49 (by decide) (Nat.le_of_ble_eq_true rfl) ?_
        refine mx_ifB_eq 81 d_Te_begin_67 (by decide) (fun c_67 => ?_) (fun c_67 => ?_)
        · skip
          have hgo : (tq_l (tq_ah f k9) && tq_l (f k9) || tq_f (tq_ah f k9) && tq_f (f k9)) = false := by rw [hl9, c_67]; rfl
          refine mx_in_0 d_Te_begin_81 ?_
          refine mx_is4 d_Te_begin_82 ?_
          refine mx_il3 d_Te_begin_84 ?_
          refine mx_bip 32 d_Te_begin_85 (by decide) ?_
          refine mx_icN_eq 101 d_Te_begin_87 (by decide) (by omega) (by omega) (fun c_87 => ?_) (fun c_87 => ?_)
          · skip
            refine mx_iN1 d_Te_begin_101 ?_
            refine mx_goto 12 d_Te_begin_104 (by decide) ?_
            refine mx_dn2 ?_
            refine mx_dn3 ?_
            refine mx_dn4 ?_
            exact ih K (hinv.nn (tq_st_sp c_87))
          · skip
            refine mx_il4 d_Te_begin_90 ?_
            refine mx_if_ne 101 d_Te_begin_92 (by decide) (fun c_92 => absurd (by decide) c_92) (fun c_92 => ?_)
            have k1 := tq_st_1 c_87 hgo
            have hnk := tq_n_le f k9
            refine mx_al0 d_Te_begin_95 ?_
            refine mx_il1 d_Te_begin_96 ?_
            refine mx_il3 d_Te_begin_97 ?_
            refine mx_cV2v d_Te_begin_98 (c_Te_addToken hTe (hinv.1.tx hx) (by omega) hinv.2.2.1 (by omega)) ok_Te_addToken ml_Te_52 (by assumption) ⟨rfl, rfl⟩ (by decide) (Nat.le_of_ble_eq_true rfl) ?_
            refine mx_iN1 d_Te_begin_101 ?_
            refine mx_goto 12 d_Te_begin_104 (by decide) ?_
            refine mx_dn2 ?_
            refine mx_dn3 ?_
            refine mx_dn4 ?_
            exact ih (tk_w K te (tq_n f k9) k9 (tq_en f L k9) (tq_k f L k9) (tq_mv (tq_v f L k9))) (hinv.y (by omega) k1)
        · skip
          refine mx_il3 d_Te_begin_70 ?_
          refine mx_cS1i d_Te_begin_71 (c_Te_isFigure (c := f k9) (by omega)) ok_Te_isFigure ml_Te_49 (by decide) (Nat.le_of_ble_eq_true rfl) ?_
          refine mx_ifB_eq 81 d_Te_begin_74 (by decide) (fun c_74 => ?_) (fun c_74 => ?_)
          · skip
            have hgo : (tq_l (tq_ah f k9) && tq_l (f k9) || tq_f (tq_ah f k9) && tq_f (f k9)) = false := by rw [hl9, c_74]; simp
            refine mx_in_0 d_Te_begin_81 ?_
            refine mx_is4 d_Te_begin_82 ?_
            refine mx_il3 d_Te_begin_84 ?_
            refine mx_bip 32 d_Te_begin_85 (by decide) ?_
            refine mx_icN_eq 101 d_Te_begin_87 (by decide) (by omega) (by omega) (fun c_87 => ?_) (fun c_87 => ?_)
            · skip
              refine mx_iN1 d_Te_begin_101 ?_
              refine mx_goto 12 d_Te_begin_104 (by decide) ?_
              refine mx_dn2 ?_
              refine mx_dn3 ?_
              refine mx_dn4 ?_
              exact ih K (hinv.nn (tq_st_sp c_87))
            · skip
              refine mx_il4 d_Te_begin_90 ?_
              refine mx_if_ne 101 d_Te_begin_92 (by decide) (fun c_92 => absurd (by decide) c_92) (fun c_92 => ?_)
              have k1 := tq_st_1 c_87 hgo
              have hnk := tq_n_le f k9
              refine mx_al0 d_Te_begin_95 ?_
              refine mx_il1 d_Te_begin_96 ?_
              refine mx_il3 d_Te_begin_97 ?_
              refine mx_cV2v d_Te_begin_98 (c_Te_addToken hTe (hinv.1.tx hx) (by omega) hinv.2.2.1 (by omega)) ok_Te_addToken ml_Te_52 (by assumption) ⟨rfl, rfl⟩ (by decide) (Nat.le_of_ble_eq_true rfl) ?_
              refine mx_iN1 d_Te_begin_101 ?_
              refine mx_goto 12 d_Te_begin_104 (by decide) ?_
              refine mx_dn2 ?_
              refine mx_dn3 ?_
              refine mx_dn4 ?_
              exact ih (tk_w K te (tq_n f k9) k9 (tq_en f L k9) (tq_k f L k9) (tq_mv (tq_v f L k9))) (hinv.y (by omega) k1)
          · skip
            have hgo : (tq_l (tq_ah f k9) && tq_l (f k9) || tq_f (tq_ah f k9) && tq_f (f k9)) = true := by rw [c_67, c_74]; simp
            refine mx_in_1 d_Te_begin_77 ?_
            refine mx_goto 82 d_Te_begin_78 (by decide) ?_
            refine mx_is4 d_Te_begin_82 ?_
            refine mx_il3 d_Te_begin_84 ?_
            refine mx_bip 32 d_Te_begin_85 (by decide) ?_
            refine mx_icN_eq 101 d_Te_begin_87 (by decide) (by omega) (by omega) (fun c_87 => ?_) (fun c_87 => ?_)
            · skip
              refine mx_iN1 d_Te_begin_101 ?_
              refine mx_goto 12 d_Te_begin_104 (by decide) ?_
              refine mx_dn2 ?_
              refine mx_dn3 ?_
              refine mx_dn4 ?_
              exact ih K (hinv.nn (tq_st_sp c_87))
            · skip
              refine mx_il4 d_Te_begin_90 ?_
              refine mx_if_ne 101 d_Te_begin_92 (by decide) (fun c_92 => ?_) (fun c_92 => absurd c_92 (by decide))
              refine mx_iN1 d_Te_begin_101 ?_
              refine mx_goto 12 d_Te_begin_104 (by decide) ?_
              refine mx_dn2 ?_
              refine mx_dn3 ?_
              refine mx_dn4 ?_
              exact ih K (hinv.nn (tq_st_2 hgo))
      · skip
        refine mx_il3 d_Te_begin_56 ?_
        refine mx_cS1i d_Te_begin_57 (c_Te_isLetter (c := f k9) (by omega)) ok_Te_isLetter ml_Te_45 (by decide) (Nat.le_of_ble_eq_true rfl) ?_
        refine mx_ifB_ne 77 d_Te_begin_60 (by decide) (fun c_60 => ?_) (fun c_60 => ?_)
        · skip
          have hgo : (tq_l (tq_ah f k9) && tq_l (f k9) || tq_f (tq_ah f k9) && tq_f (f k9)) = true := by rw [c_53, c_60]; rfl
          refine mx_in_1 d_Te_begin_77 ?_
          refine mx_goto 82 d_Te_begin_78 (by decide) ?_
          refine mx_is4 d_Te_begin_82 ?_
          refine mx_il3 d_Te_begin_84 ?_
          refine mx_bip 32 d_Te_begin_85 (by decide) ?_
          refine mx_icN_eq 101 d_Te_begin_87 (by decide) (by omega) (by omega) (fun c_87 => ?_) (fun c_87 => ?_)
          · skip
            refine mx_iN1 d_Te_begin_101 ?_
            refine mx_goto 12 d_Te_begin_104 (by decide) ?_
            refine mx_dn2 ?_
            refine mx_dn3 ?_
            refine mx_dn4 ?_
            exact ih K (hinv.nn (tq_st_sp c_87))
          · skip
            refine mx_il4 d_Te_begin_90 ?_
            refine mx_if_ne 101 d_Te_begin_92 (by decide) (fun c_92 => ?_) (fun c_92 => absurd c_92 (by decide))
            refine mx_iN1 d_Te_begin_101 ?_
            refine mx_goto 12 d_Te_begin_104 (by decide) ?_
            refine mx_dn2 ?_
            refine mx_dn3 ?_
            refine mx_dn4 ?_
            exact ih K (hinv.nn (tq_st_2 hgo))
        · skip
          have hl9 : (tq_l (tq_ah f k9) && tq_l (f k9)) = false := by rw [c_60]; simp
          refine mx_il2 d_Te_begin_63 ?_
          refine mx_cS1i d_Te_begin_64 (c_Te_isFigure (c := tq_ah f k9) (by omega)) ok_Te_isFigure ml_Te_49 (by decide) (Nat.le_of_ble_eq_true rfl) ?_
          refine mx_ifB_eq 81 d_Te_begin_67 (by decide) (fun c_67 => ?_) (fun c_67 => ?_)
          · skip
            have hgo : (tq_l (tq_ah f k9) && tq_l (f k9) || tq_f (tq_ah f k9) && tq_f (f k9)) = false := by rw [hl9, c_67]; rfl
            refine mx_in_0 d_Te_begin_81 ?_
            refine mx_is4 d_Te_begin_82 ?_
            refine mx_il3 d_Te_begin_84 ?_
            refine mx_bip 32 d_Te_begin_85 (by decide) ?_
            refine mx_icN_eq 101 d_Te_begin_87 (by decide) (by omega) (by omega) (fun c_87 => ?_) (fun c_87 => ?_)
            · skip
              refine mx_iN1 d_Te_begin_101 ?_
              refine mx_goto 12 d_Te_begin_104 (by decide) ?_
              refine mx_dn2 ?_
              refine mx_dn3 ?_
              refine mx_dn4 ?_
              exact ih K (hinv.nn (tq_st_sp c_87))
            · skip
              refine mx_il4 d_Te_begin_90 ?_
              refine mx_if_ne 101 d_Te_begin_92 (by decide) (fun c_92 => absurd (by decide) c_92) (fun c_92 => ?_)
              have k1 := tq_st_1 c_87 hgo
              have hnk := tq_n_le f k9
              refine mx_al0 d_Te_begin_95 ?_
              refine mx_il1 d_Te_begin_96 ?_
              refine mx_il3 d_Te_begin_97 ?_
              refine mx_cV2v d_Te_begin_98 (c_Te_addToken hTe (hinv.1.tx hx) (by omega) hinv.2.2.1 (by omega)) ok_Te_addToken ml_Te_52 (by assumption) ⟨rfl, rfl⟩ (by decide) (Nat.le_of_ble_eq_true rfl) ?_
              refine mx_iN1 d_Te_begin_101 ?_
              refine mx_goto 12 d_Te_begin_104 (by decide) ?_
              refine mx_dn2 ?_
              refine mx_dn3 ?_
              refine mx_dn4 ?_
              exact ih (tk_w K te (tq_n f k9) k9 (tq_en f L k9) (tq_k f L k9) (tq_mv (tq_v f L k9))) (hinv.y (by omega) k1)
          · skip
            refine mx_il3 d_Te_begin_70 ?_
            refine mx_cS1i d_Te_begin_71 (c_Te_isFigure (c := f k9) (by omega)) ok_Te_isFigure ml_Te_49 (by decide) (Nat.le_of_ble_eq_true rfl) ?_
            refine mx_ifB_eq 81 d_Te_begin_74 (by decide) (fun c_74 => ?_) (fun c_74 => ?_)
            · skip
              have hgo : (tq_l (tq_ah f k9) && tq_l (f k9) || tq_f (tq_ah f k9) && tq_f (f k9)) = false := by rw [hl9, c_74]; simp
              refine mx_in_0 d_Te_begin_81 ?_
              refine mx_is4 d_Te_begin_82 ?_
              refine mx_il3 d_Te_begin_84 ?_
              refine mx_bip 32 d_Te_begin_85 (by decide) ?_
              refine mx_icN_eq 101 d_Te_begin_87 (by decide) (by omega) (by omega) (fun c_87 => ?_) (fun c_87 => ?_)
              · skip
                refine mx_iN1 d_Te_begin_101 ?_
                refine mx_goto 12 d_Te_begin_104 (by decide) ?_
                refine mx_dn2 ?_
                refine mx_dn3 ?_
                refine mx_dn4 ?_
                exact ih K (hinv.nn (tq_st_sp c_87))
              · skip
                refine mx_il4 d_Te_begin_90 ?_
                refine mx_if_ne 101 d_Te_begin_92 (by decide) (fun c_92 => absurd (by decide) c_92) (fun c_92 => ?_)
                have k1 := tq_st_1 c_87 hgo
                have hnk := tq_n_le f k9
                refine mx_al0 d_Te_begin_95 ?_
                refine mx_il1 d_Te_begin_96 ?_
                refine mx_il3 d_Te_begin_97 ?_
                refine mx_cV2v d_Te_begin_98 (c_Te_addToken hTe (hinv.1.tx hx) (by omega) hinv.2.2.1 (by omega)) ok_Te_addToken ml_Te_52 (by assumption) ⟨rfl, rfl⟩ (by decide) (Nat.le_of_ble_eq_true rfl) ?_
                refine mx_iN1 d_Te_begin_101 ?_
                refine mx_goto 12 d_Te_begin_104 (by decide) ?_
                refine mx_dn2 ?_
                refine mx_dn3 ?_
                refine mx_dn4 ?_
                exact ih (tk_w K te (tq_n f k9) k9 (tq_en f L k9) (tq_k f L k9) (tq_mv (tq_v f L k9))) (hinv.y (by omega) k1)
            · skip
              have hgo : (tq_l (tq_ah f k9) && tq_l (f k9) || tq_f (tq_ah f k9) && tq_f (f k9)) = true := by rw [c_67, c_74]; simp
              refine mx_in_1 d_Te_begin_77 ?_
              refine mx_goto 82 d_Te_begin_78 (by decide) ?_
              refine mx_is4 d_Te_begin_82 ?_
              refine mx_il3 d_Te_begin_84 ?_
              refine mx_bip 32 d_Te_begin_85 (by decide) ?_
              refine mx_icN_eq 101 d_Te_begin_87 (by decide) (by omega) (by omega) (fun c_87 => ?_) (fun c_87 => ?_)
              · skip
                refine mx_iN1 d_Te_begin_101 ?_
                refine mx_goto 12 d_Te_begin_104 (by decide) ?_
                refine mx_dn2 ?_
                refine mx_dn3 ?_
                refine mx_dn4 ?_
                exact ih K (hinv.nn (tq_st_sp c_87))
              · skip
                refine mx_il4 d_Te_begin_90 ?_
                refine mx_if_ne 101 d_Te_begin_92 (by decide) (fun c_92 => ?_) (fun c_92 => absurd c_92 (by decide))
                refine mx_iN1 d_Te_begin_101 ?_
                refine mx_goto 12 d_Te_begin_104 (by decide) ?_
                refine mx_dn2 ?_
                refine mx_dn3 ?_
                refine mx_dn4 ?_
                exact ih K (hinv.nn (tq_st_2 hgo))
  · skip
    obtain ⟨K, hz9⟩ : ∃ q, q = z9 := ⟨_, rfl⟩
    subst hz9
    try dsimp only at hinv ⊢
    refine mx_il1 d_Te_begin_12 ?_
    refine mx_al0 d_Te_begin_13 ?_
    refine mx_getI d_Te_begin_14 fl_Te_15 (by assumption) ?_
    refine mx_ti (y := nI (L)) ((hinv.1.tx hx).2.1) ?_
    refine mx_icN_ge 107 d_Te_begin_17 (by decide) (by omega) (by omega) (fun c_17 => ?_) (fun c_17 => absurd c_17 (by omega))
    refine mx_al0 d_Te_begin_107 ?_
    refine mx_cV0v d_Te_begin_108 (c_Te_addEnd hTe (hinv.1.tx hx) hinv.2.2.1 (by have := tq_n_le f L; omega)) ok_Te_addEnd ml_Te_56 (by assumption) ⟨rfl, rfl⟩ (by decide) (Nat.le_of_ble_eq_true rfl) ?_
    refine mx_al0 d_Te_begin_111 ?_
    refine mx_in_0 d_Te_begin_112 ?_
    refine mx_putI d_Te_begin_113 fl_Te_59 (by assumption) ?_
    refine mx_al0 d_Te_begin_116 ?_
    refine mx_al0 d_Te_begin_117 ?_
    refine mx_getR d_Te_begin_118 fl_Te_22 (by assumption) (by assumption) ?_
    refine mx_in_0 d_Te_begin_121 ?_
    have hz1 := hinv.2.1.z tq_T.1 0 (by omega)
    have hk0 : (mx_up (tk_z K te (tq_n f L) L) te 8 (nI 0)) (te + 2) 0 = nI (tq_k f L (tq_b f L 0)) := by rw [← hz1.1]; simp [mx_up]
    refine mx_cSN2i d_Te_begin_122 (c_get (k := 0) (by assumption) (by omega) (by omega)) ok_Vh_get ml_Te_41 (by decide) (Nat.le_of_ble_eq_true rfl) ?_
    refine mx_ti (y := nI (tq_k f L (tq_b f L 0))) (hk0) ?_
    refine mx_putI d_Te_begin_125 fl_Te_62 (by assumption) ?_
    exact mx_vret d_Te_begin_128 rfl (mx_sR_of rfl (hinv.end hx))
abbrev tK (f : Nat → Nat) (L : Nat) : Nat → Nat := fun t => tq_k f L (tq_b f L t)
abbrev tV (f : Nat → Nat) (L : Nat) : Nat → Option Nat := fun t => tq_v f L (tq_b f L t)
abbrev tZ (f : Nat → Nat) (L : Nat) : Nat → Nat := fun t => tq_sz f L (tq_b f L t)
def tk_off (I K : mx_I) (te : Nat) : Prop := (∀ c, c ≠ te → K c = I c) ∧ ∀ k, k ≠ 2 → k ≠ 8 → k ≠ 9 → K te k = I te k
theorem tk_off.rf : tk_off I I te := ⟨fun _ _ => rfl, fun _ _ _ _ => rfl⟩
theorem tk_off.tr {K K2 : mx_I} (h : tk_off I K te) (h2 : tk_off K K2 te) : tk_off I K2 te := ⟨fun c hc => (h2.1 c hc).trans (h.1 c hc), fun k a b c => (h2.2 k a b c).trans (h.2 k a b c)⟩
theorem tk_off.all {K : mx_I} (h : tk_off I K te) (ha : tk_tok I te f L) : tk_tok K te f L := by
  refine ⟨ha.1.of (h.1 _ (by omega)) (h.2 1 (by omega) (by omega) (by omega)), fun j hj => ?_, by rw [h.2 7 (by omega) (by omega) (by omega)]; exact ha.2.2⟩
  rw [h.1 (te + 2) (by omega), h.1 (te + 3) (by omega), h.1 (te + 4) (by omega), h.1 (te + 5) (by omega)]
  exact ha.2.1 j hj
theorem tk_tok.txt (ha : tk_tok I te f L) : te_tx I te f L := ha.1
theorem tK0 {T : Nat} (h : T = tq_n f L) : ∀ t, T ≤ t → tK f L t = 0 := fun t ht => by
  have h1 := tq_b_mono (f := f) (L := L) (a := tq_n f L) (b := t) (by omega)
  rw [tq_T.1] at h1
  have h2 := tq_bL f L t
  exact (tq_k0 h2).mpr (by omega)
theorem tV1 : ∀ t v, tV f L t = some v → v < 1000 := fun t v h => tq_v_lt h
theorem tK_T {t : Nat} (h : ¬ tK f L t = 0) : t < tq_n f L := by
  rcases Nat.lt_or_ge t (tq_n f L) with c | c
  · exact c
  · exact absurd (tK0 rfl t c) h
/-- what a reader of a token, or of more, leaves -/
def tk_out (I K : mx_I) (te : Nat) (f : Nat → Nat) (L : Nat) (r : Nat ⊕ Nat) : Prop := tk_off I K te ∧ match r with
  | .inl e => K te 2 = nI (tq_b f L e)
  | .inr t => tk_cur K te f L t ∧ K te 2 = I te 2
def gq_nx {α β : Type} (r : α ⊕ (β × Nat)) : α ⊕ Nat := match r with | .inl e => .inl e | .inr q => .inr q.2
def gq_vl {α : Type} (r : α ⊕ (Nat × Nat)) : Int32 := match r with | .inl _ => -1 | .inr q => nI q.1
theorem tk_next_out (hc : tk_cur I te f L c) (hlt : c < tq_n f L) : tk_out I (mx_up (mx_up I te 8 (nI (c + 1))) te 9 (nI (tq_k f L (tq_b f L (c + 1))))) te f L (.inr (c + 1)) :=
  ⟨⟨fun b hb => by funext q; simp [mx_up, hb], fun k h2 h8 h9 => by simp [mx_up, h8, h9]⟩, ⟨by simp [mx_up], by simp [mx_up], hlt⟩, by simp [mx_up]⟩
theorem tk_ref_out : tk_out I (mx_up I te 2 (nI (tq_b f L c))) te f L (.inl c) :=
  ⟨⟨fun b hb => by funext q; simp [mx_up, hb], fun k h2 h8 h9 => by simp [mx_up, h2]⟩, by show mx_up I te 2 (nI (tq_b f L c)) te 2 = _; simp [mx_up]⟩
theorem c_Te_next (hTe : te_ok S P te) (ha : tk_tok I te f L) (hc : tk_cur I te f L c) (hlt : c < tq_n f L)  : mx_C l E M_Te_next 0 0 0 [.ref (te)] (t, S, I, P, J) (mx_rv (t, S, (mx_up (mx_up I te 8 (nI (c + 1))) te 9 (nI (tq_k f L (tq_b f L (c + 1))))), P, J)) := by
  obtain ⟨hT0, hT1, hT2, hT3, hT4, hT5, hT6, hT7, hT8, hT9, hT10⟩ := id hTe
  obtain ⟨hx, hrow, h7⟩ := id ha
  obtain ⟨hy0, hy1, hL⟩ := id hx
  obtain ⟨h8, h9, hcT⟩ := id hc
  have hTL := tq_n_le f L
  refine mx_C_of (ls0 := [some (.ref (te)), none]) (by decide +kernel) rfl rfl (Nat.le_of_ble_eq_true rfl) rfl ?_
  refine mx_al0 d_Te_next_0 ?_
  refine mx_getI d_Te_next_1 fl_Te_59 (by assumption) ?_
  refine mx_ti (y := nI (c)) (h8) ?_
  refine mx_in_1 d_Te_next_4 ?_
  refine mx_iaddN d_Te_next_5 ?_
  refine mx_is1 d_Te_next_6 ?_
  refine mx_il1 d_Te_next_7 ?_
  refine mx_if_lt 43 d_Te_next_8 (by decide) (fun c_8 => absurd c_8 (nI_pos (by omega))) (fun c_8 => ?_)
  refine mx_il1 d_Te_next_11 ?_
  refine mx_al0 d_Te_next_12 ?_
  refine mx_getI d_Te_next_13 fl_Te_38 (by assumption) ?_
  refine mx_ti (y := nI (tq_n f L + 1)) (h7) ?_
  refine mx_icN_ge 43 d_Te_next_16 (by decide) (by omega) (by omega) (fun c_16 => absurd c_16 (by omega)) (fun c_16 => ?_)
  refine mx_il1 d_Te_next_19 ?_
  refine mx_al0 d_Te_next_20 ?_
  refine mx_getR d_Te_next_21 fl_Te_22 (by assumption) (by assumption) ?_
  refine mx_alen d_Te_next_24 (by assumption) ?_
  refine mx_icN_ge 43 d_Te_next_25 (by decide) (by omega) (by omega) (fun c_25 => absurd c_25 (by omega)) (fun c_25 => ?_)
  refine mx_al0 d_Te_next_28 ?_
  refine mx_il1 d_Te_next_29 ?_
  refine mx_putI d_Te_next_30 fl_Te_59 (by assumption) ?_
  refine mx_al0 d_Te_next_33 ?_
  refine mx_al0 d_Te_next_34 ?_
  refine mx_getR d_Te_next_35 fl_Te_22 (by assumption) (by assumption) ?_
  refine mx_il1 d_Te_next_38 ?_
  refine mx_iald d_Te_next_39 (by assumption) (nI_inb (by omega) (by omega)) ?_
  refine mx_ti (y := (mx_up I (te) 8 (nI (c + 1))) (te + 2) (c + 1)) (by rw [nI_clamp (by omega)]) ?_
  refine mx_ti (y := nI (tq_k f L (tq_b f L (c + 1)))) ((by rw [mx_up_ne (by omega)]; exact (hrow (c + 1) (by omega)).1)) ?_
  refine mx_putI d_Te_next_40 fl_Te_62 (by assumption) ?_
  exact mx_vret d_Te_next_43 rfl (mx_rv_of rfl)
theorem c_Te_refuse (hTe : te_ok S P te) (ha : tk_tok I te f L) (hc : tk_cur I te f L c)  : mx_C l E M_Te_refuse 0 0 0 [.ref (te)] (t, S, I, P, J) (mx_ri (bI false) (t, S, mx_up I te 2 (nI (tq_b f L c)), P, J)) := by
  obtain ⟨hT0, hT1, hT2, hT3, hT4, hT5, hT6, hT7, hT8, hT9, hT10⟩ := id hTe
  obtain ⟨hx, hrow, h7⟩ := id ha
  obtain ⟨hy0, hy1, hL⟩ := id hx
  obtain ⟨h8, h9, hcT⟩ := id hc
  have hTL := tq_n_le f L
  refine mx_C_of (ls0 := [some (.ref (te))]) (by decide +kernel) rfl rfl (Nat.le_of_ble_eq_true rfl) rfl ?_
  refine mx_al0 d_Te_refuse_0 ?_
  refine mx_al0 d_Te_refuse_1 ?_
  refine mx_getI d_Te_refuse_2 fl_Te_59 (by assumption) ?_
  refine mx_ti (y := nI (c)) (h8) ?_
  refine mx_if_lt 32 d_Te_refuse_5 (by decide) (fun c_5 => absurd c_5 (nI_pos (by omega))) (fun c_5 => ?_)
  refine mx_al0 d_Te_refuse_8 ?_
  refine mx_getI d_Te_refuse_9 fl_Te_59 (by assumption) ?_
  refine mx_ti (y := nI (c)) (h8) ?_
  refine mx_al0 d_Te_refuse_12 ?_
  refine mx_getR d_Te_refuse_13 fl_Te_25 (by assumption) (by assumption) ?_
  refine mx_alen d_Te_refuse_16 (by assumption) ?_
  refine mx_icN_ge 32 d_Te_refuse_17 (by decide) (by omega) (by omega) (fun c_17 => absurd c_17 (by omega)) (fun c_17 => ?_)
  refine mx_al0 d_Te_refuse_20 ?_
  refine mx_getR d_Te_refuse_21 fl_Te_25 (by assumption) (by assumption) ?_
  refine mx_al0 d_Te_refuse_24 ?_
  refine mx_getI d_Te_refuse_25 fl_Te_59 (by assumption) ?_
  refine mx_ti (y := nI (c)) (h8) ?_
  refine mx_iald d_Te_refuse_28 (by assumption) (nI_inb (by omega) (by omega)) ?_
  refine mx_ti (y := I (te + 3) (c)) (by rw [nI_clamp (by omega)]) ?_
  refine mx_goto 36 d_Te_refuse_29 (by decide) ?_
  refine mx_ti (y := nI (tq_b f L c)) ((hrow c (by omega)).2.1) ?_
  refine mx_putI d_Te_refuse_36 fl_Te_19 (by assumption) ?_
  refine mx_in_0 d_Te_refuse_39 ?_
  exact mx_zret d_Te_refuse_40 rfl (by first | exact Or.inl rfl | exact Or.inr rfl) (mx_ri_of2 rfl rfl)
theorem gq_tk_y {K : Nat → Nat} {w t : Nat} (h : K t = w) : gq_tk K w t = .inr (t + 1) := if_pos h
theorem gq_tk_n {K : Nat → Nat} {w t : Nat} (h : ¬ K t = w) : gq_tk K w t = .inl t := if_neg h
theorem gq_num_1 {K : Nat → Nat} {V : Nat → Option Nat} {lo hb t : Nat} (h : ¬ K t = 2) : gq_num K V lo hb t = .inl t := if_neg h
theorem gq_num_2 {K : Nat → Nat} {V : Nat → Option Nat} {lo hb t : Nat} (hl : lo < 1000) (hV : ∀ t v, V t = some v → v < 1000) (h : tq_mv (V t) < nI lo) : gq_num K V lo hb t = .inl t := by
  unfold gq_num
  split
  · cases hv : V t with
    | none => rfl
    | some v =>
      rw [hv] at h
      have := hV t v hv
      have h2 : nI v < nI lo := h
      rw [nI_ltI (by omega) (by omega)] at h2
      exact if_neg (by omega)
  · rfl
theorem gq_num_3 {K : Nat → Nat} {V : Nat → Option Nat} {lo hb t : Nat} {hi : Int32} (hhi : ∀ v, v < 1000 → (nI v ≤ hi ↔ v < hb)) (hV : ∀ t v, V t = some v → v < 1000) (h : ¬ tq_mv (V t) ≤ hi) : gq_num K V lo hb t = .inl t := by
  unfold gq_num
  split
  · cases hv : V t with
    | none => rfl
    | some v =>
      rw [hv] at h
      have h3 := hV t v hv
      have h2 : ¬ nI v ≤ hi := h
      rw [hhi v h3] at h2
      exact if_neg (fun z => h2 z.2)
  · rfl
theorem gq_num_4 {K : Nat → Nat} {V : Nat → Option Nat} {lo hb t : Nat} {hi : Int32} (hl : lo < 1000) (hhi : ∀ v, v < 1000 → (nI v ≤ hi ↔ v < hb)) (hV : ∀ t v, V t = some v → v < 1000) (h0 : K t = 2) (h1 : ¬ tq_mv (V t) < nI lo) (h : tq_mv (V t) ≤ hi) : ∃ v, V t = some v ∧ gq_num K V lo hb t = .inr (v, t + 1) := by
  unfold gq_num
  rw [if_pos h0]
  cases hv : V t with
  | none =>
    rw [hv] at h1
    exact absurd (nI_m1lt (by omega)) h1
  | some v =>
    rw [hv] at h h1
    have h3 := hV t v hv
    have h2 : nI v ≤ hi := h
    have h4 : ¬ nI v < nI lo := h1
    rw [hhi v h3] at h2
    rw [nI_ltI (by omega) (by omega)] at h4
    exact ⟨v, rfl, if_pos ⟨by omega, h2⟩⟩
theorem gq_let_1 {K : Nat → Nat} {V : Nat → Option Nat} {t : Nat} (h : K t < 9) : gq_let K V t = .inl t := if_neg (by omega)
theorem gq_let_2 {K : Nat → Nat} {V : Nat → Option Nat} {t : Nat} (hV : ∀ t v, V t = some v → v < 1000) (h : tq_mv (V t) = -1) : gq_let K V t = .inl t := by
  unfold gq_let
  split
  · cases hv : V t with
    | none => rfl
    | some v => rw [hv] at h; exact absurd h (nI_m1b (by have := hV t v hv; omega))
  · rfl
theorem gq_let_3 {K : Nat → Nat} {V : Nat → Option Nat} {t : Nat} (h0 : ¬ K t < 9) (h : ¬ tq_mv (V t) = -1) : ∃ v, V t = some v ∧ gq_let K V t = .inr (v, t + 1) := by
  unfold gq_let
  rw [if_pos (by omega)]
  cases hv : V t with
  | none => rw [hv] at h; exact absurd rfl h
  | some v => exact ⟨v, rfl, rfl⟩
theorem gq_fig_y {K Z : Nat → Nat} {n t : Nat} (h : (if K t = 2 then Z t else 0) = n) : gq_fig K Z n t = .inr (if 0 < n then t + 1 else t) := if_pos h
theorem gq_fig_n {K Z : Nat → Nat} {n t : Nat} (h : ¬ (if K t = 2 then Z t else 0) = n) : gq_fig K Z n t = .inl t := if_neg h
def gq_fv (B : Nat → Nat) (t : Nat) (r : Nat ⊕ Nat) : Int32 := match r with | .inl _ => -1 | .inr _ => nI (B t)
theorem c_Te_takes (hTe : te_ok S P te) (ha : tk_tok I te f L) (hc : tk_cur I te f L c) {w : Nat} (hw0 : 0 < w) (hw : w < 64)  : mx_C l E M_Te_takes 2 0 0 [.ref (te), .int (nI (w))] (t, S, I, P, J) (mx_sR (some (.int (bI (gq_ok (gq_tk (tK f L) w c))))) t S P J (fun K => tk_out I K te f L (gq_tk (tK f L) w c))) := by
  obtain ⟨hT0, hT1, hT2, hT3, hT4, hT5, hT6, hT7, hT8, hT9, hT10⟩ := id hTe
  obtain ⟨hx, hrow, h7⟩ := id ha
  obtain ⟨hy0, hy1, hL⟩ := id hx
  obtain ⟨h8, h9, hcT⟩ := id hc
  have hTL := tq_n_le f L
  refine mx_C_of (ls0 := [some (.ref (te)), some (.int (nI (w)))]) (by decide +kernel) rfl rfl (Nat.le_of_ble_eq_true rfl) rfl ?_
  refine mx_al0 d_Te_takes_0 ?_
  refine mx_getI d_Te_takes_1 fl_Te_62 (by assumption) ?_
  refine mx_ti (y := nI (tq_k f L (tq_b f L c))) (h9) ?_
  refine mx_il1 d_Te_takes_4 ?_
  have hk36 := tq_k_lt f L (tq_b f L c)
  refine mx_icN_eq 13 d_Te_takes_5 (by decide) (by omega) (by omega) (fun c_5 => ?_) (fun c_5 => ?_)
  · skip
    refine mx_al0 d_Te_takes_13 ?_
    have hk0 : ¬ tK f L c = 0 := by show ¬ tq_k f L (tq_b f L c) = 0; omega
    refine mx_cV0v d_Te_takes_14 (c_Te_next hTe ha hc (tK_T hk0)) ok_Te_next ml_Te_159 (by assumption) ⟨rfl, rfl⟩ (by decide) (Nat.le_of_ble_eq_true rfl) ?_
    refine mx_in_1 d_Te_takes_17 ?_
    exact mx_zret d_Te_takes_18 rfl (by first | exact Or.inl rfl | exact Or.inr rfl) (mx_sR_i (by rw [gq_tk_y (K := tK f L) c_5]; rfl) (by rw [gq_tk_y (K := tK f L) c_5]; exact tk_next_out hc (tK_T hk0)))
  · skip
    refine mx_al0 d_Te_takes_8 ?_
    refine mx_cV0i d_Te_takes_9 (c_Te_refuse hTe ha hc) ok_Te_refuse ml_Te_155 (by assumption) ⟨rfl, rfl⟩ (by decide) (Nat.le_of_ble_eq_true rfl) ?_
    exact mx_zret d_Te_takes_12 rfl (bI_01 _) (mx_sR_i (by rw [gq_tk_n (K := tK f L) c_5]; rfl) (by rw [gq_tk_n (K := tK f L) c_5]; exact tk_ref_out))
theorem c_Te_number (hTe : te_ok S P te) (ha : tk_tok I te f L) (hc : tk_cur I te f L c) {lo hb : Nat} {hi : Int32} (hlo : lo < 1000) (hhi : ∀ v, v < 1000 → (nI v ≤ hi ↔ v < hb))  : mx_C l E M_Te_number 1 0 0 [.ref (te), .int (nI (lo)), .int (hi)] (t, S, I, P, J) (mx_sR (some (.int (gq_vl (gq_num (tK f L) (tV f L) lo hb c)))) t S P J (fun K => tk_out I K te f L (gq_nx (gq_num (tK f L) (tV f L) lo hb c)))) := by
  obtain ⟨hT0, hT1, hT2, hT3, hT4, hT5, hT6, hT7, hT8, hT9, hT10⟩ := id hTe
  obtain ⟨hx, hrow, h7⟩ := id ha
  obtain ⟨hy0, hy1, hL⟩ := id hx
  obtain ⟨h8, h9, hcT⟩ := id hc
  have hTL := tq_n_le f L
  refine mx_C_of (ls0 := [some (.ref (te)), some (.int (nI (lo))), some (.int (hi)), none]) (by decide +kernel) rfl rfl (Nat.le_of_ble_eq_true rfl) rfl ?_
  refine mx_al0 d_Te_number_0 ?_
  refine mx_getR d_Te_number_1 fl_Te_31 (by assumption) (by assumption) ?_
  refine mx_al0 d_Te_number_4 ?_
  refine mx_getI d_Te_number_5 fl_Te_59 (by assumption) ?_
  refine mx_ti (y := nI (c)) (h8) ?_
  refine mx_cSN2i d_Te_number_8 (c_get (k := c) (by assumption) (by omega) (by omega)) ok_Vh_get ml_Te_41 (by decide) (Nat.le_of_ble_eq_true rfl) ?_
  refine mx_ti (y := (tq_mv (tV f L c))) ((hrow c (by omega)).2.2.2) ?_
  refine mx_is3 d_Te_number_11 ?_
  refine mx_al0 d_Te_number_12 ?_
  refine mx_getI d_Te_number_13 fl_Te_62 (by assumption) ?_
  refine mx_ti (y := nI (tq_k f L (tq_b f L c))) (h9) ?_
  refine mx_in_2 d_Te_number_16 ?_
  have hk36 := tq_k_lt f L (tq_b f L c)
  refine mx_icN_ne 30 d_Te_number_17 (by decide) (by omega) (by omega) (fun c_17 => ?_) (fun c_17 => ?_)
  · skip
    have hq : gq_num (tK f L) (tV f L) lo hb c = .inl c := gq_num_1 c_17
    refine mx_al0 d_Te_number_30 ?_
    refine mx_cV0i d_Te_number_31 (c_Te_refuse hTe ha hc) ok_Te_refuse ml_Te_155 (by assumption) ⟨rfl, rfl⟩ (by decide) (Nat.le_of_ble_eq_true rfl) ?_
    refine mx_pop d_Te_number_34 rfl ?_
    refine mx_ic_m1 d_Te_number_35 ?_
    exact mx_iret d_Te_number_36 rfl (mx_sR_i (by rw [hq]; rfl) (by rw [hq]; exact tk_ref_out))
  · skip
    refine mx_il3 d_Te_number_20 ?_
    refine mx_il1 d_Te_number_21 ?_
    refine mx_icmp_lt 30 d_Te_number_22 (by decide) (fun c_22 => ?_) (fun c_22 => ?_)
    · skip
      have hq : gq_num (tK f L) (tV f L) lo hb c = .inl c := gq_num_2 hlo tV1 c_22
      refine mx_al0 d_Te_number_30 ?_
      refine mx_cV0i d_Te_number_31 (c_Te_refuse hTe ha hc) ok_Te_refuse ml_Te_155 (by assumption) ⟨rfl, rfl⟩ (by decide) (Nat.le_of_ble_eq_true rfl) ?_
      refine mx_pop d_Te_number_34 rfl ?_
      refine mx_ic_m1 d_Te_number_35 ?_
      exact mx_iret d_Te_number_36 rfl (mx_sR_i (by rw [hq]; rfl) (by rw [hq]; exact tk_ref_out))
    · skip
      refine mx_il3 d_Te_number_25 ?_
      refine mx_il2 d_Te_number_26 ?_
      refine mx_icmp_le 37 d_Te_number_27 (by decide) (fun c_27 => ?_) (fun c_27 => ?_)
      · skip
        refine mx_al0 d_Te_number_37 ?_
        obtain ⟨v, hv, hq⟩ := gq_num_4 (K := tK f L) (V := tV f L) (t := c) hlo hhi tV1 c_17 c_22 c_27
        have hk0 : ¬ tK f L c = 0 := by rw [show tK f L c = 2 from c_17]; omega
        refine mx_cV0v d_Te_number_38 (c_Te_next hTe ha hc (tK_T hk0)) ok_Te_next ml_Te_159 (by assumption) ⟨rfl, rfl⟩ (by decide) (Nat.le_of_ble_eq_true rfl) ?_
        refine mx_il3 d_Te_number_41 ?_
        exact mx_iret d_Te_number_42 rfl (mx_sR_i (by rw [hq, hv]; rfl) (by rw [hq]; exact tk_next_out hc (tK_T hk0)))
      · skip
        have hq : gq_num (tK f L) (tV f L) lo hb c = .inl c := gq_num_3 hhi tV1 c_27
        refine mx_al0 d_Te_number_30 ?_
        refine mx_cV0i d_Te_number_31 (c_Te_refuse hTe ha hc) ok_Te_refuse ml_Te_155 (by assumption) ⟨rfl, rfl⟩ (by decide) (Nat.le_of_ble_eq_true rfl) ?_
        refine mx_pop d_Te_number_34 rfl ?_
        refine mx_ic_m1 d_Te_number_35 ?_
        exact mx_iret d_Te_number_36 rfl (mx_sR_i (by rw [hq]; rfl) (by rw [hq]; exact tk_ref_out))
theorem c_Te_letters (hTe : te_ok S P te) (ha : tk_tok I te f L) (hc : tk_cur I te f L c)  : mx_C l E M_Te_letters 1 0 0 [.ref (te)] (t, S, I, P, J) (mx_sR (some (.int (gq_vl (gq_let (tK f L) (tV f L) c)))) t S P J (fun K => tk_out I K te f L (gq_nx (gq_let (tK f L) (tV f L) c)))) := by
  obtain ⟨hT0, hT1, hT2, hT3, hT4, hT5, hT6, hT7, hT8, hT9, hT10⟩ := id hTe
  obtain ⟨hx, hrow, h7⟩ := id ha
  obtain ⟨hy0, hy1, hL⟩ := id hx
  obtain ⟨h8, h9, hcT⟩ := id hc
  have hTL := tq_n_le f L
  refine mx_C_of (ls0 := [some (.ref (te)), none]) (by decide +kernel) rfl rfl (Nat.le_of_ble_eq_true rfl) rfl ?_
  refine mx_al0 d_Te_letters_0 ?_
  refine mx_getR d_Te_letters_1 fl_Te_31 (by assumption) (by assumption) ?_
  refine mx_al0 d_Te_letters_4 ?_
  refine mx_getI d_Te_letters_5 fl_Te_59 (by assumption) ?_
  refine mx_ti (y := nI (c)) (h8) ?_
  refine mx_cSN2i d_Te_letters_8 (c_get (k := c) (by assumption) (by omega) (by omega)) ok_Vh_get ml_Te_41 (by decide) (Nat.le_of_ble_eq_true rfl) ?_
  refine mx_ti (y := (tq_mv (tV f L c))) ((hrow c (by omega)).2.2.2) ?_
  refine mx_is1 d_Te_letters_11 ?_
  refine mx_al0 d_Te_letters_12 ?_
  refine mx_getI d_Te_letters_13 fl_Te_62 (by assumption) ?_
  refine mx_ti (y := nI (tq_k f L (tq_b f L c))) (h9) ?_
  refine mx_bip 9 d_Te_letters_16 (by decide) ?_
  have hk36 := tq_k_lt f L (tq_b f L c)
  refine mx_icN_lt 26 d_Te_letters_18 (by decide) (by omega) (by omega) (fun c_18 => ?_) (fun c_18 => ?_)
  · skip
    have hq : gq_let (tK f L) (tV f L) c = .inl c := gq_let_1 c_18
    refine mx_al0 d_Te_letters_26 ?_
    refine mx_cV0i d_Te_letters_27 (c_Te_refuse hTe ha hc) ok_Te_refuse ml_Te_155 (by assumption) ⟨rfl, rfl⟩ (by decide) (Nat.le_of_ble_eq_true rfl) ?_
    refine mx_pop d_Te_letters_30 rfl ?_
    refine mx_ic_m1 d_Te_letters_31 ?_
    exact mx_iret d_Te_letters_32 rfl (mx_sR_i (by rw [hq]; rfl) (by rw [hq]; exact tk_ref_out))
  · skip
    refine mx_il1 d_Te_letters_21 ?_
    refine mx_ic_m1 d_Te_letters_22 ?_
    refine mx_icmp_ne 33 d_Te_letters_23 (by decide) (fun c_23 => ?_) (fun c_23 => ?_)
    · skip
      refine mx_al0 d_Te_letters_33 ?_
      obtain ⟨v, hv, hq⟩ := gq_let_3 (K := tK f L) (V := tV f L) (t := c) (Nat.not_lt.mpr c_18) c_23
      have hk0 : ¬ tK f L c = 0 := by show ¬ tq_k f L (tq_b f L c) = 0; omega
      refine mx_cV0v d_Te_letters_34 (c_Te_next hTe ha hc (tK_T hk0)) ok_Te_next ml_Te_159 (by assumption) ⟨rfl, rfl⟩ (by decide) (Nat.le_of_ble_eq_true rfl) ?_
      refine mx_il1 d_Te_letters_37 ?_
      exact mx_iret d_Te_letters_38 rfl (mx_sR_i (by rw [hq, hv]; rfl) (by rw [hq]; exact tk_next_out hc (tK_T hk0)))
    · skip
      have hq : gq_let (tK f L) (tV f L) c = .inl c := gq_let_2 tV1 c_23
      refine mx_al0 d_Te_letters_26 ?_
      refine mx_cV0i d_Te_letters_27 (c_Te_refuse hTe ha hc) ok_Te_refuse ml_Te_155 (by assumption) ⟨rfl, rfl⟩ (by decide) (Nat.le_of_ble_eq_true rfl) ?_
      refine mx_pop d_Te_letters_30 rfl ?_
      refine mx_ic_m1 d_Te_letters_31 ?_
      exact mx_iret d_Te_letters_32 rfl (mx_sR_i (by rw [hq]; rfl) (by rw [hq]; exact tk_ref_out))
theorem tq_sz_lt {f : Nat → Nat} {L a : Nat} : tq_sz f L a ≤ L := by
  unfold tq_sz
  split
  · rename_i h; have := tq_en_gt (f := f) h; omega
  · omega
theorem c_Te_figures (hTe : te_ok S P te) (ha : tk_tok I te f L) (hc : tk_cur I te f L c) (hn8 : n ≤ 8)  : mx_C l E M_Te_figures 1 0 0 [.ref (te), .int (nI (n))] (t, S, I, P, J) (mx_sR (some (.int (gq_fv (tq_b f L) c (gq_fig (tK f L) (tZ f L) n c)))) t S P J (fun K => tk_out I K te f L (gq_fig (tK f L) (tZ f L) n c))) := by
  obtain ⟨hT0, hT1, hT2, hT3, hT4, hT5, hT6, hT7, hT8, hT9, hT10⟩ := id hTe
  obtain ⟨hx, hrow, h7⟩ := id ha
  obtain ⟨hy0, hy1, hL⟩ := id hx
  obtain ⟨h8, h9, hcT⟩ := id hc
  have hTL := tq_n_le f L
  refine mx_C_of (ls0 := [some (.ref (te)), some (.int (nI (n))), none, none]) (by decide +kernel) rfl rfl (Nat.le_of_ble_eq_true rfl) rfl ?_
  refine mx_al0 d_Te_figures_0 ?_
  refine mx_getI d_Te_figures_1 fl_Te_62 (by assumption) ?_
  refine mx_ti (y := nI (tq_k f L (tq_b f L c))) (h9) ?_
  refine mx_in_2 d_Te_figures_4 ?_
  have hk36 := tq_k_lt f L (tq_b f L c)
  have hsz := tq_sz_lt (f := f) (L := L) (a := tq_b f L c)
  have hsz2 : (if tK f L c = 2 then tZ f L c else 0) ≤ 400 := by show (if _ then tq_sz f L (tq_b f L c) else 0) ≤ 400; split <;> omega
  refine mx_icN_ne 22 d_Te_figures_5 (by decide) (by omega) (by omega) (fun c_5 => ?_) (fun c_5 => ?_)
  · skip
    refine mx_in_0 d_Te_figures_22 ?_
    refine mx_ti (y := nI (if tK f L c = 2 then tZ f L c else 0)) (congrArg nI (if_neg c_5).symm) ?_
    refine mx_is2 d_Te_figures_23 ?_
    refine mx_al0 d_Te_figures_24 ?_
    refine mx_getR d_Te_figures_25 fl_Te_25 (by assumption) (by assumption) ?_
    refine mx_al0 d_Te_figures_28 ?_
    refine mx_getI d_Te_figures_29 fl_Te_59 (by assumption) ?_
    refine mx_ti (y := nI (c)) (h8) ?_
    refine mx_cSN2i d_Te_figures_32 (c_get (k := c) (by assumption) (by omega) (by omega)) ok_Vh_get ml_Te_41 (by decide) (Nat.le_of_ble_eq_true rfl) ?_
    refine mx_ti (y := nI (tq_b f L c)) ((hrow c (by omega)).2.1) ?_
    refine mx_is3 d_Te_figures_35 ?_
    refine mx_il2 d_Te_figures_36 ?_
    refine mx_il1 d_Te_figures_37 ?_
    refine mx_icN_eq 48 d_Te_figures_38 (by decide) (by omega) (by omega) (fun c_38 => ?_) (fun c_38 => ?_)
    · skip
      refine mx_il1 d_Te_figures_48 ?_
      refine mx_if_le 56 d_Te_figures_49 (by decide) (fun c_49 => ?_) (fun c_49 => ?_)
      · skip
        have hn0 : n = 0 := (Nat.eq_zero_or_pos n).elim id (fun z => absurd c_49 (Int32.not_le.mpr ((nI_ltI (a := 0) (by omega) (by omega)).mpr z)))
        refine mx_il3 d_Te_figures_56 ?_
        exact mx_iret d_Te_figures_57 rfl (mx_sR_i (by rw [gq_fig_y (K := tK f L) (Z := tZ f L) c_38]; rfl) (by first | (rw [gq_fig_y (K := tK f L) (Z := tZ f L) c_38, if_pos hn1]; exact tk_next_out hc (tK_T hk0)) | (rw [gq_fig_y (K := tK f L) (Z := tZ f L) c_38, if_neg (by omega)]; exact ⟨tk_off.rf, hc, rfl⟩)))
      · skip
        have hn1 : 0 < n := (Nat.eq_zero_or_pos n).elim (fun z => absurd (by rw [z]; decide) c_49) id
        refine mx_al0 d_Te_figures_52 ?_
        have hk0 : ¬ tK f L c = 0 := by rw [show tK f L c = 2 from Decidable.byContradiction (fun z => by rw [if_neg z] at c_38; omega)]; omega
        refine mx_cV0v d_Te_figures_53 (c_Te_next hTe ha hc (tK_T hk0)) ok_Te_next ml_Te_159 (by assumption) ⟨rfl, rfl⟩ (by decide) (Nat.le_of_ble_eq_true rfl) ?_
        refine mx_il3 d_Te_figures_56 ?_
        exact mx_iret d_Te_figures_57 rfl (mx_sR_i (by rw [gq_fig_y (K := tK f L) (Z := tZ f L) c_38]; rfl) (by first | (rw [gq_fig_y (K := tK f L) (Z := tZ f L) c_38, if_pos hn1]; exact tk_next_out hc (tK_T hk0)) | (rw [gq_fig_y (K := tK f L) (Z := tZ f L) c_38, if_neg (by omega)]; exact ⟨tk_off.rf, hc, rfl⟩)))
    · skip
      refine mx_al0 d_Te_figures_41 ?_
      refine mx_cV0i d_Te_figures_42 (c_Te_refuse hTe ha hc) ok_Te_refuse ml_Te_155 (by assumption) ⟨rfl, rfl⟩ (by decide) (Nat.le_of_ble_eq_true rfl) ?_
      refine mx_pop d_Te_figures_45 rfl ?_
      refine mx_ic_m1 d_Te_figures_46 ?_
      exact mx_iret d_Te_figures_47 rfl (mx_sR_i (by rw [gq_fig_n (K := tK f L) (Z := tZ f L) c_38]; rfl) (by rw [gq_fig_n (K := tK f L) (Z := tZ f L) c_38]; exact tk_ref_out))
  · skip
    refine mx_al0 d_Te_figures_8 ?_
    refine mx_getR d_Te_figures_9 fl_Te_28 (by assumption) (by assumption) ?_
    refine mx_al0 d_Te_figures_12 ?_
    refine mx_getI d_Te_figures_13 fl_Te_59 (by assumption) ?_
    refine mx_ti (y := nI (c)) (h8) ?_
    refine mx_cSN2i d_Te_figures_16 (c_get (k := c) (by assumption) (by omega) (by omega)) ok_Vh_get ml_Te_41 (by decide) (Nat.le_of_ble_eq_true rfl) ?_
    refine mx_ti (y := nI (tq_sz f L (tq_b f L c))) ((hrow c (by omega)).2.2.1) ?_
    refine mx_goto 23 d_Te_figures_19 (by decide) ?_
    refine mx_ti (y := nI (if tK f L c = 2 then tZ f L c else 0)) (congrArg nI (if_pos c_5).symm) ?_
    refine mx_is2 d_Te_figures_23 ?_
    refine mx_al0 d_Te_figures_24 ?_
    refine mx_getR d_Te_figures_25 fl_Te_25 (by assumption) (by assumption) ?_
    refine mx_al0 d_Te_figures_28 ?_
    refine mx_getI d_Te_figures_29 fl_Te_59 (by assumption) ?_
    refine mx_ti (y := nI (c)) (h8) ?_
    refine mx_cSN2i d_Te_figures_32 (c_get (k := c) (by assumption) (by omega) (by omega)) ok_Vh_get ml_Te_41 (by decide) (Nat.le_of_ble_eq_true rfl) ?_
    refine mx_ti (y := nI (tq_b f L c)) ((hrow c (by omega)).2.1) ?_
    refine mx_is3 d_Te_figures_35 ?_
    refine mx_il2 d_Te_figures_36 ?_
    refine mx_il1 d_Te_figures_37 ?_
    refine mx_icN_eq 48 d_Te_figures_38 (by decide) (by omega) (by omega) (fun c_38 => ?_) (fun c_38 => ?_)
    · skip
      refine mx_il1 d_Te_figures_48 ?_
      refine mx_if_le 56 d_Te_figures_49 (by decide) (fun c_49 => ?_) (fun c_49 => ?_)
      · skip
        have hn0 : n = 0 := (Nat.eq_zero_or_pos n).elim id (fun z => absurd c_49 (Int32.not_le.mpr ((nI_ltI (a := 0) (by omega) (by omega)).mpr z)))
        refine mx_il3 d_Te_figures_56 ?_
        exact mx_iret d_Te_figures_57 rfl (mx_sR_i (by rw [gq_fig_y (K := tK f L) (Z := tZ f L) c_38]; rfl) (by first | (rw [gq_fig_y (K := tK f L) (Z := tZ f L) c_38, if_pos hn1]; exact tk_next_out hc (tK_T hk0)) | (rw [gq_fig_y (K := tK f L) (Z := tZ f L) c_38, if_neg (by omega)]; exact ⟨tk_off.rf, hc, rfl⟩)))
      · skip
        have hn1 : 0 < n := (Nat.eq_zero_or_pos n).elim (fun z => absurd (by rw [z]; decide) c_49) id
        refine mx_al0 d_Te_figures_52 ?_
        have hk0 : ¬ tK f L c = 0 := by rw [show tK f L c = 2 from Decidable.byContradiction (fun z => by rw [if_neg z] at c_38; omega)]; omega
        refine mx_cV0v d_Te_figures_53 (c_Te_next hTe ha hc (tK_T hk0)) ok_Te_next ml_Te_159 (by assumption) ⟨rfl, rfl⟩ (by decide) (Nat.le_of_ble_eq_true rfl) ?_
        refine mx_il3 d_Te_figures_56 ?_
        exact mx_iret d_Te_figures_57 rfl (mx_sR_i (by rw [gq_fig_y (K := tK f L) (Z := tZ f L) c_38]; rfl) (by first | (rw [gq_fig_y (K := tK f L) (Z := tZ f L) c_38, if_pos hn1]; exact tk_next_out hc (tK_T hk0)) | (rw [gq_fig_y (K := tK f L) (Z := tZ f L) c_38, if_neg (by omega)]; exact ⟨tk_off.rf, hc, rfl⟩)))
    · skip
      refine mx_al0 d_Te_figures_41 ?_
      refine mx_cV0i d_Te_figures_42 (c_Te_refuse hTe ha hc) ok_Te_refuse ml_Te_155 (by assumption) ⟨rfl, rfl⟩ (by decide) (Nat.le_of_ble_eq_true rfl) ?_
      refine mx_pop d_Te_figures_45 rfl ?_
      refine mx_ic_m1 d_Te_figures_46 ?_
      exact mx_iret d_Te_figures_47 rfl (mx_sR_i (by rw [gq_fig_n (K := tK f L) (Z := tZ f L) c_38]; rfl) (by rw [gq_fig_n (K := tK f L) (Z := tZ f L) c_38]; exact tk_ref_out))
end AP57
