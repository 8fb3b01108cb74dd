/-! WHAT THE REFERENCE ASKS OF THE LAW -/
section AY66
variable {l : Launch} {E : mx_Env} {t : Nat} {S : mx_S} {I K K2 M : mx_I} {P : mx_P} {J : mx_G} {mo L n tt k h g q : Nat} {f : Nat → Nat} {v : Int32} {fc m : Nat → Int32} {s : List gq_L} {D : lwD}
theorem mx_cV1y {M M' : mx_M} {d d' k n pc nx idx c a : Nat} {ls : List (Option Value)} {st : List Value} {X : mx_H} {Q : mx_R → mx_H → Prop} {R : Int32 → mx_I → Prop} {v0 : Value} {q : vw_C} (hd : mx_d M pc (.invokevirtual idx) 3 nx) (hc : mx_C l E M' d' 0 0 [.ref a, v0] X (mx_vR t S P J R)) (hM : mx_okM M' 1) (hw : Cond.methodLink (mx_own M) idx (mx_y M') ∈ mx_W ∧ Cond.instanceMethod (mx_y M') ∈ mx_W ∧ Cond.selects (mx_y M').cls (mx_y M') (mx_y M') ∈ mx_W) (hs : X.2.1 a = some (0, c)) (hq : mx_cl[c]? = some q ∧ q.1 = (mx_y M').cls) (hdd : d' + 1 ≤ d) (hcat : (st.map fun v => v.category).sum ≤ 8) (kk : ∀ v K, R v K → mx_E l E M d k n nx ls (.int v :: st) (t, S, K, P, J) Q) : mx_E l E M d k n pc ls (v0 :: .ref a :: st) X Q :=
  mx_callV (k2 := k) (n2 := n) hd hc hM hw hs hq rfl rfl hcat hdd (by omega) (by omega) (fun w X9 h => by obtain ⟨v, K, h1, rfl, h2⟩ := h; cases h1; exact kk v K h2) (fun C X9 h => by obtain ⟨v, K, h1, -⟩ := h; cases h1)
/-- the law's text in the row m, and the law D that it tells -/
def tx_law (D : lwD) (m : Nat → Int32) : Prop := (m 1 < nI 1 ∧ lwN D = 0) ∨ ∃ f L s, m 1 = nI s.length ∧ 1 ≤ s.length ∧ s.length ≤ 12 ∧ m 2 = nI L ∧ L ≤ 400 ∧ (∀ k, k < 400 → f k < 256 ∧ m (619 + k) = nI (f k)) ∧ gq_law (tK f L) (tV f L) = .inr s ∧ D = gq_D s
theorem tx_law.cg {m' : Nat → Int32} (h : tx_law D m) (e1 : m' 1 = m 1) (e2 : m' 2 = m 2) (e3 : ∀ k, 619 ≤ k → m' k = m k) : tx_law D m' := by
  rcases h with ⟨h1, h2⟩ | ⟨f, L, s, h1, h2, h3, h4, h5, h6, h7⟩
  · exact Or.inl ⟨by rw [e1]; exact h1, h2⟩
  · exact Or.inr ⟨f, L, s, by rw [e1]; exact h1, h2, h3, by rw [e2]; exact h4, h5, fun k hk => by rw [e3 (619 + k) (by omega)]; exact h6 k hk, h7⟩
theorem li_hv {j : Nat} (fc : Nat → Int32) (s : List gq_L) : gq_hv s fc j = li_h fc (s.getD j (0, 0, [])) := rfl
theorem lf_take (hj : k < s.length) : s.take (k + 1) = s.take k ++ [s.getD k (0, 0, [])] := by
  rw [List.take_add_one, List.getElem?_eq_getElem hj, List.getD_eq_getElem?_getD, List.getElem?_eq_getElem hj]; rfl
theorem lf_gl (hs : ∀ x ∈ s, x.1 = 29 ∨ x.1 = 30 ∨ x.1 = 31) : ∀ n, n ≤ s.length → lf_g fc (s.take n) (nI 0) = lw_gl (gq_kd s) (gq_ma s) (gq_hv s fc) n
  | 0, _ => rfl
  | n + 1, hn => by
    have hx : (s.getD n (0, 0, [])).1 = 29 ∨ (s.getD n (0, 0, [])).1 = 30 ∨ (s.getD n (0, 0, [])).1 = 31 := by
      rw [List.getD_eq_getElem?_getD, List.getElem?_eq_getElem (by omega)]
      exact hs _ (List.getElem_mem (by omega))
    rw [lf_take (by omega), lw_gl_s, ← lf_gl hs n (by omega)]
    have e : lf_g fc (s.take n ++ [s.getD n (0, 0, [])]) (nI 0) = li_g fc (s.getD n (0, 0, [])) (lf_g fc (s.take n) (nI 0)) := by unfold lf_g; rw [List.foldl_append]; rfl
    rw [e, li_hv]
    unfold li_g gq_kd gq_ma
    have H0 : ∀ p : Prop, p = p := fun _ => rfl
    by_cases c : li_h fc (s.getD n (0, 0, [])) = true
    · rw [if_pos c]
      by_cases c31 : (s.getD n (0, 0, [])).1 = 31
      · rw [if_neg (show ¬ (s.getD n (0, 0, [])).1 = 29 by omega), if_neg (show ¬ (s.getD n (0, 0, [])).1 = 30 by omega), if_neg (show ¬ (¬ (s.getD n (0, 0, [])).1 = 31 ∧ li_h fc (s.getD n (0, 0, [])) = true) from fun z => z.1 c31)]
        exact Int32.add_zero _
      · rw [if_pos (show ¬ (s.getD n (0, 0, [])).1 = 31 ∧ li_h fc (s.getD n (0, 0, [])) = true from ⟨c31, c⟩)]
        by_cases c29 : (s.getD n (0, 0, [])).1 = 29
        · rw [if_pos c29, if_pos c29]
        · rw [if_neg c29, if_neg c29, if_pos (show (s.getD n (0, 0, [])).1 = 30 by omega)]
    · rw [if_neg c, if_neg (show ¬ (¬ (s.getD n (0, 0, [])).1 = 31 ∧ li_h fc (s.getD n (0, 0, [])) = true) from fun z => c z.2)]
theorem bI_eq0 {b : Bool} : decide (¬ bI b = 0) = b := by cases b <;> decide
theorem lf_hh : ∀ n, n ≤ s.length → lf_h (s.take n) (nI 0) = bI (vs_any (fun j => decide (gq_kd s j = 31)) n)
  | 0, _ => rfl
  | n + 1, hn => by
    rw [lf_take (by omega), vs_any_s]
    unfold lf_h
    rw [List.foldl_append]
    show bI (decide (¬ lf_h (s.take n) (nI 0) = 0) || decide ((s.getD n (0, 0, [])).1 = 31)) = _
    rw [lf_hh n (by omega), bI_eq0]; rfl
theorem lf_aa : ∀ n, n ≤ s.length → lf_a fc (s.take n) (nI 0) = bI (vs_any (fun j => decide (gq_kd s j = 31) && gq_hv s fc j) n)
  | 0, _ => rfl
  | n + 1, hn => by
    rw [lf_take (by omega), vs_any_s]
    unfold lf_a
    rw [List.foldl_append]
    show li_a fc (s.getD n (0, 0, [])) (lf_a fc (s.take n) (nI 0)) = _
    rw [lf_aa n (by omega)]
    unfold li_a
    rw [bI_eq0, li_hv]
    by_cases c : li_h fc (s.getD n (0, 0, [])) = true
    · rw [if_pos c, c, Bool.and_true]; rfl
    · rw [if_neg c]
      simp only [Bool.not_eq_true] at c
      rw [c, Bool.and_false, Bool.or_false]
theorem gq_line_kd {K : Nat → Nat} {V : Nat → Option Nat} {t : Nat} {q : gq_L × Nat} (h : gq_line K V t = .inr q) : q.1.1 = 29 ∨ q.1.1 = 30 ∨ q.1.1 = 31 := by
  unfold gq_line at h
  split at h
  · rename_i h3
    cases h1 : gq_am K V t with
    | inl e => rw [h1] at h; cases h
    | inr p =>
      rw [h1] at h
      simp only at h
      cases h2 : gq_if K V p.2 with
      | inl e => rw [h2] at h; cases h
      | inr r => rw [h2] at h; cases h; exact h3
  · cases h
theorem gq_rd_kd {K : Nat → Nat} {V : Nat → Option Nat} : ∀ n s t s', (∀ x ∈ s, x.1 = 29 ∨ x.1 = 30 ∨ x.1 = 31) → gq_rd K (gq_LN K V) n s t = .inr s' → ∀ x ∈ s', x.1 = 29 ∨ x.1 = 30 ∨ x.1 = 31
  | 0, _, _, _, _, h => by cases h
  | n + 1, s, t, s', h1, h => by
    rw [gq_rd_s] at h
    unfold gq_LN at h
    cases h3 : gq_line K V t with
    | inl e => rw [h3] at h; cases h
    | inr r =>
      rw [h3] at h
      simp only at h
      have h6 : ∀ x ∈ s ++ [r.1], x.1 = 29 ∨ x.1 = 30 ∨ x.1 = 31 := fun x hx => by
        rcases List.mem_append.mp hx with u | u
        · exact h1 x u
        · rw [List.mem_singleton.mp u]; exact gq_line_kd h3
      split at h
      · cases h; exact h6
      · split at h
        · exact gq_rd_kd n _ _ s' h6 h
        · cases h
theorem gq_law_kd {K : Nat → Nat} {V : Nat → Option Nat} {s : List gq_L} (h : gq_law K V = .inr s) : ∀ x ∈ s, x.1 = 29 ∨ x.1 = 30 ∨ x.1 = 31 := by
  unfold gq_law gq_read at h
  split at h
  · cases h; exact fun x hx => absurd hx (by simp)
  · exact gq_rd_kd 12 [] 0 s (fun x hx => absurd hx (by simp)) h
theorem ak_hx (h1 : M (mo + 1) = m) (h9 : M mo 9 = nI 619) (h10 : M mo 10 = nI L) (hL : L ≤ 400) (hf : ∀ k, k < 400 → f k < 256 ∧ m (619 + k) = nI (f k)) : mt_tx M mo f L := ⟨h10, hL, fun k hk => (hf k hk).1, Or.inr ⟨h9, fun k hk => by rw [h1]; exact (hf k hk).2⟩⟩
theorem ak_hs (h11 : M mo 11 = nI 0) (h12 : M mo 12 = -1) (h13 : M mo 13 = nI 0) : ml_s M M mo f L 0 := ⟨ml_off.rf, h12, ⟨0, h11, Nat.zero_le _, rfl, Nat.zero_le _⟩, h13⟩
theorem bI_and1 (b : Bool) : bI b &&& 1 = bI b := by cases b <;> decide
theorem ak_end {v9 : Int32} (hr : rw_out M K mo f L (vs_fc m h g q) v9 (gq_law (tK f L) (tV f L))) (hlaw : gq_law (tK f L) (tV f L) = .inr s) (hD : D = gq_D s) (h1 : ∀ c, c ≠ mo → c ≠ mo + 6 → M c = I c) (h2 : ∀ f, f ≤ 8 ∨ f = 14 ∨ 20 ≤ f → M mo f = I mo f) (h15 : M mo 15 = bI (vs_pass m (m (43 + 3 * g + 2)))) (h17 : M mo 17 = nI 0) (h18 : M mo 18 = nI 0) (h19 : M mo 19 = nI 0) : ak_fin I (mx_up K mo 12 (I mo 12)) mo D m h g q := by
  rw [hlaw] at hr
  obtain ⟨o1, o2, -, o3, o4, o5⟩ := hr
  have hk := gq_law_kd hlaw
  subst hD
  refine ⟨fun c a b => ?_, fun f hf => ?_, ?_, ?_, ?_, ?_⟩
  · rw [mx_up_ne a, o1.1 c a, h1 c a b]
  · by_cases e : f = 12
    · subst e; simp [mx_up]
    · rw [← h2 f (by omega), ← o1.2 f (by omega) (by omega) (by omega) (by omega) (by omega) (by omega)]; simp [mx_up, e]
  · rw [← h15, ← o1.2 15 (by omega) (by omega) (by omega) (by omega) (by omega) (by omega)]; simp [mx_up]
  · have e : lf_g (vs_fc m h g q) s (nI 0) = vs_gl (gq_D s) m h g q := by
      have := lf_gl (fc := vs_fc m h g q) hk s.length (Nat.le_refl _)
      rw [List.take_length] at this
      exact this
    rw [← e, ← h17, ← o3]; simp [mx_up]
  · have e : lf_h s (nI 0) = bI (vs_any (fun j => decide (lwK (gq_D s) j = 31)) (lwN (gq_D s))) := by
      have := lf_hh (s := s) s.length (Nat.le_refl _)
      rw [List.take_length] at this
      exact this
    rw [← e, ← h18, ← o4]; simp [mx_up]
  · have e : lf_a (vs_fc m h g q) s (nI 0) = bI (vs_any (fun j => decide (lwK (gq_D s) j = 31) && lwV (gq_D s) (vs_fc m h g q) j) (lwN (gq_D s))) := by
      have := lf_aa (fc := vs_fc m h g q) (s := s) s.length (Nat.le_refl _)
      rw [List.take_length] at this
      exact this
    rw [← e, ← h19, ← o5]; simp [mx_up]
theorem c_Mo_asks0 (hM : mo_ok S P mo) (hm : I (mo + 1) = m) (hh : h < 8) (hg : g < 8) (hq : q < 8) (h1 : m 1 < nI 1) (h0 : lwN D = 0)  : mx_C l E M_Mo_asks 31 0 0 [.ref (mo), .int (nI (h)), .int (nI (g)), .int (nI (q))] (t, S, I, P, J) (mx_sR none t S P J (fun K => ak_fin I K mo D m h g q)) := by
  obtain ⟨hM0, hMp1, hMp2, hMp4, hMp5, hMp7, hMp14, hMp21, hMp22, hMp23, hMp24, hMp25, hMp26, hMp27, hMs1, hMs2, hMs3, hMs4, hMs5, hMs6, hMs7, hMs8, hMs9, hMs10, hMs11, hMs12, hMs13⟩ := id hM
  refine mx_C_of (ls0 := [some (.ref (mo)), some (.int (nI (h))), some (.int (nI (g))), some (.int (nI (q))), none, none]) (by decide +kernel) rfl rfl (Nat.le_of_ble_eq_true rfl) rfl ?_
  refine mx_al0 d_Mo_asks_0 ?_
  refine mx_in_0 d_Mo_asks_1 ?_
  refine mx_putI d_Mo_asks_2 fl_Mo_266 (by assumption) ?_
  refine mx_al0 d_Mo_asks_5 ?_
  refine mx_in_0 d_Mo_asks_6 ?_
  refine mx_putZ d_Mo_asks_7 fl_Mo_260 (by assumption) (by first | exact Or.inl rfl | exact Or.inr rfl) ?_
  refine mx_al0 d_Mo_asks_10 ?_
  refine mx_in_0 d_Mo_asks_11 ?_
  refine mx_putZ d_Mo_asks_12 fl_Mo_263 (by assumption) (by first | exact Or.inl rfl | exact Or.inr rfl) ?_
  refine mx_al0 d_Mo_asks_15 ?_
  refine mx_al0 d_Mo_asks_16 ?_
  refine mx_al0 d_Mo_asks_17 ?_
  refine mx_il2 d_Mo_asks_18 ?_
  refine mx_in_2 d_Mo_asks_19 ?_
  refine mx_cV2i d_Mo_asks_20 (cm_ofGuest hM (m := m) (by funext z9; simp [mx_up, ← hm]) (g := g) (k := 2) (by omega) (by omega)) ok_Mo_ofGuest ml_Mo_71 (by assumption) ⟨rfl, rfl⟩ (by decide) (Nat.le_of_ble_eq_true rfl) ?_
  refine mx_cV1i d_Mo_asks_23 (cm_passes hM (m := m) (by funext z9; simp [mx_up, ← hm])) ok_Mo_passes ml_Mo_268 (by assumption) ⟨rfl, rfl⟩ (by decide) (Nat.le_of_ble_eq_true rfl) ?_
  refine mx_putZ d_Mo_asks_26 fl_Mo_221 (by assumption) (bI_01 _) ?_
  refine mx_al0 d_Mo_asks_29 ?_
  refine mx_getR d_Mo_asks_30 fl_Mo_7 (by assumption) (by assumption) ?_
  refine mx_in_1 d_Mo_asks_33 ?_
  refine mx_iald d_Mo_asks_34 (by assumption) (nI_inb (by omega) (by omega)) ?_
  refine mx_ti (y := (mx_up (mx_up (mx_up (mx_up I (mo) 17 (nI (0))) (mo) 18 (nI (0))) (mo) 19 (nI (0))) (mo) 15 (bI (vs_pass m (m (43 + 3 * g + 2))))) (mo + 1) (1)) (by rw [nI_clamp (by omega)]) ?_
  refine mx_ti (y := (m 1)) ((by simp [mx_up, hm])) ?_
  refine mx_in_1 d_Mo_asks_35 ?_
  refine mx_icmp_ge 40 d_Mo_asks_36 (by decide) (fun c_36 => absurd c_36 (Int32.not_le.mpr h1)) (fun c_36 => ?_)
  exact mx_vret d_Mo_asks_39 rfl (mx_sR_of rfl ⟨fun c h1 h2 => by funext z9; simp [mx_up, h1], fun f hf => by simp [mx_up, show ¬ f = 15 by omega, show ¬ f = 17 by omega, show ¬ f = 18 by omega, show ¬ f = 19 by omega], by simp [mx_up], by unfold vs_gl; rw [h0]; simp [mx_up]; rfl, by rw [h0]; simp [mx_up]; rfl, by rw [h0]; simp [mx_up]; rfl⟩)
theorem c_Mo_asks1 (hM : mo_ok S P mo) (hm : I (mo + 1) = m) (hh : h < 8) (hg : g < 8) (hq : q < 8) (h1 : m 1 = nI s.length) (hs1 : 1 ≤ s.length) (hs12 : s.length ≤ 12) (h2 : m 2 = nI L) (hL : L ≤ 400) (hf : ∀ k, k < 400 → f k < 256 ∧ m (619 + k) = nI (f k)) (hlaw : gq_law (tK f L) (tV f L) = .inr s) (hD : D = gq_D s)  : mx_C l E M_Mo_asks 31 0 0 [.ref (mo), .int (nI (h)), .int (nI (g)), .int (nI (q))] (t, S, I, P, J) (mx_sR none t S P J (fun K => ak_fin I K mo D m h g q)) := by
  obtain ⟨hM0, hMp1, hMp2, hMp4, hMp5, hMp7, hMp14, hMp21, hMp22, hMp23, hMp24, hMp25, hMp26, hMp27, hMs1, hMs2, hMs3, hMs4, hMs5, hMs6, hMs7, hMs8, hMs9, hMs10, hMs11, hMs12, hMs13⟩ := id hM
  refine mx_C_of (ls0 := [some (.ref (mo)), some (.int (nI (h))), some (.int (nI (g))), some (.int (nI (q))), none, none]) (by decide +kernel) rfl rfl (Nat.le_of_ble_eq_true rfl) rfl ?_
  refine mx_al0 d_Mo_asks_0 ?_
  refine mx_in_0 d_Mo_asks_1 ?_
  refine mx_putI d_Mo_asks_2 fl_Mo_266 (by assumption) ?_
  refine mx_al0 d_Mo_asks_5 ?_
  refine mx_in_0 d_Mo_asks_6 ?_
  refine mx_putZ d_Mo_asks_7 fl_Mo_260 (by assumption) (by first | exact Or.inl rfl | exact Or.inr rfl) ?_
  refine mx_al0 d_Mo_asks_10 ?_
  refine mx_in_0 d_Mo_asks_11 ?_
  refine mx_putZ d_Mo_asks_12 fl_Mo_263 (by assumption) (by first | exact Or.inl rfl | exact Or.inr rfl) ?_
  refine mx_al0 d_Mo_asks_15 ?_
  refine mx_al0 d_Mo_asks_16 ?_
  refine mx_al0 d_Mo_asks_17 ?_
  refine mx_il2 d_Mo_asks_18 ?_
  refine mx_in_2 d_Mo_asks_19 ?_
  refine mx_cV2i d_Mo_asks_20 (cm_ofGuest hM (m := m) (by funext z9; simp [mx_up, ← hm]) (g := g) (k := 2) (by omega) (by omega)) ok_Mo_ofGuest ml_Mo_71 (by assumption) ⟨rfl, rfl⟩ (by decide) (Nat.le_of_ble_eq_true rfl) ?_
  refine mx_cV1i d_Mo_asks_23 (cm_passes hM (m := m) (by funext z9; simp [mx_up, ← hm])) ok_Mo_passes ml_Mo_268 (by assumption) ⟨rfl, rfl⟩ (by decide) (Nat.le_of_ble_eq_true rfl) ?_
  refine mx_putZ d_Mo_asks_26 fl_Mo_221 (by assumption) (bI_01 _) ?_
  refine mx_al0 d_Mo_asks_29 ?_
  refine mx_getR d_Mo_asks_30 fl_Mo_7 (by assumption) (by assumption) ?_
  refine mx_in_1 d_Mo_asks_33 ?_
  refine mx_iald d_Mo_asks_34 (by assumption) (nI_inb (by omega) (by omega)) ?_
  refine mx_ti (y := (mx_up (mx_up (mx_up (mx_up I (mo) 17 (nI (0))) (mo) 18 (nI (0))) (mo) 19 (nI (0))) (mo) 15 (bI (vs_pass m (m (43 + 3 * g + 2))))) (mo + 1) (1)) (by rw [nI_clamp (by omega)]) ?_
  refine mx_ti (y := nI (s.length)) ((by simp [mx_up, hm, h1])) ?_
  refine mx_in_1 d_Mo_asks_35 ?_
  refine mx_icN_ge 40 d_Mo_asks_36 (by decide) (by omega) (by omega) (fun c_36 => ?_) (fun c_36 => absurd c_36 (by omega))
  refine mx_al0 d_Mo_asks_40 ?_
  refine mx_getR d_Mo_asks_41 fl_Mo_29 (by assumption) (by assumption) ?_
  refine mx_in_0 d_Mo_asks_44 ?_
  refine mx_il1 d_Mo_asks_45 ?_
  refine mx_iast d_Mo_asks_46 (by assumption) (nI_inb (by omega) (by omega)) ?_
  rw [nI_clamp (by omega)]
  refine mx_al0 d_Mo_asks_47 ?_
  refine mx_getR d_Mo_asks_48 fl_Mo_29 (by assumption) (by assumption) ?_
  refine mx_in_1 d_Mo_asks_51 ?_
  refine mx_il2 d_Mo_asks_52 ?_
  refine mx_iast d_Mo_asks_53 (by assumption) (nI_inb (by omega) (by omega)) ?_
  rw [nI_clamp (by omega)]
  refine mx_al0 d_Mo_asks_54 ?_
  refine mx_getR d_Mo_asks_55 fl_Mo_29 (by assumption) (by assumption) ?_
  refine mx_in_2 d_Mo_asks_58 ?_
  refine mx_il3 d_Mo_asks_59 ?_
  refine mx_iast d_Mo_asks_60 (by assumption) (nI_inb (by omega) (by omega)) ?_
  rw [nI_clamp (by omega)]
  refine mx_al0 d_Mo_asks_61 ?_
  refine mx_getR d_Mo_asks_62 fl_Mo_29 (by assumption) (by assumption) ?_
  refine mx_in_3 d_Mo_asks_65 ?_
  refine mx_al0 d_Mo_asks_66 ?_
  refine mx_il1 d_Mo_asks_67 ?_
  refine mx_in_3 d_Mo_asks_68 ?_
  refine mx_cV2i d_Mo_asks_69 (cm_of hM (m := m) (by funext z9; simp [mx_up, ← hm]) (h := h) (k := 3) (by omega) (by omega)) ok_Mo_of ml_Mo_68 (by assumption) ⟨rfl, rfl⟩ (by decide) (Nat.le_of_ble_eq_true rfl) ?_
  refine mx_iast d_Mo_asks_72 (by assumption) (nI_inb (by omega) (by omega)) ?_
  rw [nI_clamp (by omega)]
  refine mx_al0 d_Mo_asks_73 ?_
  refine mx_getR d_Mo_asks_74 fl_Mo_29 (by assumption) (by assumption) ?_
  refine mx_in_4 d_Mo_asks_77 ?_
  refine mx_al0 d_Mo_asks_78 ?_
  refine mx_il1 d_Mo_asks_79 ?_
  refine mx_il2 d_Mo_asks_80 ?_
  refine mx_cV2i d_Mo_asks_81 (cm_rankOf hM (m := m) (by funext z9; simp [mx_up, ← hm]) (h := h) (g := g) (by omega) (by omega)) ok_Mo_rankOf ml_Mo_61 (by assumption) ⟨rfl, rfl⟩ (by decide) (Nat.le_of_ble_eq_true rfl) ?_
  refine mx_iast d_Mo_asks_84 (by assumption) (nI_inb (by omega) (by omega)) ?_
  rw [nI_clamp (by omega)]
  refine mx_al0 d_Mo_asks_85 ?_
  refine mx_getR d_Mo_asks_86 fl_Mo_29 (by assumption) (by assumption) ?_
  refine mx_in_5 d_Mo_asks_89 ?_
  refine mx_al0 d_Mo_asks_90 ?_
  refine mx_il1 d_Mo_asks_91 ?_
  refine mx_il2 d_Mo_asks_92 ?_
  refine mx_cV2i d_Mo_asks_93 (cm_lovedOf hM (m := m) (by funext z9; simp [mx_up, ← hm]) (h := h) (g := g) (by omega) (by omega)) ok_Mo_lovedOf ml_Mo_65 (by assumption) ⟨rfl, rfl⟩ (by decide) (Nat.le_of_ble_eq_true rfl) ?_
  refine mx_iast d_Mo_asks_96 (by assumption) (nI_inb (by omega) (by omega)) ?_
  rw [nI_clamp (by omega)]
  refine mx_al0 d_Mo_asks_97 ?_
  refine mx_getR d_Mo_asks_98 fl_Mo_29 (by assumption) (by assumption) ?_
  refine mx_bip 6 d_Mo_asks_101 (by decide) ?_
  refine mx_al0 d_Mo_asks_103 ?_
  refine mx_getR d_Mo_asks_104 fl_Mo_7 (by assumption) (by assumption) ?_
  refine mx_bip 6 d_Mo_asks_107 (by decide) ?_
  refine mx_iald d_Mo_asks_109 (by assumption) (nI_inb (by omega) (by omega)) ?_
  refine mx_ti (y := (mx_up (mx_up (mx_up (mx_up (mx_up (mx_up (mx_up (mx_up (mx_up (mx_up I (mo) 17 (nI (0))) (mo) 18 (nI (0))) (mo) 19 (nI (0))) (mo) 15 (bI (vs_pass m (m (43 + 3 * g + 2))))) (mo + 6) (0) (nI (h))) (mo + 6) (1) (nI (g))) (mo + 6) (2) (nI (q))) (mo + 6) (3) ((m (11 + 4 * h + 3)))) (mo + 6) (4) ((m (67 + 8 * h + g)))) (mo + 6) (5) ((m (131 + 8 * g + h)))) (mo + 1) (6)) (by rw [nI_clamp (by omega)]) ?_
  refine mx_ti (y := (m 6)) ((by simp [mx_up, hm])) ?_
  refine mx_iast d_Mo_asks_110 (by assumption) (nI_inb (by omega) (by omega)) ?_
  rw [nI_clamp (by omega)]
  refine mx_al0 d_Mo_asks_111 ?_
  refine mx_al0 d_Mo_asks_112 ?_
  refine mx_il1 d_Mo_asks_113 ?_
  refine mx_il3 d_Mo_asks_114 ?_
  refine mx_cV2i d_Mo_asks_115 (cm_bookedIn hM (m := m) (by funext z9; simp [mx_up, ← hm]) (h := h) (q := q) (by omega) (by omega)) ok_Mo_bookedIn ml_Mo_271 (by assumption) ⟨rfl, rfl⟩ (by decide) (Nat.le_of_ble_eq_true rfl) ?_
  refine mx_il2 d_Mo_asks_118 ?_
  refine mx_icmp_ne 126 d_Mo_asks_119 (by decide) (fun c_119 => ?_) (fun c_119 => ?_)
  · skip
    refine mx_in_0 d_Mo_asks_126 ?_
    refine mx_putZ d_Mo_asks_127 fl_Mo_227 (by assumption) (by first | exact Or.inl rfl | exact Or.inr rfl) ?_
    refine mx_al0 d_Mo_asks_130 ?_
    refine mx_getI d_Mo_asks_131 fl_Mo_25 (by assumption) ?_
    refine mx_ti (y := (I mo 12)) ((by simp [mx_up])) ?_
    refine mx_is4 d_Mo_asks_134 ?_
    refine mx_al0 d_Mo_asks_136 ?_
    refine mx_ic_m1 d_Mo_asks_137 ?_
    refine mx_putI d_Mo_asks_138 fl_Mo_25 (by assumption) ?_
    refine mx_al0 d_Mo_asks_141 ?_
    refine mx_sip 619 d_Mo_asks_142 (by decide) ?_
    refine mx_putI d_Mo_asks_145 fl_Mo_84 (by assumption) ?_
    refine mx_al0 d_Mo_asks_148 ?_
    refine mx_al0 d_Mo_asks_149 ?_
    refine mx_getR d_Mo_asks_150 fl_Mo_7 (by assumption) (by assumption) ?_
    refine mx_in_2 d_Mo_asks_153 ?_
    refine mx_iald d_Mo_asks_154 (by assumption) (nI_inb (by omega) (by omega)) ?_
    refine mx_ti (y := (mx_up (mx_up (mx_up (mx_up (mx_up (mx_up (mx_up (mx_up (mx_up (mx_up (mx_up (mx_up (mx_up (mx_up I (mo) 17 (nI (0))) (mo) 18 (nI (0))) (mo) 19 (nI (0))) (mo) 15 (bI (vs_pass m (m (43 + 3 * g + 2))))) (mo + 6) (0) (nI (h))) (mo + 6) (1) (nI (g))) (mo + 6) (2) (nI (q))) (mo + 6) (3) ((m (11 + 4 * h + 3)))) (mo + 6) (4) ((m (67 + 8 * h + g)))) (mo + 6) (5) ((m (131 + 8 * g + h)))) (mo + 6) (6) ((m 6))) (mo) 16 (nI (0))) (mo) 12 ((-1))) (mo) 9 (nI (619))) (mo + 1) (2)) (by rw [nI_clamp (by omega)]) ?_
    refine mx_ti (y := nI (L)) ((by simp [mx_up, hm, h2])) ?_
    refine mx_putI d_Mo_asks_155 fl_Mo_90 (by assumption) ?_
    refine mx_al0 d_Mo_asks_158 ?_
    refine mx_in_0 d_Mo_asks_159 ?_
    refine mx_putI d_Mo_asks_160 fl_Mo_87 (by assumption) ?_
    refine mx_al0 d_Mo_asks_163 ?_
    refine mx_in_0 d_Mo_asks_164 ?_
    refine mx_putI d_Mo_asks_165 fl_Mo_179 (by assumption) ?_
    refine mx_al0 d_Mo_asks_168 ?_
    refine mx_in_1 d_Mo_asks_169 ?_
    refine mx_cV1y d_Mo_asks_170 (c_Mo_readL hM (ak_hx (m := m) (by funext z9; simp [mx_up, ← hm]) (by simp [mx_up]) (by simp [mx_up]) hL hf) (ak_hs (by simp [mx_up]) (by simp [mx_up]) (by simp [mx_up])) (fc := vs_fc m h g q) ⟨fun k hk => (by match k, hk with | 0, _ => simp [mx_up, vs_fc] | 1, _ => simp [mx_up, vs_fc] | 2, _ => simp [mx_up, vs_fc] | 3, _ => simp [mx_up, vs_fc] | 4, _ => simp [mx_up, vs_fc] | 5, _ => simp [mx_up, vs_fc] | 6, _ => simp [mx_up, vs_fc]), by simp [mx_up, vs_fc, bI_and1], (by rw [show vs_fc m h g q 8 = bI (decide (m (195 + 8 * h + q) = nI g)) from rfl, decide_eq_false c_119]; simp [mx_up]; rfl)⟩) ok_Mo_read ml_Mo_198 (by assumption) ⟨rfl, rfl⟩ (by decide) (Nat.le_of_ble_eq_true rfl) (fun v9 K9 hK9 => ?_)
    refine mx_is5 d_Mo_asks_173 ?_
    refine mx_al0 d_Mo_asks_175 ?_
    refine mx_il4 d_Mo_asks_176 ?_
    refine mx_putI d_Mo_asks_178 fl_Mo_25 (by assumption) ?_
    exact mx_vret d_Mo_asks_181 rfl (mx_sR_of rfl (ak_end hK9 hlaw hD (fun c h1 h2 => by funext z9; simp [mx_up, h1, h2]) (fun f hf => by simp [mx_up, show ¬ f = 9 by omega, show ¬ f = 10 by omega, show ¬ f = 11 by omega, show ¬ f = 12 by omega, show ¬ f = 13 by omega, show ¬ f = 15 by omega, show ¬ f = 16 by omega, show ¬ f = 17 by omega, show ¬ f = 18 by omega, show ¬ f = 19 by omega]) (by simp [mx_up]) (by simp [mx_up]) (by simp [mx_up]) (by simp [mx_up])))
  · skip
    refine mx_in_1 d_Mo_asks_122 ?_
    refine mx_goto 127 d_Mo_asks_123 (by decide) ?_
    refine mx_putZ d_Mo_asks_127 fl_Mo_227 (by assumption) (by first | exact Or.inl rfl | exact Or.inr rfl) ?_
    refine mx_al0 d_Mo_asks_130 ?_
    refine mx_getI d_Mo_asks_131 fl_Mo_25 (by assumption) ?_
    refine mx_ti (y := (I mo 12)) ((by simp [mx_up])) ?_
    refine mx_is4 d_Mo_asks_134 ?_
    refine mx_al0 d_Mo_asks_136 ?_
    refine mx_ic_m1 d_Mo_asks_137 ?_
    refine mx_putI d_Mo_asks_138 fl_Mo_25 (by assumption) ?_
    refine mx_al0 d_Mo_asks_141 ?_
    refine mx_sip 619 d_Mo_asks_142 (by decide) ?_
    refine mx_putI d_Mo_asks_145 fl_Mo_84 (by assumption) ?_
    refine mx_al0 d_Mo_asks_148 ?_
    refine mx_al0 d_Mo_asks_149 ?_
    refine mx_getR d_Mo_asks_150 fl_Mo_7 (by assumption) (by assumption) ?_
    refine mx_in_2 d_Mo_asks_153 ?_
    refine mx_iald d_Mo_asks_154 (by assumption) (nI_inb (by omega) (by omega)) ?_
    refine mx_ti (y := (mx_up (mx_up (mx_up (mx_up (mx_up (mx_up (mx_up (mx_up (mx_up (mx_up (mx_up (mx_up (mx_up (mx_up I (mo) 17 (nI (0))) (mo) 18 (nI (0))) (mo) 19 (nI (0))) (mo) 15 (bI (vs_pass m (m (43 + 3 * g + 2))))) (mo + 6) (0) (nI (h))) (mo + 6) (1) (nI (g))) (mo + 6) (2) (nI (q))) (mo + 6) (3) ((m (11 + 4 * h + 3)))) (mo + 6) (4) ((m (67 + 8 * h + g)))) (mo + 6) (5) ((m (131 + 8 * g + h)))) (mo + 6) (6) ((m 6))) (mo) 16 (nI (1))) (mo) 12 ((-1))) (mo) 9 (nI (619))) (mo + 1) (2)) (by rw [nI_clamp (by omega)]) ?_
    refine mx_ti (y := nI (L)) ((by simp [mx_up, hm, h2])) ?_
    refine mx_putI d_Mo_asks_155 fl_Mo_90 (by assumption) ?_
    refine mx_al0 d_Mo_asks_158 ?_
    refine mx_in_0 d_Mo_asks_159 ?_
    refine mx_putI d_Mo_asks_160 fl_Mo_87 (by assumption) ?_
    refine mx_al0 d_Mo_asks_163 ?_
    refine mx_in_0 d_Mo_asks_164 ?_
    refine mx_putI d_Mo_asks_165 fl_Mo_179 (by assumption) ?_
    refine mx_al0 d_Mo_asks_168 ?_
    refine mx_in_1 d_Mo_asks_169 ?_
    refine mx_cV1y d_Mo_asks_170 (c_Mo_readL hM (ak_hx (m := m) (by funext z9; simp [mx_up, ← hm]) (by simp [mx_up]) (by simp [mx_up]) hL hf) (ak_hs (by simp [mx_up]) (by simp [mx_up]) (by simp [mx_up])) (fc := vs_fc m h g q) ⟨fun k hk => (by match k, hk with | 0, _ => simp [mx_up, vs_fc] | 1, _ => simp [mx_up, vs_fc] | 2, _ => simp [mx_up, vs_fc] | 3, _ => simp [mx_up, vs_fc] | 4, _ => simp [mx_up, vs_fc] | 5, _ => simp [mx_up, vs_fc] | 6, _ => simp [mx_up, vs_fc]), by simp [mx_up, vs_fc, bI_and1], (by rw [show vs_fc m h g q 8 = bI (decide (m (195 + 8 * h + q) = nI g)) from rfl, decide_eq_true c_119]; simp [mx_up]; rfl)⟩) ok_Mo_read ml_Mo_198 (by assumption) ⟨rfl, rfl⟩ (by decide) (Nat.le_of_ble_eq_true rfl) (fun v9 K9 hK9 => ?_)
    refine mx_is5 d_Mo_asks_173 ?_
    refine mx_al0 d_Mo_asks_175 ?_
    refine mx_il4 d_Mo_asks_176 ?_
    refine mx_putI d_Mo_asks_178 fl_Mo_25 (by assumption) ?_
    exact mx_vret d_Mo_asks_181 rfl (mx_sR_of rfl (ak_end hK9 hlaw hD (fun c h1 h2 => by funext z9; simp [mx_up, h1, h2]) (fun f hf => by simp [mx_up, show ¬ f = 9 by omega, show ¬ f = 10 by omega, show ¬ f = 11 by omega, show ¬ f = 12 by omega, show ¬ f = 13 by omega, show ¬ f = 15 by omega, show ¬ f = 16 by omega, show ¬ f = 17 by omega, show ¬ f = 18 by omega, show ¬ f = 19 by omega]) (by simp [mx_up]) (by simp [mx_up]) (by simp [mx_up]) (by simp [mx_up])))
theorem c_Mo_asks (hM : mo_ok S P mo) (hm : I (mo + 1) = m) (hTX : tx_law D m) (hh : h < 8) (hg : g < 8) (hq : q < 8) : mx_C l E M_Mo_asks 31 0 0 [.ref (mo), .int (nI (h)), .int (nI (g)), .int (nI (q))] (t, S, I, P, J) (mx_sR none t S P J (fun K => ak_fin I K mo D m h g q)) := by
  rcases hTX with ⟨h1, h2⟩ | ⟨f, L, s, h1, h2, h3, h4, h5, h6, h7, h8⟩
  · exact c_Mo_asks0 hM hm hh hg hq h1 h2
  · exact c_Mo_asks1 hM hm hh hg hq h1 h2 h3 h4 h5 h6 h7 h8
end AY66
