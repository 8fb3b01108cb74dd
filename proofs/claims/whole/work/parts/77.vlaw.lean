/-! THE CLASS'S LAW -/
section BJ77
variable {l : Launch} {E : mx_Env} {M M' : mx_M} {d k pc nx d' k' n' k2 n2 idx : Nat} {ls : List (Option Value)} {st : List Value} {Q : mx_R → mx_H → Prop} {t n z : Nat} {S : mx_S} {I K K2 : mx_I} {P : mx_P} {J : mx_G} {x a b c lr te L la : Nat} {f : Nat → Nat} {X X1 : mx_H} {s : List gq_L}
theorem mx_kV0r {v : Nat} {q : vw_C} (hd : mx_d M pc (.invokevirtual idx) 3 nx) (hc : mx_C l E M' d' k' n' [.ref a] X (mx_rr v X1)) (hM : mx_okM M' 0) (hw : Cond.methodLink (mx_own M) idx (mx_y M') ∈ mx_W ∧ Cond.instanceMethod (mx_y M') ∈ mx_W ∧ Cond.selects (mx_y M').cls (mx_y M') (mx_y M') ∈ mx_W) (hs : X.2.1 a = some (0, c)) (hq : mx_cl[c]? = some q ∧ q.1 = (mx_y M').cls) (hdd : d' + 1 ≤ d) (hcat : (st.map fun v => v.category).sum ≤ 8) (hk : k' + k2 ≤ k) (hn : n' + n2 ≤ n) (kk : mx_E l E M d k2 n2 nx ls (.ref v :: st) X1 Q) : mx_E l E M d k n pc ls (.ref a :: st) X Q :=
  mx_callV (k2 := k2) (n2 := n2) hd hc hM hw hs hq rfl rfl hcat hdd hk hn (fun w X9 h => by obtain ⟨h1, rfl⟩ := h; cases h1; exact kk) (fun C X9 h => by cases h.1)
/-- the heap once a law of n lines and z words was made at its top -/
def lwm_S (S : mx_S) (t n z : Nat) : mx_S := (mx_ups (mx_ups (mx_ups (mx_ups (mx_ups (mx_ups S t (0, 3)) (t + 1) (1, n)) (t + 2) (1, n)) (t + 3) (1, n)) (t + 4) (1, z)) (t + 5) (1, 64))
def lwm_I (I : mx_I) (t lr n z : Nat) : mx_I := (mx_up (mx_z (vs_cp (mx_z (vs_cp (mx_z (vs_cp (mx_z (vs_cp (mx_z (mx_z I t) (t + 1)) (lr + 1) (t + 1) n) (t + 2)) (lr + 2) (t + 2) n) (t + 3)) (lr + 3) (t + 3) n) (t + 4)) (lr + 4) (t + 4) z) (t + 5)) t 0 (nI n))
def lwm_P (P : mx_P) (t : Nat) : mx_P := (mx_upP (mx_upP (mx_upP (mx_upP (mx_upP (mx_zP P t) t 5 (some (t + 5))) t 1 (some (t + 1))) t 2 (some (t + 2))) t 3 (some (t + 3))) t 4 (some (t + 4)))
theorem lwm_S_lt (h : a < t) : lwm_S S t n z a = S a := by
  unfold lwm_S
  simp only [mx_ups]
  rw [if_neg (by omega), if_neg (by omega), if_neg (by omega), if_neg (by omega), if_neg (by omega), if_neg (by omega)]
theorem lwm_P_lt (h : a < t) : lwm_P P t a = P a := by
  unfold lwm_P
  rw [mx_upP_ne (by omega), mx_upP_ne (by omega), mx_upP_ne (by omega), mx_upP_ne (by omega), mx_upP_ne (by omega), mx_zP_ne (by omega)]
theorem lwm_I_lt (h : a < t) : lwm_I I t lr n z a = I a := by
  unfold lwm_I
  rw [mx_up_ne (by omega), mx_z_ne (by omega), cp_ne (by omega), mx_z_ne (by omega), cp_ne (by omega), mx_z_ne (by omega), cp_ne (by omega), mx_z_ne (by omega), cp_ne (by omega), mx_z_ne (by omega), mx_z_ne (by omega)]
theorem lwm_S_is : lwm_S S t n z t = some (0, 3) ∧ lwm_S S t n z (t + 1) = some (1, n) ∧ lwm_S S t n z (t + 2) = some (1, n) ∧ lwm_S S t n z (t + 3) = some (1, n) ∧ lwm_S S t n z (t + 4) = some (1, z) ∧ lwm_S S t n z (t + 5) = some (1, 64) := by
  unfold lwm_S
  simp only [mx_ups]
  refine ⟨?_, ?_, ?_, ?_, ?_, ?_⟩ <;> simp
theorem lwm_P_is : lwm_P P t t 1 = some (t + 1) ∧ lwm_P P t t 2 = some (t + 2) ∧ lwm_P P t t 3 = some (t + 3) ∧ lwm_P P t t 4 = some (t + 4) ∧ lwm_P P t t 5 = some (t + 5) := by
  unfold lwm_P
  simp [mx_upP]
theorem cp_e (h : c < L) : vs_cp I a b L b c = I a c := by simp [vs_cp, h]
theorem lwm_I_is (hl : lr + 4 < t) : lwm_I I t lr n z t 0 = nI n ∧ (∀ j, j < n → lwm_I I t lr n z (t + 1) j = I (lr + 1) j ∧ lwm_I I t lr n z (t + 2) j = I (lr + 2) j ∧ lwm_I I t lr n z (t + 3) j = I (lr + 3) j) ∧ ∀ j, j < z → lwm_I I t lr n z (t + 4) j = I (lr + 4) j := by
  unfold lwm_I
  refine ⟨mu_e, fun j hj => ⟨?_, ?_, ?_⟩, fun j hj => ?_⟩
  · rw [mx_up_ne (by omega), mx_z_ne (by omega), cp_ne (by omega), mx_z_ne (by omega), cp_ne (by omega), mx_z_ne (by omega), cp_ne (by omega), mx_z_ne (by omega), cp_e hj, mx_z_ne (by omega), mx_z_ne (by omega)]
  · rw [mx_up_ne (by omega), mx_z_ne (by omega), cp_ne (by omega), mx_z_ne (by omega), cp_ne (by omega), mx_z_ne (by omega), cp_e hj, mx_z_ne (by omega), cp_ne (by omega), mx_z_ne (by omega), mx_z_ne (by omega)]
  · rw [mx_up_ne (by omega), mx_z_ne (by omega), cp_ne (by omega), mx_z_ne (by omega), cp_e hj, mx_z_ne (by omega), cp_ne (by omega), mx_z_ne (by omega), cp_ne (by omega), mx_z_ne (by omega), mx_z_ne (by omega)]
  · rw [mx_up_ne (by omega), mx_z_ne (by omega), cp_e hj, mx_z_ne (by omega), cp_ne (by omega), mx_z_ne (by omega), cp_ne (by omega), mx_z_ne (by omega), cp_ne (by omega), mx_z_ne (by omega), mx_z_ne (by omega)]
/-- the law that was made is the law that was read -/
theorem lw_made (hl : lr + 4 < t) (h : ll_rows I lr s) (hg : gq_law (tK f L) (tV f L) = .inr s) (hL : L ≤ 400) : la_is (lwm_S S t s.length (gq_co s).length) (lwm_P P t) (lwm_I I t lr s.length (gq_co s).length) t (gq_D s) := by
  have hTL := tq_n_le f L
  obtain ⟨g1, g2, g3⟩ := gq_law_ok (tK0 rfl) tV1 hg
  obtain ⟨s0, s1, s2, s3, s4, s5⟩ := lwm_S_is (S := S) (t := t) (n := s.length) (z := (gq_co s).length)
  obtain ⟨p1, p2, p3, p4, p5⟩ := lwm_P_is (P := P) (t := t)
  obtain ⟨i0, i1, i2⟩ := lwm_I_is (I := I) (n := s.length) (z := (gq_co s).length) hl
  obtain ⟨-, -, r1, r2⟩ := h
  refine ⟨⟨s0, p1, p2, p3, p4, p5, s1, s2, s3, s4, s5, g2, by show (gq_co s).length ≤ 400; omega⟩, ⟨i0, Or.inl rfl, fun j hj => ?_, fun k hk => (i2 k hk).trans (r2 k hk)⟩, fun fc => gq_D_sem g1 fc⟩
  have hj : j < s.length := hj
  have hx : gq_li (s.getD j (0, 0, [])) := by
    rw [List.getD_eq_getElem?_getD, List.getElem?_eq_getElem hj]
    exact g1 _ (List.getElem_mem hj)
  obtain ⟨a1, a2, a3⟩ := i1 j hj
  obtain ⟨b1, b2, b3⟩ := r1 j hj
  exact ⟨hx.1, hx.2.1, a1.trans b1, a2.trans b2, a3.trans b3, by have := gq_e_s hj; show lw_from (gq_e s) j ≤ gq_e s j; omega, gq_e_le⟩
/-- what the class's law leaves -/
def vlo (t : Nat) (S : mx_S) (I : mx_I) (P : mx_P) (J : mx_G) (x : Nat) (f : Nat → Nat) (L : Nat) (r : mx_R) (X : mx_H) : Prop := match gq_law (tK f L) (tV f L) with
  | .inl e => r = .inr "java/lang/IllegalArgumentException" ∧ ∃ K t', t ≤ t' ∧ X = (t', S, mx_up K (x + 250) 1 (nI 0), P, J) ∧ lx_off I K (x + 272) (x + 250) ∧ K (x + 250) 2 = nI (tq_b f L e)
  | .inr s => r = .inl (some (.int (nI s.length))) ∧ ∃ K, X = (t + 6, lwm_S S t s.length (gq_co s).length, mx_up (lwm_I (mx_up K (x + 250) 1 (nI 0)) t (x + 272) s.length (gq_co s).length) (x + 68) 1 (nI 0), mx_upP (lwm_P P t) (x + 23) 2 (some t), J) ∧ lx_off I K (x + 272) (x + 250) ∧ K (x + 250) 2 = -1 ∧ ll_rows K (x + 272) s
theorem vlo_x {e t' : Nat} (h : gq_law (tK f L) (tV f L) = .inl e) (ht : t ≤ t') (ho : lx_off I K (x + 272) (x + 250)) (h2 : K (x + 250) 2 = nI (tq_b f L e)) : vlo t S I P J x f L (.inr "java/lang/IllegalArgumentException") (t', S, mx_up K (x + 250) 1 (nI 0), P, J) := by
  unfold vlo; rw [h]; exact ⟨rfl, K, t', ht, rfl, ho, h2⟩
theorem vlo_i {w : Int32} (h : gq_law (tK f L) (tV f L) = .inr s) (hw : w = nI s.length) (ho : lx_off I K (x + 272) (x + 250)) (h2 : K (x + 250) 2 = -1) (h3 : ll_rows K (x + 272) s) : vlo t S I P J x f L (.inl (some (.int w))) (t + 6, lwm_S S t s.length (gq_co s).length, mx_up (lwm_I (mx_up K (x + 250) 1 (nI 0)) t (x + 272) s.length (gq_co s).length) (x + 68) 1 (nI 0), mx_upP (lwm_P P t) (x + 23) 2 (some t), J) := by
  unfold vlo; rw [h]; exact ⟨congrArg (fun z => Sum.inl (some (Value.int z))) hw, K, rfl, ho, h2, h3⟩
theorem gq_ok_FL {r : Nat ⊕ List gq_L} (h : gq_ok r = false) : ∃ e, r = .inl e := by
  cases r with
  | inl e => exact ⟨e, rfl⟩
  | inr q => cases h
theorem gq_ok_TL {r : Nat ⊕ List gq_L} (h : gq_ok r = true) : ∃ s, r = .inr s := by
  cases r with
  | inl e => cases h
  | inr q => exact ⟨q, rfl⟩
theorem c_Vh_law (htr : l.stackTraces = false) (hV : vh_ok S P x) (hSt : st_ok S P (x + 23)) (hTe : te_ok S P (x + 250)) (hLr : lr_ok S P (x + 272) (x + 250)) (hx : te_tx I (x + 250) f L) (htx : x + 291 < t)  : mx_C l E M_Vh_law 20 6 600 [.ref (x)] (t, S, I, P, J) (vlo t S I P J x f L) := by
  obtain ⟨hV0, hVp0, hVp1, hVp2, hVp3, hVp4, hVp5, hVp7, hVp8, hVp9, hVp10, hVp11, hVp12, hVs15, hVs16, hVs68⟩ := id hV
  obtain ⟨hz0, -⟩ := id hLr
  have hT0 := hTe.1
  obtain ⟨hs0, -⟩ := id hSt
  refine mx_C_of (ls0 := [some (.ref (x)), none]) (by decide +kernel) rfl rfl (Nat.le_of_ble_eq_true rfl) rfl ?_
  refine mx_al0 d_Vh_law_0 ?_
  refine mx_getR d_Vh_law_1 fl_Vh_89 (by assumption) (by assumption) ?_
  refine mx_cV0iR d_Vh_law_4 (c_Lr_read hLr hTe hx) ok_Lr_read ml_Vh_140 (by assumption) ⟨rfl, rfl⟩ (by decide) (Nat.le_of_ble_eq_true rfl) (fun K1 hK1 => ?_)
  refine mx_is1 d_Vh_law_7 ?_
  refine mx_al0 d_Vh_law_8 ?_
  refine mx_getR d_Vh_law_9 fl_Vh_71 (by assumption) (by assumption) ?_
  refine mx_cV0v d_Vh_law_12 (c_Te_empty hTe.1) ok_Te_empty ml_Vh_112 (by assumption) ⟨rfl, rfl⟩ (by decide) (Nat.le_of_ble_eq_true rfl) ?_
  refine mx_il1 d_Vh_law_15 ?_
  refine mx_ifB_ne 29 d_Vh_law_16 (by decide) (fun c_16 => ?_) (fun c_16 => ?_)
  · skip
    obtain ⟨s, hr⟩ := gq_ok_TL c_16
    rw [hr] at hK1
    have hTL := tq_n_le f L
    have hL9 := hx.2.2
    obtain ⟨g1, g2, g3⟩ := gq_law_ok (tK0 rfl) tV1 hr
    have hn9 : mx_up K1 (x + 250) 1 (nI 0) (x + 272) 1 = nI s.length := by rw [mx_up_ne (by omega)]; exact hK1.2.2.1
    have hz9 : mx_up K1 (x + 250) 1 (nI 0) (x + 272) 6 = nI (gq_co s).length := by rw [mx_up_ne (by omega)]; exact hK1.2.2.2.1
    refine mx_al0 d_Vh_law_29 ?_
    refine mx_getR d_Vh_law_30 fl_Vh_51 (by assumption) (by assumption) ?_
    refine mx_al0 d_Vh_law_33 ?_
    refine mx_getR d_Vh_law_34 fl_Vh_89 (by assumption) (by assumption) ?_
    refine mx_kV0r (k2 := 0) (n2 := 0) d_Vh_law_37 (c_Lr_written (n := s.length) (z := (gq_co s).length) hLr hn9 hz9 g2 (by omega) (by omega)) ok_Lr_written ml_Vh_145 (by assumption) ⟨rfl, rfl⟩ (by decide) (Nat.le_of_ble_eq_true rfl) (by omega) (by omega) ?_
    refine (show mx_E l E M_Vh_law 20 0 0 _ _ _ (t + 6, (lwm_S S t s.length (gq_co s).length), (lwm_I (mx_up K1 (x + 250) 1 (nI 0)) t (x + 272) s.length (gq_co s).length), (lwm_P P t), J) _ from ?_)
    have j0 : (lwm_S S t s.length (gq_co s).length) x = some (0, 11) := by rw [lwm_S_lt (by omega)]; exact hV0
    have j1 : (lwm_S S t s.length (gq_co s).length) (x + 23) = some (0, 6) := by rw [lwm_S_lt (by omega)]; exact hs0
    have j2 : (lwm_S S t s.length (gq_co s).length) (x + 68) = some (0, 7) := by rw [lwm_S_lt (by omega)]; exact hVs68
    have j3 : (lwm_S S t s.length (gq_co s).length) t = some (0, 3) := lwm_S_is.1
    have j4 : (mx_upP (lwm_P P t) (x + 23) 2 (some t)) x 3 = some (x + 23) := by rw [mx_upP_ne (by omega), lwm_P_lt (by omega)]; exact hVp3
    have j5 : (mx_upP (lwm_P P t) (x + 23) 2 (some t)) x 7 = some (x + 68) := by rw [mx_upP_ne (by omega), lwm_P_lt (by omega)]; exact hVp7
    have j6 : (mx_upP (lwm_P P t) (x + 23) 2 (some t)) (x + 23) 2 = some t := by simp [mx_upP]
    refine mx_putR d_Vh_law_40 fl_Vh_149 (by assumption) ?_
    refine mx_al0 d_Vh_law_43 ?_
    refine mx_getR d_Vh_law_44 fl_Vh_64 (by assumption) (by assumption) ?_
    refine mx_cV0v d_Vh_law_47 (c_forget0 (by assumption)) ok_Pt_forget ml_Vh_137 (by assumption) ⟨rfl, rfl⟩ (by decide) (Nat.le_of_ble_eq_true rfl) ?_
    refine mx_al0 d_Vh_law_50 ?_
    refine mx_getR d_Vh_law_51 fl_Vh_51 (by assumption) (by assumption) ?_
    refine mx_getR d_Vh_law_54 fl_Vh_149 (by assumption) (by assumption) ?_
    refine mx_getI d_Vh_law_57 fl_Vh_153 (by assumption) ?_
    exact mx_iret d_Vh_law_60 rfl (vlo_i hr (by rw [mx_up_ne (by omega)]; exact (lwm_I_is (by omega)).1) hK1.1 hK1.2.1 hK1.2.2)
  · skip
    obtain ⟨e, hr⟩ := gq_ok_FL c_16
    rw [hr] at hK1
    exact mx_throw (i := 28) htr rfl th_Vh_115_119 rfl rfl d_Vh_law_19 d_Vh_law_22 d_Vh_law_23 d_Vh_law_25 d_Vh_law_28 (by decide) (by decide) (by decide) (Nat.le_of_ble_eq_true rfl) (fun t9 ht => vlo_x hr ht hK1.1 hK1.2)
end BJ77
