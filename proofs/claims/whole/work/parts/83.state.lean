/-! A STATE IS MADE -/
section BO83r
variable {l : Launch} {E : mx_Env} {M M' : mx_M} {d k n pc nx d' k' n' k2 n2 idx : Nat} {ls : List (Option Value)} {st : List Value} {Q : mx_R → mx_H → Prop} {t a : Nat} {J : mx_G} {X : mx_H} {R : mx_S → mx_I → mx_P → Prop}
theorem mx_kI0R (hd : mx_d M pc (.invokespecial idx) 3 nx) (hc : mx_C l E M' d' k' n' [.ref a] X (mx_iR t J R)) (hM : mx_okM M' 0) (hrt : mx_rt M' = none) (hnm : (mx_y M').name = "<init>") (hw : Cond.methodLink (mx_own M) idx (mx_y M') ∈ mx_W ∧ Cond.instanceMethod (mx_y M') ∈ mx_W) (hdd : d' + 1 ≤ d) (hcat : (st.map fun v => v.category).sum ≤ 8) (hk : k' + k2 ≤ k) (hn : n' + n2 ≤ n) (kk : ∀ S I P, R S I P → mx_E l E M d k2 n2 nx ls st (t, S, I, P, J) Q) : mx_E l E M d k n pc ls (.ref a :: st) X Q :=
  mx_callI (k2 := k2) (n2 := n2) hd hc hM hrt hnm hw rfl rfl hcat hdd hk hn (fun w X9 h => by obtain ⟨h1, S9, I9, P9, rfl, h2⟩ := h; cases h1; exact kk S9 I9 P9 h2) (fun C X9 h => by cases h.1)
theorem mx_kI0RN {host : String} (hd : mx_d M pc (.invokespecial idx) 3 nx) (hc : mx_C l E M' d' k' n' [.ref a] X (mx_iR t J R)) (hM : mx_okM M' 0) (hrt : mx_rt M' = none) (hnm : (mx_y M').name = "<init>") (hw : Cond.methodLinkNest (mx_own M) idx (mx_y M') host ∈ mx_NW ∧ Cond.instanceMethod (mx_y M') ∈ mx_W) (hdd : d' + 1 ≤ d) (hcat : (st.map fun v => v.category).sum ≤ 8) (hk : k' + k2 ≤ k) (hn : n' + n2 ≤ n) (kk : ∀ S I P, R S I P → mx_E l E M d k2 n2 nx ls st (t, S, I, P, J) Q) : mx_E l E M d k n pc ls (.ref a :: st) X Q :=
  mx_callIN (k2 := k2) (n2 := n2) hd hc hM hrt hnm hw rfl rfl hcat hdd hk hn (fun w X9 h => by obtain ⟨h1, S9, I9, P9, rfl, h2⟩ := h; cases h1; exact kk S9 I9 P9 h2) (fun C X9 h => by cases h.1)
theorem mx_kI1R {v0 : Value} (hd : mx_d M pc (.invokespecial idx) 3 nx) (hc : mx_C l E M' d' k' n' [.ref a, v0] X (mx_iR t J R)) (hM : mx_okM M' 1) (hrt : mx_rt M' = none) (hnm : (mx_y M').name = "<init>") (hw : Cond.methodLink (mx_own M) idx (mx_y M') ∈ mx_W ∧ Cond.instanceMethod (mx_y M') ∈ mx_W) (hdd : d' + 1 ≤ d) (hcat : (st.map fun v => v.category).sum ≤ 8) (hk : k' + k2 ≤ k) (hn : n' + n2 ≤ n) (kk : ∀ S I P, R S I P → mx_E l E M d k2 n2 nx ls st (t, S, I, P, J) Q) : mx_E l E M d k n pc ls (v0 :: .ref a :: st) X Q :=
  mx_callI (k2 := k2) (n2 := n2) hd hc hM hrt hnm hw rfl rfl hcat hdd hk hn (fun w X9 h => by obtain ⟨h1, S9, I9, P9, rfl, h2⟩ := h; cases h1; exact kk S9 I9 P9 h2) (fun C X9 h => by cases h.1)
theorem mx_kI1RN {v0 : Value} {host : String} (hd : mx_d M pc (.invokespecial idx) 3 nx) (hc : mx_C l E M' d' k' n' [.ref a, v0] X (mx_iR t J R)) (hM : mx_okM M' 1) (hrt : mx_rt M' = none) (hnm : (mx_y M').name = "<init>") (hw : Cond.methodLinkNest (mx_own M) idx (mx_y M') host ∈ mx_NW ∧ Cond.instanceMethod (mx_y M') ∈ mx_W) (hdd : d' + 1 ≤ d) (hcat : (st.map fun v => v.category).sum ≤ 8) (hk : k' + k2 ≤ k) (hn : n' + n2 ≤ n) (kk : ∀ S I P, R S I P → mx_E l E M d k2 n2 nx ls st (t, S, I, P, J) Q) : mx_E l E M d k n pc ls (v0 :: .ref a :: st) X Q :=
  mx_callIN (k2 := k2) (n2 := n2) hd hc hM hrt hnm hw rfl rfl hcat hdd hk hn (fun w X9 h => by obtain ⟨h1, S9, I9, P9, rfl, h2⟩ := h; cases h1; exact kk S9 I9 P9 h2) (fun C X9 h => by cases h.1)
theorem mx_kI2R {v0 v1 : Value} (hd : mx_d M pc (.invokespecial idx) 3 nx) (hc : mx_C l E M' d' k' n' [.ref a, v0, v1] X (mx_iR t J R)) (hM : mx_okM M' 2) (hrt : mx_rt M' = none) (hnm : (mx_y M').name = "<init>") (hw : Cond.methodLink (mx_own M) idx (mx_y M') ∈ mx_W ∧ Cond.instanceMethod (mx_y M') ∈ mx_W) (hdd : d' + 1 ≤ d) (hcat : (st.map fun v => v.category).sum ≤ 8) (hk : k' + k2 ≤ k) (hn : n' + n2 ≤ n) (kk : ∀ S I P, R S I P → mx_E l E M d k2 n2 nx ls st (t, S, I, P, J) Q) : mx_E l E M d k n pc ls (v1 :: v0 :: .ref a :: st) X Q :=
  mx_callI (k2 := k2) (n2 := n2) hd hc hM hrt hnm hw rfl rfl hcat hdd hk hn (fun w X9 h => by obtain ⟨h1, S9, I9, P9, rfl, h2⟩ := h; cases h1; exact kk S9 I9 P9 h2) (fun C X9 h => by cases h.1)
theorem mx_kI2RN {v0 v1 : Value} {host : String} (hd : mx_d M pc (.invokespecial idx) 3 nx) (hc : mx_C l E M' d' k' n' [.ref a, v0, v1] X (mx_iR t J R)) (hM : mx_okM M' 2) (hrt : mx_rt M' = none) (hnm : (mx_y M').name = "<init>") (hw : Cond.methodLinkNest (mx_own M) idx (mx_y M') host ∈ mx_NW ∧ Cond.instanceMethod (mx_y M') ∈ mx_W) (hdd : d' + 1 ≤ d) (hcat : (st.map fun v => v.category).sum ≤ 8) (hk : k' + k2 ≤ k) (hn : n' + n2 ≤ n) (kk : ∀ S I P, R S I P → mx_E l E M d k2 n2 nx ls st (t, S, I, P, J) Q) : mx_E l E M d k n pc ls (v1 :: v0 :: .ref a :: st) X Q :=
  mx_callIN (k2 := k2) (n2 := n2) hd hc hM hrt hnm hw rfl rfl hcat hdd hk hn (fun w X9 h => by obtain ⟨h1, S9, I9, P9, rfl, h2⟩ := h; cases h1; exact kk S9 I9 P9 h2) (fun C X9 h => by cases h.1)
end BO83r
section BO83
variable {l : Launch} {E : mx_Env} {t : Nat} {S S2 : mx_S} {I I2 K : mx_I} {P P2 : mx_P} {J : mx_G} {s la b pe : Nat}
theorem pe_ok.cg (h : pe_ok S P pe) (e : ∀ c, pe ≤ c → c < pe + 8 → S2 c = S c ∧ P2 c = P c) : pe_ok S2 P2 pe := by
  unfold pe_ok at h ⊢
  rw [(e pe (by omega) (by omega)).1, (e pe (by omega) (by omega)).2, (e (pe + 1) (by omega) (by omega)).1, (e (pe + 2) (by omega) (by omega)).1, (e (pe + 3) (by omega) (by omega)).1, (e (pe + 4) (by omega) (by omega)).1, (e (pe + 5) (by omega) (by omega)).1, (e (pe + 6) (by omega) (by omega)).1, (e (pe + 7) (by omega) (by omega)).1]
  exact h
/-- a State as it is made, its law at la -/
def st_new (S2 : mx_S) (I2 : mx_I) (P2 : mx_P) (s la : Nat) : Prop := st_ok S2 P2 s ∧ P2 s 2 = some la ∧ st_rel I2 s (m0_up 64) ∧ lo_rel I2 (s + 9) (m0_up 64) 0 0
def st_lst (I K : mx_I) (s k : Nat) : Prop := (∀ c, c ≠ s + 13 → K c = I c) ∧ ∀ j, j < k → K (s + 13) j = -1
theorem st_lst.st {k : Nat} (h : st_lst I K s k) : st_lst I (mx_up K (s + 13) k (-1)) s (k + 1) := by
  refine ⟨fun c hc => by rw [mx_up_ne hc]; exact h.1 c hc, fun j hj => ?_⟩
  by_cases e : j = k
  · subst e; simp [mx_up]
  · have := h.2 j (by omega); simp [mx_up, e, this]
theorem m0_z {k : Nat} (h : k ≠ 1 ∧ k ≠ 10 ∧ (k < 67 ∨ 259 ≤ k)) : m0_up 64 k = nI 0 := by
  unfold m0_up
  rw [if_neg h.1, if_neg h.2.1, if_neg (by omega), if_neg (by omega), if_neg (by omega)]; rfl
theorem m0_5 {k : Nat} (h : 67 ≤ k ∧ k < 195) : m0_up 64 k = nI 5 := by
  unfold m0_up
  rw [if_neg (by omega), if_neg (by omega)]
  by_cases c : 67 ≤ k ∧ k < 67 + 64
  · rw [if_pos c]
  · rw [if_neg c, if_pos (by omega)]
theorem m0_b {k : Nat} (h : 195 ≤ k ∧ k < 259) : m0_up 64 k = -1 := by
  unfold m0_up
  rw [if_neg (by omega), if_neg (by omega), if_neg (by omega), if_neg (by omega), if_pos (by omega)]
theorem pe_new.rel (h : pe_new S I P pe) : pe_rel I pe (m0_up 64) := by
  obtain ⟨-, h0, h1, h2, h3⟩ := h
  refine ⟨by rw [h0, m0_z (by omega)], by rw [h1, m0_z (by omega)], fun a ha => ?_, fun a ha => ?_, fun a ha => ?_, fun a ha => ?_, fun a ha => ?_, fun a g ha hg => ?_, fun a g ha hg => ?_⟩
  · rw [h2 1 a (by omega) (by omega), m0_z (by omega)]; rfl
  · rw [h2 2 a (by omega) (by omega), m0_z (by omega)]; rfl
  · rw [h2 3 a (by omega) (by omega), m0_z (by omega)]; rfl
  · rw [h2 4 a (by omega) (by omega), m0_z (by omega)]; rfl
  · rw [h2 5 a (by omega) (by omega), m0_z (by omega)]; rfl
  · rw [(h3 (8 * a + g) (by omega)).1, m0_5 (by omega)]
  · rw [(h3 (8 * a + g) (by omega)).2, m0_5 (by omega)]
theorem c_St_init (hs : S s = some (0, 6))  : mx_C l E M_St_init 3 14 629 [.ref (s), .ref (la)] ((s + 1), S, I, P, J) (mx_iR (s + 15) J (fun S2 I2 P2 => mx_bel s S S2 I I2 P P2 ∧ st_new S2 I2 P2 s la)) := by
  refine mx_C_of (ls0 := [some (.ref (s)), some (.ref (la)), none]) (by decide +kernel) rfl rfl (Nat.le_of_ble_eq_true rfl) rfl ?_
  refine mx_al0 d_St_init_0 ?_
  refine mx_objInit d_St_init_1 oi_St_3 (by decide) (Nat.le_of_ble_eq_true rfl) ?_
  refine mx_al0 d_St_init_4 ?_
  refine mx_new (c := 4) (k2 := 13) (n2 := 620) d_St_init_5 rfl cl_St_9 (by omega) (by show _ + 9 ≤ _; omega) ?_
  have hs1 : (mx_ups S (s + 1) (0, 4)) (s + 1) = some (0, 4) := by simp [mx_ups]
  have hs0 : (mx_ups S (s + 1) (0, 4)) s = some (0, 6) := by simp [mx_ups, hs]
  refine mx_dup d_St_init_8 rfl ?_
  refine mx_kI0R (k2 := 6) (n2 := 452) d_St_init_9 (c_Pe_init hs1) ok_Pe_init rfl rfl ml_St_11 (by decide) (Nat.le_of_ble_eq_true rfl) (by omega) (by omega) (fun S1 I1 P1 hR1 => ?_)
  obtain ⟨hb1, hpn⟩ := hR1
  have hS1 : S1 s = some (0, 6) := by rw [(hb1 s (by omega)).1]; exact hs0
  refine mx_putRF d_St_init_12 fl_St_12 rfl (fun q h => by cases h; rfl) (by assumption) rfl rfl ?_
  refine mx_al0 d_St_init_15 ?_
  refine mx_new (c := 5) (k2 := 5) (n2 := 449) d_St_init_16 rfl cl_St_18 (by omega) (by show _ + 3 ≤ _; omega) ?_
  have hq1 : (mx_ups S1 (s + 9) (0, 5)) (s + 9) = some (0, 5) := by simp [mx_ups]
  have hq0 : (mx_ups S1 (s + 9) (0, 5)) s = some (0, 6) := by simp [mx_ups]; exact hS1
  refine mx_dup d_St_init_19 rfl ?_
  refine mx_kI0RN (k2 := 4) (n2 := 89) d_St_init_20 (c_Lo_init hq1) ok_Lo_init rfl rfl ml_St_20 (by decide) (Nat.le_of_ble_eq_true rfl) (by omega) (by omega) (fun S2 I2 P2 hR2 => ?_)
  obtain ⟨hb2, hL1, hL2, hL3, hLz, hL4, hL5, -⟩ := hR2
  have hS2 : S2 s = some (0, 6) := by rw [(hb2 s (by omega)).1]; exact hq0
  refine mx_putRF d_St_init_23 fl_St_21 rfl (fun q h => by cases h; rfl) (by assumption) rfl rfl ?_
  refine mx_al0 d_St_init_26 ?_
  refine mx_in_0 d_St_init_27 ?_
  refine mx_putI d_St_init_28 fl_St_25 (by assumption) ?_
  refine mx_al0 d_St_init_31 ?_
  refine mx_in_0 d_St_init_32 ?_
  refine mx_putI d_St_init_33 fl_St_29 (by assumption) ?_
  refine mx_al0 d_St_init_36 ?_
  refine mx_in_0 d_St_init_37 ?_
  refine mx_putI d_St_init_38 fl_St_32 (by assumption) ?_
  refine mx_al0 d_St_init_41 ?_
  refine mx_in_0 d_St_init_42 ?_
  refine mx_putI d_St_init_43 fl_St_35 (by assumption) ?_
  refine mx_al0 d_St_init_46 ?_
  refine mx_in_0 d_St_init_47 ?_
  refine mx_putI d_St_init_48 fl_St_38 (by assumption) ?_
  refine mx_al0 d_St_init_51 ?_
  refine mx_in_1 d_St_init_52 ?_
  refine mx_putI d_St_init_53 fl_St_41 (by assumption) ?_
  refine mx_al0 d_St_init_56 ?_
  refine mx_in_0 d_St_init_57 ?_
  refine mx_putI d_St_init_58 fl_St_44 (by assumption) ?_
  refine mx_al0 d_St_init_61 ?_
  refine mx_bip 8 d_St_init_62 (by decide) ?_
  refine mx_newI (N := 8) (k2 := 3) (n2 := 81) d_St_init_64 ac_int (nI_nn (by omega)) (nI_clamp (by omega)) (by omega) (by omega) (by omega) ?_
  have hu0 : (mx_ups S2 (s + 11) (1, 8)) s = some (0, 6) := by simp [mx_ups]; exact hS2
  refine mx_putRF d_St_init_66 fl_St_47 rfl (fun q h => by cases h; rfl) (by assumption) rfl rfl ?_
  refine mx_al0 d_St_init_69 ?_
  refine mx_bip 8 d_St_init_70 (by decide) ?_
  refine mx_newI (N := 8) (k2 := 2) (n2 := 73) d_St_init_72 ac_int (nI_nn (by omega)) (nI_clamp (by omega)) (by omega) (by omega) (by omega) ?_
  have hu1 : (mx_ups (mx_ups S2 (s + 11) (1, 8)) (s + 12) (1, 8)) s = some (0, 6) := by simp [mx_ups]; exact hS2
  refine mx_putRF d_St_init_74 fl_St_51 rfl (fun q h => by cases h; rfl) (by assumption) rfl rfl ?_
  refine mx_al0 d_St_init_77 ?_
  refine mx_bip 64 d_St_init_78 (by decide) ?_
  refine mx_newI (N := 64) (k2 := 1) (n2 := 9) d_St_init_80 ac_int (nI_nn (by omega)) (nI_clamp (by omega)) (by omega) (by omega) (by omega) ?_
  have hu2 : (mx_ups (mx_ups (mx_ups S2 (s + 11) (1, 8)) (s + 12) (1, 8)) (s + 13) (1, 64)) s = some (0, 6) := by simp [mx_ups]; exact hS2
  refine mx_putRF d_St_init_82 fl_St_54 rfl (fun q h => by cases h; rfl) (by assumption) rfl rfl ?_
  refine mx_al0 d_St_init_85 ?_
  refine mx_bip 9 d_St_init_86 (by decide) ?_
  refine mx_newI (N := 9) (k2 := 0) (n2 := 0) d_St_init_88 ac_int (nI_nn (by omega)) (nI_clamp (by omega)) (by omega) (by omega) (by omega) ?_
  have hu3 : (mx_ups (mx_ups (mx_ups (mx_ups S2 (s + 11) (1, 8)) (s + 12) (1, 8)) (s + 13) (1, 64)) (s + 14) (1, 9)) s = some (0, 6) := by simp [mx_ups]; exact hS2
  refine mx_putRF d_St_init_90 fl_St_57 rfl (fun q h => by cases h; rfl) (by assumption) rfl rfl ?_
  refine mx_al0 d_St_init_93 ?_
  refine mx_al1 d_St_init_94 ?_
  refine mx_putR d_St_init_95 fl_St_60 (by assumption) ?_
  have hSle : ∀ c, c < s + 11 → (mx_ups (mx_ups (mx_ups (mx_ups S2 (s + 11) (1, 8)) (s + 12) (1, 8)) (s + 13) (1, 64)) (s + 14) (1, 9)) c = S2 c := fun c hc => by simp only [mx_ups]; rw [if_neg (by omega), if_neg (by omega), if_neg (by omega), if_neg (by omega)]
  have hPne : ∀ c, c ≠ s → (mx_upP (mx_upP (mx_upP (mx_upP (mx_upP (mx_upP P2 (s) 1 (some (s + 9))) (s) 10 (some (s + 11))) (s) 11 (some (s + 12))) (s) 12 (some (s + 13))) (s) 13 (some (s + 14))) (s) 2 (some (la))) c = P2 c := fun c hc => by rw [mx_upP_ne hc, mx_upP_ne hc, mx_upP_ne hc, mx_upP_ne hc, mx_upP_ne hc, mx_upP_ne hc]
  have hIne : ∀ c, c ≠ s → c < s + 11 → (mx_z (mx_z (mx_z (mx_z (mx_up (mx_up (mx_up (mx_up (mx_up (mx_up (mx_up I2 (s) 3 (nI (0))) (s) 4 (nI (0))) (s) 5 (nI (0))) (s) 6 (nI (0))) (s) 7 (nI (0))) (s) 8 (nI (1))) (s) 9 (nI (0))) (s + 11)) (s + 12)) (s + 13)) (s + 14)) c = I2 c := fun c hc hd => by rw [mx_z_ne (by omega), mx_z_ne (by omega), mx_z_ne (by omega), mx_z_ne (by omega), mx_up_ne hc, mx_up_ne hc, mx_up_ne hc, mx_up_ne hc, mx_up_ne hc, mx_up_ne hc, mx_up_ne hc]
  have hS21 : ∀ c, c < s + 9 → S2 c = S1 c := fun c hc => (hb2 c hc).1.trans (by simp only [mx_ups]; rw [if_neg (by omega)])
  have hP21 : ∀ c, c < s + 9 → c ≠ s → P2 c = P1 c := fun c hc hd => (hb2 c hc).2.2.trans (by rw [mx_zP_ne (by omega), mx_upP_ne hd])
  have hI21 : ∀ c, c < s + 9 → I2 c = I1 c := fun c hc => (hb2 c hc).2.1.trans (by rw [mx_z_ne (by omega)])
  have hP20 : P2 s 0 = some (s + 1) := by rw [(hb2 s (by omega)).2.2]; simp [mx_zP, mx_upP, Nat.add_assoc]
  have hok : st_ok (mx_ups (mx_ups (mx_ups (mx_ups S2 (s + 11) (1, 8)) (s + 12) (1, 8)) (s + 13) (1, 64)) (s + 14) (1, 9)) (mx_upP (mx_upP (mx_upP (mx_upP (mx_upP (mx_upP P2 (s) 1 (some (s + 9))) (s) 10 (some (s + 11))) (s) 11 (some (s + 12))) (s) 12 (some (s + 13))) (s) 13 (some (s + 14))) (s) 2 (some (la))) s := by refine ⟨?_, ?_, ?_, ?_, ?_, ?_, ?_, ?_, ?_, ?_, ?_, hpn.1.cg (fun c h1 h2 => ⟨(hSle c (by omega)).trans (hS21 c (by omega)), (hPne c (by omega)).trans (hP21 c (by omega) (by omega))⟩), (hSle (s + 9) (by omega)).trans hL1, (congrFun (hPne (s + 9) (by omega)) 2).trans hL2, (hSle (s + 9 + 1) (by omega)).trans hL3⟩ <;> first | (simp [mx_upP]; done) | (simp [mx_upP, hP20]; done) | (simp [mx_ups]; done) | (simp [mx_ups, hS2]; done)
  have hlaw : (mx_upP (mx_upP (mx_upP (mx_upP (mx_upP (mx_upP P2 (s) 1 (some (s + 9))) (s) 10 (some (s + 11))) (s) 11 (some (s + 12))) (s) 12 (some (s + 13))) (s) 13 (some (s + 14))) (s) 2 (some (la))) s 2 = some la := by simp [mx_upP]
  obtain ⟨hC0, hC1, hC2, hC3, hC4, hC5, hC6, hD1, hD2, hD3, hD4, hPe, hLo⟩ := id hok
  refine mx_in_0 d_St_init_98 ?_
  refine mx_is2 d_St_init_99 ?_
  refine mx_loopX (α := (mx_I)) (N := 64) (a0 := (mx_z (mx_z (mx_z (mx_z (mx_up (mx_up (mx_up (mx_up (mx_up (mx_up (mx_up I2 (s) 3 (nI (0))) (s) 4 (nI (0))) (s) 5 (nI (0))) (s) 6 (nI (0))) (s) 7 (nI (0))) (s) 8 (nI (1))) (s) 9 (nI (0))) (s + 11)) (s + 12)) (s + 13)) (s + 14))) (fun k9 z9 => st_lst (mx_z (mx_z (mx_z (mx_z (mx_up (mx_up (mx_up (mx_up (mx_up (mx_up (mx_up I2 (s) 3 (nI (0))) (s) 4 (nI (0))) (s) 5 (nI (0))) (s) 6 (nI (0))) (s) 7 (nI (0))) (s) 8 (nI (1))) (s) 9 (nI (0))) (s + 11)) (s + 12)) (s + 13)) (s + 14)) z9 s k9) (ls := fun k9 z9 => [some (.ref (s)), some (.ref (la)), some (.int (nI (k9)))]) (X := fun k9 z9 => ((s + 15), (mx_ups (mx_ups (mx_ups (mx_ups S2 (s + 11) (1, 8)) (s + 12) (1, 8)) (s + 13) (1, 64)) (s + 14) (1, 9)), z9, (mx_upP (mx_upP (mx_upP (mx_upP (mx_upP (mx_upP P2 (s) 1 (some ((s + 9)))) (s) 10 (some ((s + 11)))) (s) 11 (some ((s + 12)))) (s) 12 (some ((s + 13)))) (s) 13 (some ((s + 14)))) (s) 2 (some (la))), J)) (⟨fun _ _ => rfl, fun j hj => absurd hj (by omega)⟩) (fun k9 hk9 z9 hinv ih => ?_) (fun z9 hinv => ?_)
  · skip
    obtain ⟨K, hz9⟩ : ∃ q, q = z9 := ⟨_, rfl⟩
    subst hz9
    try dsimp only at hinv ih ⊢
    refine mx_il2 d_St_init_100 ?_
    refine mx_al0 d_St_init_101 ?_
    refine mx_getR d_St_init_102 fl_St_54 (by assumption) (by assumption) ?_
    refine mx_alen d_St_init_105 (by assumption) ?_
    refine mx_icN_ge 122 d_St_init_106 (by decide) (by omega) (by omega) (fun c_106 => absurd c_106 (by omega)) (fun c_106 => ?_)
    refine mx_al0 d_St_init_109 ?_
    refine mx_getR d_St_init_110 fl_St_54 (by assumption) (by assumption) ?_
    refine mx_il2 d_St_init_113 ?_
    refine mx_ic_m1 d_St_init_114 ?_
    refine mx_iast d_St_init_115 (by assumption) (nI_inb (by omega) (by omega)) ?_
    rw [nI_clamp (by omega)]
    refine mx_iN2 d_St_init_116 ?_
    refine mx_goto 100 d_St_init_119 (by decide) ?_
    exact ih (mx_up K (s + 13) (k9) ((-1))) (hinv.st)
  · skip
    obtain ⟨K, hz9⟩ : ∃ q, q = z9 := ⟨_, rfl⟩
    subst hz9
    try dsimp only at hinv ⊢
    refine mx_il2 d_St_init_100 ?_
    refine mx_al0 d_St_init_101 ?_
    refine mx_getR d_St_init_102 fl_St_54 (by assumption) (by assumption) ?_
    refine mx_alen d_St_init_105 (by assumption) ?_
    refine mx_icN_ge 122 d_St_init_106 (by decide) (by omega) (by omega) (fun c_106 => ?_) (fun c_106 => absurd c_106 (by omega))
    exact mx_vret d_St_init_122 rfl (mx_iR_i ⟨fun c hc => ⟨(hSle c (by omega)).trans ((hS21 c (by omega)).trans ((hb1 c (by omega)).1.trans (by simp only [mx_ups]; rw [if_neg (by omega)]))), (hinv.1 c (by omega)).trans ((hIne c (by omega) (by omega)).trans ((hI21 c (by omega)).trans ((hb1 c (by omega)).2.1.trans (mx_z_ne (by omega))))), (hPne c (by omega)).trans ((hP21 c (by omega) (by omega)).trans ((hb1 c (by omega)).2.2.trans (mx_zP_ne (by omega))))⟩, hok, hlaw, ⟨hpn.rel.congr (fun c h1 h2 => (hinv.1 c (by omega)).trans ((hIne c (by omega) (by omega)).trans (hI21 c (by omega)))), (by rw [hinv.1 s (by omega), m0_z (by omega)]; simp [mx_up, mx_z]), (by rw [hinv.1 s (by omega), m0_z (by omega)]; simp [mx_up, mx_z]), (by rw [hinv.1 s (by omega), m0_z (by omega)]; simp [mx_up, mx_z]), (by rw [hinv.1 s (by omega), m0_z (by omega)]; simp [mx_up, mx_z]), (by rw [hinv.1 s (by omega), m0_z (by omega)]; simp [mx_up, mx_z]), (by rw [hinv.1 s (by omega), show m0_up 64 10 = nI 1 from rfl]; simp [mx_up, mx_z]), (fun h hh => by rw [hinv.1 (s + 11) (by omega), m0_z (by omega)]; simp [mx_z]; rfl), (fun h hh => by rw [hinv.1 (s + 12) (by omega), m0_z (by omega)]; simp [mx_z]; rfl), (fun h q hh hq => by rw [hinv.2 (8 * h + q) (by omega), m0_b (by omega)])⟩, ⟨((congrFun (hinv.1 (s + 9) (by omega)) 0).trans (congrFun (hIne (s + 9) (by omega) (by omega)) 0)).trans hL4, m0_z (by omega), by omega, ((congrFun (hinv.1 (s + 9) (by omega)) 1).trans (congrFun (hIne (s + 9) (by omega) (by omega)) 1)).trans hL5, by omega, fun j k hj => absurd hj (by omega)⟩⟩)
end BO83
