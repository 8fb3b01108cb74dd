/-! THE CLASS'S GROUND -/
section BH75
variable {l : Launch} {E : mx_Env} {t : Nat} {S : mx_S} {I K K2 I0 : mx_I} {P : mx_P} {J : mx_G} {x la pt L e T Hn Gn : Nat} {f : Nat → Nat} {m : Nat → Int32} {s : gg_S}
theorem vh_ok.upP {a k : Nat} {v : Option Nat} (h : vh_ok S P x) (ha : a ≠ x) : vh_ok S (mx_upP P a k v) x := by
  unfold vh_ok at h ⊢
  rw [mx_upP_ne (Ne.symm ha)]; exact h
theorem upP_i {a k : Nat} {v : Option Nat} (h : P a k = v) : mx_upP P a k v = P := by
  funext c j
  unfold mx_upP
  split
  · rename_i z; rw [z.1, z.2]; exact h.symm
  · rfl
/-- what the class's ground leaves -/
def vgo (I K : mx_I) (x : Nat) (f : Nat → Nat) (L T : Nat) (r : Nat ⊕ gg_S) : Prop := ∃ K1, gd_out I K1 (x + 257) (x + 250) (x + 23) f L r ∧ K = if gg_cd r T = 0 then mx_up (mx_up (vs_stT (mx_up K1 (x + 250) 1 (nI 0)) (x + 23) (x + 257)) (x + 23) 3 (nI (T + 1))) (x + 68) 1 (nI 0) else mx_up K1 (x + 250) 1 (nI 0)
theorem gq_ok_F {r : Nat ⊕ gg_S} (h : gq_ok r = false) : ∃ e, r = .inl e := by
  cases r with
  | inl e => exact ⟨e, rfl⟩
  | inr q => cases h
theorem gq_ok_T {r : Nat ⊕ gg_S} (h : gq_ok r = true) : ∃ s, r = .inr s := by
  cases r with
  | inl e => cases h
  | inr q => exact ⟨q, rfl⟩
/-- what reading the ground leaves alone -/
def gg_kp (m m2 : Nat → Int32) : Prop := ∀ k, (k < 3 ∨ k = 9 ∨ k = 10 ∨ 195 ≤ k) → m2 k = m k
theorem gg_host_kp {c : Nat} {q : gg_S × Nat} (h8 : s.1 < 8) (h : gg_host (tK f L) (tV f L) s c = .inr q) : gg_kp s.2.2 q.1.2.2 ∧ q.1.1 ≤ 8 ∧ q.1.2.1 = s.2.1 := by
  unfold gg_host at h
  cases h1 : gq_aft (tK f L) (tV f L) 19 0 10 (c + 1) with
  | inl e => rw [h1] at h; cases h
  | inr p =>
    rw [h1] at h; simp only at h
    cases h2 : gg_hrs (tK f L) (tV f L) p.2 with
    | inl e => rw [h2] at h; cases h
    | inr r =>
      rw [h2] at h
      cases h
      refine ⟨fun k hk => ?_, by show s.1 + 1 ≤ 8; omega, rfl⟩
      unfold gg_hostm; dsimp only
      rw [updI_n (by omega), updI_n (by omega), updI_n (by omega)]
theorem gg_guest_kp {c : Nat} {q : gg_S × Nat} (h8 : s.2.1 < 8) (h : gg_guest (tK f L) (tV f L) s c = .inr q) : gg_kp s.2.2 q.1.2.2 ∧ q.1.1 = s.1 ∧ q.1.2.1 ≤ 8 := by
  unfold gg_guest at h
  cases h1 : gq_aft (tK f L) (tV f L) 22 1 5 (c + 1) with
  | inl e => rw [h1] at h; cases h
  | inr p =>
    rw [h1] at h; simp only at h
    cases h2 : gg_hrs (tK f L) (tV f L) p.2 with
    | inl e => rw [h2] at h; cases h
    | inr r =>
      rw [h2] at h; simp only at h
      cases h3 : gg_mk (tK f L) (tV f L) r.2 with
      | inl e => rw [h3] at h; cases h
      | inr u =>
        rw [h3] at h
        cases h
        refine ⟨fun k hk => ?_, rfl, by show s.2.1 + 1 ≤ 8; omega⟩
        unfold gg_guestm; dsimp only
        rw [updI_n (by omega), updI_n (by omega), updI_n (by omega), updI_n (by omega)]
theorem gg_rank_kp {c base many others : Nat} {q : gg_S × Nat} (hb : base = 67 ∨ base = 131) (hm : many ≤ 8) (ho : others ≤ 8) (h : gg_rank (tK f L) (tV f L) (tZ f L) (tq_b f L) f base many others s c = .inr q) : gg_kp s.2.2 q.1.2.2 ∧ q.1.1 = s.1 ∧ q.1.2.1 = s.2.1 := by
  unfold gg_rank at h
  cases h1 : gq_num (tK f L) (tV f L) 0 many (c + 1) with
  | inl e => rw [h1] at h; cases h
  | inr p =>
    have g := (gq_num_go (tK0 rfl)).1 p h1
    rw [h1] at h; simp only at h
    cases h2 : gq_fig (tK f L) (tZ f L) others p.2 with
    | inl e => rw [h2] at h; cases h
    | inr u =>
      rw [h2] at h
      cases h
      exact ⟨fun k hk => if_neg (by omega), rfl, rfl⟩
theorem gg_fld_kp {k : Nat} {r : Nat ⊕ (Nat × Nat)} {q : gg_S × Nat} (hk : k = 5 ∨ k = 6 ∨ k = 7 ∨ k = 8) (h : gg_fld k s r = .inr q) : gg_kp s.2.2 q.1.2.2 ∧ q.1.1 = s.1 ∧ q.1.2.1 = s.2.1 := by
  cases r with
  | inl e => cases h
  | inr p => cases h; exact ⟨fun j hj => updI_n (by omega), rfl, rfl⟩
theorem gg_line_kp {c : Nat} {q : gg_S × Nat} (h1 : s.1 ≤ 8) (h2 : s.2.1 ≤ 8) (h : gg_LN f L s c = .inr q) : gg_kp s.2.2 q.1.2.2 ∧ q.1.1 ≤ 8 ∧ q.1.2.1 ≤ 8 := by
  have h : gg_line (tK f L) (tV f L) (tZ f L) (tq_b f L) f s c = .inr q := h
  unfold gg_line at h
  split at h
  · split at h
    · have g := gg_host_kp (by assumption) h; exact ⟨g.1, g.2.1, by rw [g.2.2]; exact h2⟩
    · cases h
  split at h
  · split at h
    · have g := gg_guest_kp (by assumption) h; exact ⟨g.1, by rw [g.2.1]; exact h1, g.2.2⟩
    · cases h
  split at h
  · have g := gg_rank_kp (Or.inl rfl) h1 h2 h; exact ⟨g.1, by rw [g.2.1]; exact h1, by rw [g.2.2]; exact h2⟩
  split at h
  · have g := gg_rank_kp (Or.inr rfl) h2 h1 h; exact ⟨g.1, by rw [g.2.1]; exact h1, by rw [g.2.2]; exact h2⟩
  split at h
  · have g := gg_fld_kp (by omega) h; exact ⟨g.1, by rw [g.2.1]; exact h1, by rw [g.2.2]; exact h2⟩
  split at h
  · have g := gg_fld_kp (by omega) h; exact ⟨g.1, by rw [g.2.1]; exact h1, by rw [g.2.2]; exact h2⟩
  split at h
  · have g := gg_fld_kp (by omega) h; exact ⟨g.1, by rw [g.2.1]; exact h1, by rw [g.2.2]; exact h2⟩
  split at h
  · have g := gg_fld_kp (by omega) h; exact ⟨g.1, by rw [g.2.1]; exact h1, by rw [g.2.2]; exact h2⟩
  cases h
theorem gg_rd_kp : ∀ (n : Nat) (s s2 : gg_S) (c : Nat), s.1 ≤ 8 → s.2.1 ≤ 8 → gq_rd (tK f L) (gg_LN f L) n s c = .inr s2 → gg_kp s.2.2 s2.2.2 ∧ s2.1 ≤ 8 ∧ s2.2.1 ≤ 8
  | 0, s, s2, c, _, _, h => by cases h
  | n + 1, s, s2, c, h1, h2, h => by
    unfold gq_rd at h
    cases hl : gg_LN f L s c with
    | inl e => rw [hl] at h; cases h
    | inr q =>
      have g := gg_line_kp h1 h2 hl
      rw [hl] at h
      simp only at h
      split at h
      · cases h; exact g
      · split at h
        · have g2 := gg_rd_kp n q.1 s2 _ g.2.1 g.2.2 h
          exact ⟨fun k hk => (g2.1 k hk).trans (g.1 k hk), g2.2⟩
        · cases h
theorem gg_read_kp {s2 : gg_S} (h1 : s.1 ≤ 8) (h2 : s.2.1 ≤ 8) (h : gg_read f L s = .inr s2) : gg_kp s.2.2 s2.2.2 ∧ s2.1 ≤ 8 ∧ s2.2.1 ≤ 8 := by
  unfold gg_read gq_read at h
  split at h
  · cases h; exact ⟨fun k _ => rfl, h1, h2⟩
  · exact gg_rd_kp 14 s s2 0 h1 h2 h
theorem c_forget0 (h : S pt = some (0, 7))  : mx_C l E M_Pt_forget 0 0 0 [.ref (pt)] (t, S, I, P, J) (mx_rv (t, S, mx_up I pt 1 (nI 0), P, J)) := by
  refine mx_C_of (ls0 := [some (.ref (pt))]) (by decide +kernel) rfl rfl (Nat.le_of_ble_eq_true rfl) rfl ?_
  refine mx_al0 d_Pt_forget_0 ?_
  refine mx_in_0 d_Pt_forget_1 ?_
  refine mx_putI d_Pt_forget_2 fl_Pt_17 (by assumption) ?_
  exact mx_vret d_Pt_forget_5 rfl (mx_rv_of rfl)
def sp_ground (r : Nat ⊕ gg_S) (T : Nat) : Nat × Int32 := (gg_cd r T, nI (gg_an r T))
theorem c_Vh_ground (htr : l.stackTraces = false) (hV : vh_ok S P x) (hSt : st_ok S P (x + 23)) (hDr : st_ok S P (x + 257)) (hTe : te_ok S P (x + 250)) (hGr : gx_ok S P (x + 256) (x + 250) (x + 257)) (hla : P (x + 23) 2 = some la) (hSr : st_rel I (x + 23) m) (hm3 : m 3 = nI Hn) (hm4 : m 4 = nI Gn) (hT : m 0 = nI T) (hT12 : T ≤ 12) (hH8 : Hn ≤ 8) (hG8 : Gn ≤ 8) (hx : te_tx I (x + 250) f L)  : mx_C l E M_Vh_ground 10 1 6 [.ref (x)] (t, S, I, P, J) (mx_pR (fun c => if c = 1 then "java/lang/IllegalArgumentException" else "java/lang/UnsupportedOperationException") (sp_ground (gg_read f L (Hn, Gn, m)) T) t S (mx_upP P (x + 257) 2 (some la)) J (fun K => vgo I K x f L T (gg_read f L (Hn, Gn, m)))) := by
  obtain ⟨hV0, hVp0, hVp1, hVp2, hVp3, hVp4, hVp5, hVp7, hVp8, hVp9, hVp10, hVp11, hVp12, hVs15, hVs16, hVs68⟩ := id hV
  obtain ⟨hz0, -⟩ := id hGr
  have hT0 := hTe.1
  obtain ⟨hs0, -⟩ := id hSt
  refine mx_C_of (ls0 := [some (.ref (x)), none]) (by decide +kernel) rfl rfl (Nat.le_of_ble_eq_true rfl) rfl ?_
  refine mx_al0 d_Vh_ground_0 ?_
  refine mx_getR d_Vh_ground_1 fl_Vh_80 (by assumption) (by assumption) ?_
  refine mx_al0 d_Vh_ground_4 ?_
  refine mx_getR d_Vh_ground_5 fl_Vh_51 (by assumption) (by assumption) ?_
  refine mx_cV1iR d_Vh_ground_8 (c_Gr_read hGr hDr hTe hSt hla (by omega) hSr hm3 hm4 hH8 hG8 hx) ok_Gr_read ml_Vh_108 (by assumption) ⟨rfl, rfl⟩ (by decide) (Nat.le_of_ble_eq_true rfl) (fun K1 hK1 => ?_)
  have hV2 := hV.upP (a := x + 257) (k := 2) (v := some la) (by omega)
  obtain ⟨hW0, hWp0, hWp1, hWp2, hWp3, hWp4, hWp5, hWp7, hWp8, hWp9, hWp10, hWp11, hWp12, hWs15, hWs16, hWs68⟩ := id hV2
  have hGr2 := hGr.upP (a := x + 257) (k := 2) (v := some la) (by omega)
  obtain ⟨hg0, hg1, hg2, hg3, hg4⟩ := id hGr2
  have hStN : st_ok S (mx_upP P (x + 257) 2 (some la)) (x + 23) := st_ok_law hSt (by omega)
  have hStD : st_ok S (mx_upP P (x + 257) 2 (some la)) (x + 257) := st_ok_law hDr (by omega)
  have hlaD : (mx_upP P (x + 257) 2 (some la)) (x + 257) 2 = some la := by simp [mx_upP]
  have hlaN : (mx_upP P (x + 257) 2 (some la)) (x + 23) 2 = some la := by rw [mx_upP_ne (by omega)]; exact hla
  obtain ⟨hN0, -⟩ := id hStN
  refine mx_is1 d_Vh_ground_11 ?_
  refine mx_al0 d_Vh_ground_12 ?_
  refine mx_getR d_Vh_ground_13 fl_Vh_71 (by assumption) (by assumption) ?_
  refine mx_cV0v d_Vh_ground_16 (c_Te_empty hTe.1) ok_Te_empty ml_Vh_112 (by assumption) ⟨rfl, rfl⟩ (by decide) (Nat.le_of_ble_eq_true rfl) ?_
  refine mx_il1 d_Vh_ground_19 ?_
  refine mx_ifB_ne 33 d_Vh_ground_20 (by decide) (fun c_20 => ?_) (fun c_20 => ?_)
  · skip
    obtain ⟨s, hr⟩ := gq_ok_T c_20
    rw [hr] at hK1
    have hT1 : mx_up K1 (x + 250) 1 (nI 0) (x + 23) 3 = nI T := by rw [mx_up_ne (by omega), hK1.1.1 (x + 23) (by omega) (by omega)]; exact hSr.2.1.trans hT
    have hT2 : vs_stT (mx_up K1 (x + 250) 1 (nI 0)) (x + 23) (x + 257) (x + 23) 3 = nI T := by have h9 := (hK1.2.2.1.congr (fun c a b => mx_up_ne (a := x + 250) (k := 1) (v := nI 0) (by omega))); exact (vs_stT_rel (by omega) h9).2.1.trans (((gg_read_kp hH8 hG8 hr).1 0 (by omega)).trans hT)
    refine mx_al0 d_Vh_ground_33 ?_
    refine mx_getR d_Vh_ground_34 fl_Vh_51 (by assumption) (by assumption) ?_
    refine mx_getI d_Vh_ground_37 fl_Vh_122 (by assumption) ?_
    refine mx_ti (y := nI (T)) (hT1) ?_
    refine mx_bip 12 d_Vh_ground_40 (by decide) ?_
    refine mx_icN_lt 55 d_Vh_ground_42 (by decide) (by omega) (by omega) (fun c_42 => ?_) (fun c_42 => ?_)
    · skip
      refine mx_al0 d_Vh_ground_55 ?_
      refine mx_getR d_Vh_ground_56 fl_Vh_51 (by assumption) (by assumption) ?_
      refine mx_al0 d_Vh_ground_59 ?_
      refine mx_getR d_Vh_ground_60 fl_Vh_80 (by assumption) (by assumption) ?_
      refine mx_getR d_Vh_ground_63 fl_Vh_130 (by assumption) (by assumption) ?_
      refine mx_cV1v d_Vh_ground_66 ((by have h9 := c_St_take (l := l) (E := E) (t := t) (I := (mx_up K1 (x + 250) 1 (nI 0))) (J := J) hStN hStD hlaD; rw [upP_i hlaN] at h9; exact h9)) ok_St_take ml_Vh_133 (by assumption) ⟨rfl, rfl⟩ (by decide) (Nat.le_of_ble_eq_true rfl) ?_
      refine mx_al0 d_Vh_ground_69 ?_
      refine mx_getR d_Vh_ground_70 fl_Vh_51 (by assumption) (by assumption) ?_
      refine mx_dup d_Vh_ground_73 rfl ?_
      refine mx_getI d_Vh_ground_74 fl_Vh_122 (by assumption) ?_
      refine mx_ti (y := nI (T)) (hT2) ?_
      refine mx_in_1 d_Vh_ground_77 ?_
      refine mx_iaddN d_Vh_ground_78 ?_
      refine mx_putI d_Vh_ground_79 fl_Vh_122 (by assumption) ?_
      refine mx_al0 d_Vh_ground_82 ?_
      refine mx_getR d_Vh_ground_83 fl_Vh_64 (by assumption) (by assumption) ?_
      refine mx_cV0v d_Vh_ground_86 (c_forget0 hWs68) ok_Pt_forget ml_Vh_137 (by assumption) ⟨rfl, rfl⟩ (by decide) (Nat.le_of_ble_eq_true rfl) ?_
      refine mx_al0 d_Vh_ground_89 ?_
      refine mx_getR d_Vh_ground_90 fl_Vh_51 (by assumption) (by assumption) ?_
      refine mx_getI d_Vh_ground_93 fl_Vh_122 (by assumption) ?_
      refine mx_ti (y := nI (T + 1)) ((by rw [mx_up_ne (by omega)]; exact mu_e)) ?_
      exact mx_iret d_Vh_ground_96 rfl (mx_pR_i (by rw [hr]; exact Prod.ext (if_neg (by omega)) (congrArg nI (if_neg (by omega)))) ⟨K1, by rw [hr]; exact hK1, by rw [hr]; exact (if_pos (if_neg (by omega))).symm⟩)
    · skip
      exact mx_throw (i := 27) htr rfl th_Vh_125_129 rfl rfl d_Vh_ground_45 d_Vh_ground_48 d_Vh_ground_49 d_Vh_ground_51 d_Vh_ground_54 (by decide) (by decide) (by decide) (Nat.le_of_ble_eq_true rfl) (fun t9 ht => mx_pR_x ht 1 (by rw [hr]; exact if_pos (by omega)) rfl ⟨K1, by rw [hr]; exact hK1, by rw [hr]; exact (if_neg (by rw [show gg_cd (.inr s) T = 2 from if_pos (by omega)]; omega)).symm⟩)
  · skip
    obtain ⟨e, hr⟩ := gq_ok_F c_20
    exact mx_throw (i := 26) htr rfl th_Vh_115_119 rfl rfl d_Vh_ground_23 d_Vh_ground_26 d_Vh_ground_27 d_Vh_ground_29 d_Vh_ground_32 (by decide) (by decide) (by decide) (Nat.le_of_ble_eq_true rfl) (fun t9 ht => mx_pR_x ht 0 (by rw [hr]; rfl) rfl ⟨K1, hK1, by rw [hr]; rfl⟩)
end BH75
