/-! THE CLASS'S GROUND -/
section BB69
variable {l : Launch} {E : mx_Env} {t : Nat} {S : mx_S} {I K K2 : mx_I} {P : mx_P} {J : mx_G} {gr te dr nw la L c e z n tt Hn Gn : Nat} {f : Nat → Nat} {m : Nat → Int32} {b : Bool}
theorem te_ok.upP {a k : Nat} {v : Option Nat} (h : te_ok S P te) (ha : a ≠ te) : te_ok S (mx_upP P a k v) te := by
  unfold te_ok at h ⊢
  rw [mx_upP_ne (Ne.symm ha)]; exact h
theorem gx_ok.upP {a k : Nat} {v : Option Nat} (h : gx_ok S P gr te dr) (ha : a ≠ gr) : gx_ok S (mx_upP P a k v) gr te dr := by
  unfold gx_ok at h ⊢
  rw [mx_upP_ne (Ne.symm ha)]; exact h
abbrev gg_LN (f : Nat → Nat) (L : Nat) : gg_S → Nat → Nat ⊕ (gg_S × Nat) := fun s t => gg_line (tK f L) (tV f L) (tZ f L) (tq_b f L) f s t
def gg_read (f : Nat → Nat) (L : Nat) (s : gg_S) : Nat ⊕ gg_S := gq_read (tK f L) (gg_LN f L) 14 s
/-- what reading the ground leaves -/
def gd_off (I K : mx_I) (dr te : Nat) : Prop := (∀ a, (a < te ∨ te + 6 ≤ a) → (a < dr ∨ dr + 14 ≤ a) → K a = I a) ∧ K (te + 1) = I (te + 1) ∧ ∀ k, k ≠ 2 → k ≠ 7 → k ≠ 8 → k ≠ 9 → K te k = I te k
def gd_ok (I K : mx_I) (dr nw : Nat) (s : gg_S) : Prop := st_rel K dr s.2.2 ∧ s.2.2 3 = nI s.1 ∧ s.2.2 4 = nI s.2.1 ∧ s.1 ≤ 8 ∧ s.2.1 ≤ 8 ∧ ∀ mm N z, lo_rel I (nw + 9) mm N z → lo_rel K (dr + 9) mm N z
def gd_out (I K : mx_I) (dr te nw : Nat) (f : Nat → Nat) (L : Nat) (r : Nat ⊕ gg_S) : Prop := gd_off I K dr te ∧ match r with
  | .inl e => K te 2 = nI (tq_b f L e)
  | .inr s => K te 2 = -1 ∧ gd_ok I K dr nw s
theorem gd_off.of {K1 : mx_I} (hb : te_off (vs_stT I dr nw) K1 te) (h : go_off K1 K dr te) (hd : te + 6 ≤ dr) : gd_off I K dr te := by
  refine ⟨fun a q1 q2 => ?_, ?_, fun k a b c d => ?_⟩
  · rw [h.1 a (by omega) (by omega), hb.1 a (by omega) (by omega) (by omega) (by omega) (by omega), vs_stT_o (by omega)]
  · rw [h.1 (te + 1) (by omega) (by omega), hb.1 (te + 1) (by omega) (by omega) (by omega) (by omega) (by omega), vs_stT_o (by omega)]
  · rw [h.2.1 k a c d, hb.2 k a b c d, vs_stT_o (by omega)]
theorem gd_ok.of {K1 : mx_I} {s : gg_S} (hb : te_off (vs_stT I dr nw) K1 te) (h : go_s K1 K dr te f L tt s) (hd : te + 6 ≤ dr) (hnw : nw + 15 ≤ te) : gd_ok I K dr nw s := by
  refine ⟨h.st, h.2.2.2.2.2.1, h.2.2.2.2.2.2.1, h.2.2.2.2.2.2.2.1, h.2.2.2.2.2.2.2.2, fun mm N z hl => ?_⟩
  refine (vs_stT_log (s := dr) (r := nw) (by omega) hl).congr (fun c h1 h2 => ?_)
  rw [h.1.1 c (by omega) (by omega), hb.1 c (by omega) (by omega) (by omega) (by omega) (by omega)]
def gd_inv (I K : mx_I) (dr te : Nat) (f : Nat → Nat) (L : Nat) (s0 : gg_S) (k : Nat) : Prop := ∃ tt s, go_s I K dr te f L tt s ∧ gq_rd (tK f L) (gg_LN f L) 14 s0 0 = gq_rd (tK f L) (gg_LN f L) (14 - k) s tt
theorem c_Gr_read (hGr : gx_ok S P gr te dr) (hSt : st_ok S P dr) (hTe : te_ok S P te) (hN : st_ok S P nw) (hla : P nw 2 = some la) (hnw : nw + 15 ≤ te) (hSr : st_rel I nw m) (hm3 : m 3 = nI Hn) (hm4 : m 4 = nI Gn) (hH8 : Hn ≤ 8) (hG8 : Gn ≤ 8) (hx : te_tx I te f L)  : mx_C l E M_Gr_read 9 0 0 [.ref (gr), .ref (nw)] (t, S, I, P, J) (mx_sR (some (.int (bI (gq_ok (gg_read f L (Hn, Gn, m)))))) t S (mx_upP P dr 2 (some la)) J (fun K => gd_out I K dr te nw f L (gg_read f L (Hn, Gn, m)))) := by
  obtain ⟨hG0, hG1, hG2, hG3, hG4⟩ := id hGr
  obtain ⟨hC0, hC1, hC2, hC3, hC4, hC5, hC6, hD1, hD2, hD3, hD4, hPe, hLo⟩ := id hSt
  obtain ⟨hT0, hT1, hT2, hT3, hT4, hT5, hT6, hT7, hT8, hT9, hT10⟩ := id hTe
  have hd : te + 6 ≤ dr := by omega
  have hL9 := hx.2.2
  have hTL := tq_n_le f L
  refine mx_C_of (ls0 := [some (.ref (gr)), some (.ref (nw)), none]) (by decide +kernel) rfl rfl (Nat.le_of_ble_eq_true rfl) rfl ?_
  refine mx_al0 d_Gr_read_0 ?_
  refine mx_getR d_Gr_read_1 fl_Gr_15 (by assumption) (by assumption) ?_
  refine mx_al1 d_Gr_read_4 ?_
  refine mx_cV1v d_Gr_read_5 (c_St_take hSt hN hla) ok_St_take ml_Gr_19 (by assumption) ⟨rfl, rfl⟩ (by decide) (Nat.le_of_ble_eq_true rfl) ?_
  have hGr2 : gx_ok S (mx_upP P dr 2 (some la)) gr te dr := hGr.upP (by omega)
  have hTe2 : te_ok S (mx_upP P dr 2 (some la)) te := hTe.upP (by omega)
  have hSt2 : st_ok S (mx_upP P dr 2 (some la)) dr := st_ok_law hSt (by omega)
  have hG1p : (mx_upP P dr 2 (some la)) gr 0 = some te := hGr2.2.1
  have hT0p : (mx_upP P dr 2 (some la)) te 3 = some (te + 2) := hTe2.2.2.1
  have hx2 : te_tx (vs_stT I dr nw) te f L := hx.of (vs_stT_o (by omega)) (by rw [vs_stT_o (by omega)])
  refine mx_al0 d_Gr_read_8 ?_
  refine mx_getR d_Gr_read_9 fl_Gr_9 (by assumption) (by assumption) ?_
  refine mx_cV0vR d_Gr_read_12 (c_Te_begin hTe2 hx2) ok_Te_begin ml_Gr_25 (by assumption) ⟨rfl, rfl⟩ (by decide) (Nat.le_of_ble_eq_true rfl) (fun K1 hK1 => ?_)
  have hk36 := tq_k_lt f L (tq_b f L 0)
  have hs9 : go_s K1 K1 dr te f L 0 (Hn, Gn, m) := ⟨go_off.rf, rfl, hK1.2.1, hK1.2.2.1, (vs_stT_rel (s := dr) (r := nw) (by omega) hSr).congr (fun c a b => hK1.1.1 c (by omega) (by omega) (by omega) (by omega) (by omega)), hm3, hm4, hH8, hG8⟩
  refine mx_al0 d_Gr_read_15 ?_
  refine mx_getR d_Gr_read_16 fl_Gr_9 (by assumption) (by assumption) ?_
  refine mx_getI d_Gr_read_19 fl_Gr_30 (by assumption) ?_
  refine mx_ti (y := nI (tq_k f L (tq_b f L (0)))) (hK1.2.2.1.2.1) ?_
  refine mx_if_ne 27 d_Gr_read_22 (by decide) (fun c_22 => ?_) (fun c_22 => ?_)
  · skip
    have hk0 : ¬ tK f L 0 = 0 := fun z => c_22 (congrArg nI z)
    have hq1 : gg_read f L (Hn, Gn, m) = gq_rd (tK f L) (gg_LN f L) 14 (Hn, Gn, m) 0 := if_neg hk0
    refine mx_in_0 d_Gr_read_27 ?_
    refine mx_is2 d_Gr_read_28 ?_
    refine mx_loopX (α := (mx_I)) (N := 14) (a0 := K1) (fun k9 z9 => gd_inv K1 z9 dr te f L (Hn, Gn, m) k9) (ls := fun k9 z9 => [some (.ref (gr)), some (.ref (nw)), some (.int (nI (k9)))]) (X := fun k9 z9 => (t, S, z9, (mx_upP P dr 2 (some la)), J)) (⟨0, (Hn, Gn, m), hs9, rfl⟩) (fun k9 hk9 z9 hinv ih => ?_) (fun z9 hinv => ?_)
    · skip
      obtain ⟨K, hz9⟩ : ∃ q, q = z9 := ⟨_, rfl⟩
      subst hz9
      try dsimp only at hinv ih ⊢
      obtain ⟨tt, s, hs, he⟩ := hinv
      have he2 := rl_step hk9 he
      refine mx_il2 d_Gr_read_29 ?_
      refine mx_bip 14 d_Gr_read_30 (by decide) ?_
      refine mx_icN_ge 75 d_Gr_read_32 (by decide) (by omega) (by omega) (fun c_32 => absurd c_32 (by omega)) (fun c_32 => ?_)
      refine mx_al0 d_Gr_read_35 ?_
      refine mx_cV0iR d_Gr_read_36 (c_Gr_line hGr2 hSt2 hTe2 hs.self) ok_Gr_readLine ml_Gr_34 (by assumption) ⟨rfl, rfl⟩ (by decide) (Nat.le_of_ble_eq_true rfl) (fun K2 hK2 => ?_)
      refine mx_ifB_ne 44 d_Gr_read_39 (by decide) (fun c_39 => ?_) (fun c_39 => ?_)
      · skip
        obtain ⟨q, hq0⟩ := gq_ok_t c_39
        have hq0 : gg_LN f L s tt = .inr q := hq0
        have hK2 : go_out K K2 dr te f L (gg_LN f L s tt) := hK2
        rw [hq0] at hK2 he2
        have hs : go_s K1 K2 dr te f L q.2 q.1 := hs.tr hK2
        have hk38 := tq_k_lt f L (tq_b f L q.2)
        refine mx_al0 d_Gr_read_44 ?_
        refine mx_getR d_Gr_read_45 fl_Gr_9 (by assumption) (by assumption) ?_
        refine mx_getI d_Gr_read_48 fl_Gr_30 (by assumption) ?_
        refine mx_ti (y := nI (tq_k f L (tq_b f L (q.2)))) (hs.cu.2.1) ?_
        refine mx_if_ne 56 d_Gr_read_51 (by decide) (fun c_51 => ?_) (fun c_51 => ?_)
        · skip
          have hkq : ¬ tK f L q.2 = 0 := fun z => c_51 (congrArg nI z)
          have he3 := he2.trans (if_neg hkq)
          refine mx_al0 d_Gr_read_56 ?_
          refine mx_getR d_Gr_read_57 fl_Gr_9 (by assumption) (by assumption) ?_
          refine mx_in_3 d_Gr_read_60 ?_
          refine mx_cV1iR d_Gr_read_61 (c_Te_takes hTe2 hs.tok hs.cu (w := 3) (by omega) (by omega)) ok_Te_takes ml_Gr_38 (by assumption) ⟨rfl, rfl⟩ (by decide) (Nat.le_of_ble_eq_true rfl) (fun K3 hK3 => ?_)
          refine mx_ifB_ne 69 d_Gr_read_64 (by decide) (fun c_64 => ?_) (fun c_64 => ?_)
          · skip
            have h3 : tK f L q.2 = 3 := Decidable.byContradiction (fun z => by rw [gq_tk_n z] at c_64; cases c_64)
            rw [gq_tk_y h3] at hK3
            have hs := hs.tk hK3 hd
            have he4 := he3.trans (if_pos h3)
            refine mx_iN2 d_Gr_read_69 ?_
            refine mx_goto 29 d_Gr_read_72 (by decide) ?_
            exact ih K3 (⟨q.2 + 1, q.1, hs, he4⟩)
          · skip
            have h3 : ¬ tK f L q.2 = 3 := fun z => by rw [gq_tk_y z] at c_64; cases c_64
            rw [gq_tk_n h3] at hK3
            have hq := hq1.trans (he3.trans (if_neg h3))
            refine mx_in_0 d_Gr_read_67 ?_
            exact mx_zret d_Gr_read_68 rfl (by first | exact Or.inl rfl | exact Or.inr rfl) (mx_sR_i (by rw [hq]; rfl) (by rw [hq]; exact ⟨(gd_off.of hK1.1 ((hs.bad hK3 hd).1) hd), hK3.2⟩))
        · skip
          have hkq : tK f L q.2 = 0 := (Nat.eq_zero_or_pos _).elim id (fun z => absurd c_51 (nI_ne0 z (by show tq_k f L (tq_b f L q.2) < _; omega)))
          have hq := hq1.trans (he2.trans (if_pos hkq))
          refine mx_in_1 d_Gr_read_54 ?_
          exact mx_zret d_Gr_read_55 rfl (by first | exact Or.inl rfl | exact Or.inr rfl) (mx_sR_i (by rw [hq]; rfl) (by rw [hq]; exact ⟨(gd_off.of hK1.1 (hs.1) hd), hs.2.1.trans hK1.2.2.2, gd_ok.of hK1.1 hs hd hnw⟩))
      · skip
        obtain ⟨e0, he0⟩ := gq_ok_f c_39
        have he0 : gg_LN f L s tt = .inl e0 := he0
        have hK2 : go_out K K2 dr te f L (gg_LN f L s tt) := hK2
        rw [he0] at hK2 he2
        have hbad := hs.trb hK2
        have hq := hq1.trans he2
        refine mx_in_0 d_Gr_read_42 ?_
        exact mx_zret d_Gr_read_43 rfl (by first | exact Or.inl rfl | exact Or.inr rfl) (mx_sR_i (by rw [hq]; rfl) (by rw [hq]; exact ⟨(gd_off.of hK1.1 (hbad.1) hd), hbad.2⟩))
    · skip
      obtain ⟨K, hz9⟩ : ∃ q, q = z9 := ⟨_, rfl⟩
      subst hz9
      try dsimp only at hinv ⊢
      obtain ⟨tt, s, hs, he⟩ := hinv
      have hq : gg_read f L (Hn, Gn, m) = .inl tt := hq1.trans he
      refine mx_il2 d_Gr_read_29 ?_
      refine mx_bip 14 d_Gr_read_30 (by decide) ?_
      refine mx_icN_ge 75 d_Gr_read_32 (by decide) (by omega) (by omega) (fun c_32 => ?_) (fun c_32 => absurd c_32 (by omega))
      refine mx_al0 d_Gr_read_75 ?_
      refine mx_getR d_Gr_read_76 fl_Gr_9 (by assumption) (by assumption) ?_
      refine mx_cV0iR d_Gr_read_79 (c_Te_refuseR hTe2 hs.tok hs.cu) ok_Te_refuse ml_Gr_42 (by assumption) ⟨rfl, rfl⟩ (by decide) (Nat.le_of_ble_eq_true rfl) (fun K2 hK2 => ?_)
      exact mx_zret d_Gr_read_82 rfl (bI_01 _) (mx_sR_i (by rw [hq]; rfl) (by rw [hq]; exact ⟨(gd_off.of hK1.1 ((hs.bad hK2 hd).1) hd), hK2.2⟩))
  · skip
    have hk0 : tK f L 0 = 0 := (Nat.eq_zero_or_pos _).elim id (fun z => absurd c_22 (nI_ne0 z (by show tq_k f L (tq_b f L 0) < _; omega)))
    have hq : gg_read f L (Hn, Gn, m) = .inr (Hn, Gn, m) := if_pos hk0
    refine mx_in_1 d_Gr_read_25 ?_
    exact mx_zret d_Gr_read_26 rfl (by first | exact Or.inl rfl | exact Or.inr rfl) (mx_sR_i (by rw [hq]; rfl) (by rw [hq]; exact ⟨(gd_off.of hK1.1 (go_off.rf) hd), hK1.2.2.2, gd_ok.of hK1.1 hs9 hd hnw⟩))
end BB69
