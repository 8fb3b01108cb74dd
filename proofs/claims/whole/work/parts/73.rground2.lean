/-! THE REFERENCE READS THE GROUND -/
section BF73
variable {l : Launch} {E : mx_Env} {t : Nat} {S : mx_S} {I K K2 K3 I0 : mx_I} {P : mx_P} {J : mx_G} {mo L a e c n i k j tt : Nat} {f : Nat → Nat} {v w : Int32} {m : Nat → Int32} {r : Nat ⊕ Nat} {s s0 : gg_S}
def rg_out (I K : mx_I) (mo : Nat) (f : Nat → Nat) (L : Nat) (r : Nat ⊕ gg_S) : Prop := match r with
  | .inl e => mg_bad I K mo f L e
  | .inr s => mg_off I K mo ∧ K mo 12 = -1 ∧ K (mo + 1) = s.2.2 ∧ gg_in s
def rg_inv (I K : mx_I) (mo : Nat) (f : Nat → Nat) (L : Nat) (s0 : gg_S) (k : Nat) (go : Bool) (n : Nat) : Prop := n = k ∧ ((go = false ∧ rg_out I K mo f L (gg_read f L s0)) ∨ (go = true ∧ ((∃ e, gg_read f L s0 = .inl e ∧ mg_bad I K mo f L e) ∨ ∃ tt s, mg_s I K mo f L tt s ∧ k ≤ 14 ∧ gg_read f L s0 = gq_rd (tK f L) (gg_LN f L) (14 - k) s tt)))
theorem rg_inv.ok {go : Bool} (h : rg_inv I K mo f L s0 k go n) (hg : go = true) (hf : K mo 12 = -1) (hL : L ≤ 400) : ∃ tt s, mg_s I K mo f L tt s ∧ k ≤ 14 ∧ gg_read f L s0 = gq_rd (tK f L) (gg_LN f L) (14 - k) s tt := by
  rcases h.2 with ⟨h1, -⟩ | ⟨-, ⟨e, -, h2⟩ | h2⟩
  · rw [hg] at h1; cases h1
  · exact absurd hf (by rw [h2.2.1]; exact nI_m1b (by have := tq_bL f L e; omega))
  · exact h2
theorem rg_inv.no {go : Bool} (h : rg_inv I K mo f L s0 k go n) (hf : go = false ∨ ¬ K mo 12 = -1) : rg_out I K mo f L (gg_read f L s0) := by
  rcases h.2 with ⟨-, h1⟩ | ⟨h1, ⟨e, h3, h2⟩ | ⟨tt, s, h2, -⟩⟩
  · exact h1
  · rw [h3]; exact h2
  · rcases hf with z | z
    · rw [h1] at z; cases z
    · exact absurd h2.2.1 z
theorem mg_at {r : Nat ⊕ (gg_S × Nat)} (h : mg_out I K mo f L r) (hL : L ≤ 400) : ∃ a, K mo 11 = nI a ∧ a ≤ 700 := by
  cases r with
  | inl e => exact h.2.2
  | inr q =>
    obtain ⟨a, h1, h2, -⟩ := h.2.2.1
    exact ⟨a, h1, by omega⟩
theorem mg_s.sk {a8 : Nat} (h : mg_s I K mo f L c s) (ha : K mo 11 = nI a8) (h8 : a8 ≤ 700) (hL : L ≤ 400) : tq_sk f L a8 = tq_b f L c ∧ mg_s I (mx_up K mo 11 (nI (tq_sk f L a8))) mo f L c s := by
  obtain ⟨a, h1, h2, h3, h4⟩ := h.2.2.1
  have e : a8 = a := (nI_eq (by omega) (by omega)).mp (ha.symm.trans h1)
  subst e
  exact ⟨h3, h.bb h3⟩
theorem mg_bad.sk (h : mg_bad I K mo f L e) {a8 : Nat} (h8 : a8 ≤ 700) (hL : L ≤ 400) : mg_bad I (mx_up K mo 11 (nI (tq_sk f L a8))) mo f L e := h.sk8 (by have := tq_sk_le (f := f) (L := L) (a := a8); omega)
theorem gg_read_0 (h : tK f L 0 = 0) : gg_read f L s = .inr s := if_pos h
theorem gg_read_1 (h : ¬ tK f L 0 = 0) : gg_read f L s = gq_rd (tK f L) (gg_LN f L) 14 s 0 := if_neg h
theorem rdg_bad {e : Nat} (hk : k < 14) (he : gg_read f L s0 = gq_rd (tK f L) (gg_LN f L) (14 - k) s tt) (h : gg_LN f L s tt = .inl e) : gg_read f L s0 = .inl e := by
  have h2 := rl_step hk he
  rw [h] at h2
  exact h2
theorem rdg_good {q : gg_S × Nat} (hk : k < 14) (he : gg_read f L s0 = gq_rd (tK f L) (gg_LN f L) (14 - k) s tt) (h : gg_LN f L s tt = .inr q) : gg_read f L s0 = if tK f L q.2 = 0 then .inr q.1 else if tK f L q.2 = 3 then gq_rd (tK f L) (gg_LN f L) (14 - (k + 1)) q.1 (q.2 + 1) else .inl q.2 := by
  have h2 := rl_step hk he
  rw [h] at h2
  exact h2
theorem mg_out.no {r : Nat ⊕ (gg_S × Nat)} (h : mg_out I K mo f L r) (hf : ¬ K mo 12 = -1) : ∃ e, r = .inl e ∧ mg_bad I K mo f L e := by
  cases r with
  | inl e => exact ⟨e, rfl, h⟩
  | inr q => exact absurd h.2.1 hf
theorem mg_out.ok {r : Nat ⊕ (gg_S × Nat)} (h : mg_out I K mo f L r) (hf : K mo 12 = -1) (hL : L ≤ 400) : ∃ q, r = .inr q ∧ mg_s I K mo f L q.2 q.1 := by
  cases r with
  | inl e => exact absurd hf (by rw [h.2.1]; exact nI_m1b (by have := tq_bL f L e; omega))
  | inr q => exact ⟨q, rfl, h⟩
theorem mg_out.off {r : Nat ⊕ (gg_S × Nat)} (h : mg_out I K mo f L r) : mg_off I K mo := by
  cases r with
  | inl e => exact h.1
  | inr q => exact h.1
theorem c_Mo_readG (hM : mo_ok S P mo) (hx : mt_tx I mo f L) (hb9 : I mo 9 = -1) (hs0 : mg_s I I mo f L 0 s0)  : mx_C l E M_Mo_read 9 0 0 [.ref (mo), .int (nI (0))] (t, S, I, P, J) (mx_vR t S P J (fun v K => rg_out I K mo f L (gg_read f L s0))) := by
  obtain ⟨hM0, hMp1, hMp2, hMp4, hMp5, hMp7, hMp14, hMp21, hMp22, hMp23, hMp24, hMp25, hMp26, hMp27, hMs1, hMs2, hMs3, hMs4, hMs5, hMs6, hMs7, hMs8, hMs9, hMs10, hMs11, hMs12, hMs13⟩ := id hM
  have hL := hx.2.1
  have hb0 := tq_bL f L 0
  refine mx_C_of (ls0 := [some (.ref (mo)), some (.int (nI (0))), none, none]) (by decide +kernel) rfl rfl (Nat.le_of_ble_eq_true rfl) rfl ?_
  refine mx_al0 d_Mo_read_0 ?_
  refine mx_cV0vR d_Mo_read_1 (c_Mo_skipS hM hx hs0.mc) ok_Mo_skip ml_Mo_97 (by assumption) ⟨rfl, rfl⟩ (by omega) (Nat.le_of_ble_eq_true rfl) (fun K1 hK1 => ?_)
  have hs9 := hs0.mct hK1.1
  have ha9 := hK1.2
  refine mx_al0 d_Mo_read_4 ?_
  refine mx_getI d_Mo_read_5 fl_Mo_87 (by assumption) ?_
  refine mx_ti (y := nI (tq_b f L 0)) (ha9) ?_
  refine mx_al0 d_Mo_read_8 ?_
  refine mx_getI d_Mo_read_9 fl_Mo_90 (by assumption) ?_
  refine mx_ti (y := nI (L)) ((hs9.1.tx hx hb9).1) ?_
  refine mx_icN_ge 19 d_Mo_read_12 (by decide) (by omega) (by omega) (fun c_12 => ?_) (fun c_12 => ?_)
  · skip
    have hk0 : tK f L 0 = 0 := tK_end (by have := tq_bL f L 0; omega)
    refine mx_in_0 d_Mo_read_19 ?_
    refine mx_is2 d_Mo_read_20 ?_
    refine mx_in_0 d_Mo_read_21 ?_
    refine mx_is3 d_Mo_read_22 ?_
    refine mx_lsc (congrArg (fun z9 => ([some (.ref (mo)), some (.int (nI (0))), some (.int (z9)), some (.int (nI (0)))] : List (Option Value))) ((show nI 0 = bI false from rfl))) ?_
    refine mx_loopX (α := (mx_I × Bool × Nat)) (N := 16) (a0 := (K1, false, 0)) (fun k9 z9 => rg_inv I z9.1 mo f L s0 k9 z9.2.1 z9.2.2) (ls := fun k9 z9 => [some (.ref (mo)), some (.int (nI (0))), some (.int (bI (z9.2.1))), some (.int (nI (z9.2.2)))]) (X := fun k9 z9 => (t, S, z9.1, P, J)) (⟨rfl, Or.inl ⟨rfl, by rw [gg_read_0 hk0]; exact ⟨hs9.1, hs9.2.1, hs9.row, hs9.gin⟩⟩⟩) (fun k9 hk9 z9 hinv ih => ?_) (fun z9 hinv => ?_)
    · skip
      obtain ⟨K, go, n⟩ := z9
      try dsimp only at hinv ih ⊢
      refine mx_il2 d_Mo_read_23 ?_
      refine mx_ifB_eq 144 d_Mo_read_24 (by decide) (fun c_24 => ?_) (fun c_24 => ?_)
      · skip
        refine mx_il3 d_Mo_read_144 ?_
        exact mx_iret d_Mo_read_145 rfl (mx_vR_i (hinv.no (Or.inl c_24)))
      · skip
        have hgo : go = true := c_24
        refine mx_al0 d_Mo_read_27 ?_
        refine mx_getI d_Mo_read_28 fl_Mo_25 (by assumption) ?_
        refine mx_ic_m1 d_Mo_read_31 ?_
        refine mx_icmp_ne 144 d_Mo_read_32 (by decide) (fun c_32 => ?_) (fun c_32 => ?_)
        · skip
          refine mx_il3 d_Mo_read_144 ?_
          exact mx_iret d_Mo_read_145 rfl (mx_vR_i (hinv.no (Or.inr c_32)))
        · skip
          obtain ⟨tt, s, hs, hk12, he⟩ := hinv.ok hgo c_32 hL
          have hnk := hinv.1
          refine mx_al0 d_Mo_read_35 ?_
          refine mx_cV0vR d_Mo_read_36 (c_Mo_skipS hM (hs.1.tx hx hb9) hs.mc) ok_Mo_skip ml_Mo_97 (by assumption) ⟨rfl, rfl⟩ (by omega) (Nat.le_of_ble_eq_true rfl) (fun K5 hK5 => ?_)
          have ha5 := hK5.2
          have hs := hs.mct hK5.1
          refine mx_il3 d_Mo_read_39 ?_
          refine mx_il1 d_Mo_read_40 ?_
          refine mx_if_eq 49 d_Mo_read_41 (by decide) (fun c_41 => ?_) (fun c_41 => absurd (by decide) c_41)
          refine mx_bip 14 d_Mo_read_49 (by decide) ?_
          refine mx_icN_ne 65 d_Mo_read_51 (by decide) (by omega) (by omega) (fun c_51 => ?_) (fun c_51 => ?_)
          · skip
            refine mx_il1 d_Mo_read_65 ?_
            refine mx_if_eq 76 d_Mo_read_66 (by decide) (fun c_66 => ?_) (fun c_66 => absurd (by decide) c_66)
            refine mx_al0 d_Mo_read_76 ?_
            refine mx_cV0vR d_Mo_read_77 (c_Mo_groundLine hM (hs.1.tx hx hb9) ((hs.1.2.1 9 (by omega) (by omega) (by omega)).trans hb9) hs.self) ok_Mo_groundLine ml_Mo_185 (by assumption) ⟨rfl, rfl⟩ (by omega) (Nat.le_of_ble_eq_true rfl) (fun K2 hK2 => ?_)
            obtain ⟨a8, ha8, hu8⟩ := mg_at hK2 hL
            have hx2 := (hs.1.tr hK2.off).tx hx hb9
            refine mx_iN3 d_Mo_read_80 ?_
            refine mx_al0 d_Mo_read_83 ?_
            refine mx_cV0v d_Mo_read_84 (c_Mo_skip hM hx2 ha8 (by omega)) ok_Mo_skip ml_Mo_97 (by assumption) ⟨rfl, rfl⟩ (by omega) (Nat.le_of_ble_eq_true rfl) ?_
            refine mx_al0 d_Mo_read_87 ?_
            refine mx_getI d_Mo_read_88 fl_Mo_25 (by assumption) ?_
            refine mx_ti (y := (K2 mo 12)) ((by simp [mx_up])) ?_
            refine mx_ic_m1 d_Mo_read_91 ?_
            refine mx_icmp_ne 106 d_Mo_read_92 (by decide) (fun c_92 => ?_) (fun c_92 => ?_)
            · skip
              obtain ⟨e, hle, hb⟩ := hK2.no c_92
              have hlaw := rdg_bad (by omega) he hle
              refine mx_in_0 d_Mo_read_106 ?_
              refine mx_is2 d_Mo_read_107 ?_
              refine mx_lsc (congrArg (fun z9 => ([some (.ref (mo)), some (.int (nI (0))), some (.int (z9)), some (.int (nI (n + 1)))] : List (Option Value))) ((show nI 0 = bI false from rfl))) ?_
              refine mx_goto 23 d_Mo_read_108 (by decide) ?_
              exact ih ((mx_up K2 mo 11 (nI (tq_sk f L a8))), false, n + 1) (⟨by show n + 1 = k9 + 1; omega, Or.inl ⟨rfl, by rw [hlaw]; exact (hs.trb hb).sk hu8 hL⟩⟩)
            · skip
              obtain ⟨q, hq0, hq2⟩ := hK2.ok c_92 hL
              have hgd := rdg_good (by omega) he hq0
              obtain ⟨hsk, hs2⟩ := hq2.sk ha8 hu8 hL
              have hbq := tq_bL f L q.2
              refine mx_al0 d_Mo_read_95 ?_
              refine mx_getI d_Mo_read_96 fl_Mo_87 (by assumption) ?_
              refine mx_ti (y := nI (tq_sk f L a8)) ((by simp [mx_up])) ?_
              refine mx_al0 d_Mo_read_99 ?_
              refine mx_getI d_Mo_read_100 fl_Mo_90 (by assumption) ?_
              refine mx_ti (y := nI (L)) ((by simp [mx_up]; exact hx2.1)) ?_
              refine mx_icN_ne 111 d_Mo_read_103 (by decide) (by omega) (by omega) (fun c_103 => ?_) (fun c_103 => ?_)
              · skip
                have hk0q : ¬ tK f L q.2 = 0 := tK_noend (by omega)
                have hg3 := hgd.trans (if_neg hk0q)
                refine mx_al0 d_Mo_read_111 ?_
                refine mx_bip 59 d_Mo_read_112 (by decide) ?_
                refine mx_cV1iR d_Mo_read_114 (c_Mo_sign_59 hM ((hs.tr hs2).1.tx hx hb9) hs2.mc) ok_Mo_isSign ml_Mo_188 (by assumption) ⟨rfl, rfl⟩ (by omega) (Nat.le_of_ble_eq_true rfl) (fun K3 hK3 => ?_)
                have ha3 := hK3.2
                have hs3 := hK3.1
                refine mx_ifB_eq 133 d_Mo_read_117 (by decide) (fun c_117 => ?_) (fun c_117 => ?_)
                · skip
                  have hk3 : ¬ tK f L q.2 = 3 := of_decide_eq_false c_117
                  have hlaw := hg3.trans (if_neg hk3)
                  refine mx_al0 d_Mo_read_133 ?_
                  refine mx_al0 d_Mo_read_134 ?_
                  refine mx_getI d_Mo_read_135 fl_Mo_87 (by assumption) ?_
                  refine mx_ti (y := nI (tq_b f L q.2)) (ha3) ?_
                  refine mx_cV1vR d_Mo_read_138 (c_Mo_wrongS hM (mc_s.tr hs2.mc hs3) ha3 (u := 500) (by omega) hL) ok_Mo_wrong ml_Mo_113 (by assumption) ⟨rfl, rfl⟩ (by omega) (Nat.le_of_ble_eq_true rfl) (fun K4 hK4 => ?_)
                  refine mx_goto 23 d_Mo_read_141 (by decide) ?_
                  exact ih (K4, go, n + 1) (⟨by show n + 1 = k9 + 1; omega, Or.inr ⟨hgo, Or.inl ⟨q.2, hlaw, hs.trb (hs2.mcb hK4 (by omega))⟩⟩⟩)
                · skip
                  have hk3 : tK f L q.2 = 3 := of_decide_eq_true c_117
                  have hlaw := hg3.trans (if_pos hk3)
                  refine mx_al0 d_Mo_read_120 ?_
                  refine mx_dup d_Mo_read_121 rfl ?_
                  refine mx_getI d_Mo_read_122 fl_Mo_87 (by assumption) ?_
                  refine mx_ti (y := nI (tq_b f L q.2)) (ha3) ?_
                  refine mx_in_1 d_Mo_read_125 ?_
                  refine mx_iaddN d_Mo_read_126 ?_
                  refine mx_putI d_Mo_read_127 fl_Mo_87 (by assumption) ?_
                  have hs3 := (hs2.mc.tr hs3).sg hk3 (by omega) (by omega) (by omega)
                  refine mx_goto 23 d_Mo_read_130 (by decide) ?_
                  exact ih ((mx_up K3 (mo) 11 (nI (tq_b f L q.2 + 1))), go, n + 1) (⟨by show n + 1 = k9 + 1; omega, Or.inr ⟨hgo, Or.inr ⟨q.2 + 1, q.1, hs.tr (hs2.mct hs3), by omega, hlaw⟩⟩⟩)
              · skip
                have hk0q : tK f L q.2 = 0 := tK_end (by omega)
                have hlaw := hgd.trans (if_pos hk0q)
                refine mx_in_0 d_Mo_read_106 ?_
                refine mx_is2 d_Mo_read_107 ?_
                refine mx_lsc (congrArg (fun z9 => ([some (.ref (mo)), some (.int (nI (0))), some (.int (z9)), some (.int (nI (n + 1)))] : List (Option Value))) ((show nI 0 = bI false from rfl))) ?_
                refine mx_goto 23 d_Mo_read_108 (by decide) ?_
                exact ih ((mx_up K2 mo 11 (nI (tq_sk f L a8))), false, n + 1) (⟨by show n + 1 = k9 + 1; omega, Or.inl ⟨rfl, by rw [hlaw]; exact ⟨(hs.tr hs2).1, hs2.2.1, hs2.row, hs2.gin⟩⟩⟩)
          · skip
            refine mx_al0 d_Mo_read_54 ?_
            refine mx_al0 d_Mo_read_55 ?_
            refine mx_getI d_Mo_read_56 fl_Mo_87 (by assumption) ?_
            refine mx_ti (y := nI (tq_b f L tt)) (ha5) ?_
            refine mx_cV1vR d_Mo_read_59 (c_Mo_wrongS hM hs.mc ha5 (u := 500) (by omega) hL) ok_Mo_wrong ml_Mo_113 (by assumption) ⟨rfl, rfl⟩ (by omega) (Nat.le_of_ble_eq_true rfl) (fun K2 hK2 => ?_)
            have hbad := hs.mcb hK2 (by omega)
            obtain ⟨a8, ha8, hu8⟩ := hbad.2.2
            have hx2 := hbad.1.tx hx hb9
            have hlaw : gg_read f L s0 = .inl tt := by rw [he, show 14 - k9 = 0 by omega]; rfl
            refine mx_goto 80 d_Mo_read_62 (by decide) ?_
            refine mx_iN3 d_Mo_read_80 ?_
            refine mx_al0 d_Mo_read_83 ?_
            refine mx_cV0v d_Mo_read_84 (c_Mo_skip hM hx2 ha8 (by omega)) ok_Mo_skip ml_Mo_97 (by assumption) ⟨rfl, rfl⟩ (by omega) (Nat.le_of_ble_eq_true rfl) ?_
            refine mx_al0 d_Mo_read_87 ?_
            refine mx_getI d_Mo_read_88 fl_Mo_25 (by assumption) ?_
            refine mx_ti (y := (K2 mo 12)) ((by simp [mx_up])) ?_
            refine mx_ic_m1 d_Mo_read_91 ?_
            refine mx_icmp_ne 106 d_Mo_read_92 (by decide) (fun c_92 => ?_) (fun c_92 => ?_)
            · skip
              refine mx_in_0 d_Mo_read_106 ?_
              refine mx_is2 d_Mo_read_107 ?_
              refine mx_lsc (congrArg (fun z9 => ([some (.ref (mo)), some (.int (nI (0))), some (.int (z9)), some (.int (nI (n + 1)))] : List (Option Value))) ((show nI 0 = bI false from rfl))) ?_
              refine mx_goto 23 d_Mo_read_108 (by decide) ?_
              exact ih ((mx_up K2 mo 11 (nI (tq_sk f L a8))), false, n + 1) (⟨by show n + 1 = k9 + 1; omega, Or.inl ⟨rfl, by rw [hlaw]; exact hbad.sk hu8 hL⟩⟩)
            · skip
              exact absurd c_92 (by rw [hbad.2.1]; exact nI_m1b (by have := tq_bL f L tt; omega))
    · skip
      obtain ⟨K, go, n⟩ := z9
      try dsimp only at hinv ⊢
      have hbig : go = true → ¬ K mo 12 = -1 := fun hg hf => by obtain ⟨tt, s, -, h9, -⟩ := hinv.ok hg hf hL; omega
      refine mx_il2 d_Mo_read_23 ?_
      refine mx_ifB_eq 144 d_Mo_read_24 (by decide) (fun c_24 => ?_) (fun c_24 => ?_)
      · skip
        refine mx_il3 d_Mo_read_144 ?_
        exact mx_iret d_Mo_read_145 rfl (mx_vR_i (hinv.no (Or.inl c_24)))
      · skip
        have hgo : go = true := c_24
        refine mx_al0 d_Mo_read_27 ?_
        refine mx_getI d_Mo_read_28 fl_Mo_25 (by assumption) ?_
        refine mx_ic_m1 d_Mo_read_31 ?_
        refine mx_icmp_ne 144 d_Mo_read_32 (by decide) (fun c_32 => ?_) (fun c_32 => absurd c_32 (hbig c_24))
        refine mx_il3 d_Mo_read_144 ?_
        exact mx_iret d_Mo_read_145 rfl (mx_vR_i (hinv.no (Or.inr c_32)))
  · skip
    have hk0 : ¬ tK f L 0 = 0 := tK_noend (by omega)
    refine mx_in_1 d_Mo_read_15 ?_
    refine mx_goto 20 d_Mo_read_16 (by decide) ?_
    refine mx_is2 d_Mo_read_20 ?_
    refine mx_in_0 d_Mo_read_21 ?_
    refine mx_is3 d_Mo_read_22 ?_
    refine mx_lsc (congrArg (fun z9 => ([some (.ref (mo)), some (.int (nI (0))), some (.int (z9)), some (.int (nI (0)))] : List (Option Value))) ((show nI 1 = bI true from rfl))) ?_
    refine mx_loopX (α := (mx_I × Bool × Nat)) (N := 16) (a0 := (K1, true, 0)) (fun k9 z9 => rg_inv I z9.1 mo f L s0 k9 z9.2.1 z9.2.2) (ls := fun k9 z9 => [some (.ref (mo)), some (.int (nI (0))), some (.int (bI (z9.2.1))), some (.int (nI (z9.2.2)))]) (X := fun k9 z9 => (t, S, z9.1, P, J)) (⟨rfl, Or.inr ⟨rfl, Or.inr ⟨0, s0, hs9, by omega, gg_read_1 hk0⟩⟩⟩) (fun k9 hk9 z9 hinv ih => ?_) (fun z9 hinv => ?_)
    · skip
      obtain ⟨K, go, n⟩ := z9
      try dsimp only at hinv ih ⊢
      refine mx_il2 d_Mo_read_23 ?_
      refine mx_ifB_eq 144 d_Mo_read_24 (by decide) (fun c_24 => ?_) (fun c_24 => ?_)
      · skip
        refine mx_il3 d_Mo_read_144 ?_
        exact mx_iret d_Mo_read_145 rfl (mx_vR_i (hinv.no (Or.inl c_24)))
      · skip
        have hgo : go = true := c_24
        refine mx_al0 d_Mo_read_27 ?_
        refine mx_getI d_Mo_read_28 fl_Mo_25 (by assumption) ?_
        refine mx_ic_m1 d_Mo_read_31 ?_
        refine mx_icmp_ne 144 d_Mo_read_32 (by decide) (fun c_32 => ?_) (fun c_32 => ?_)
        · skip
          refine mx_il3 d_Mo_read_144 ?_
          exact mx_iret d_Mo_read_145 rfl (mx_vR_i (hinv.no (Or.inr c_32)))
        · skip
          obtain ⟨tt, s, hs, hk12, he⟩ := hinv.ok hgo c_32 hL
          have hnk := hinv.1
          refine mx_al0 d_Mo_read_35 ?_
          refine mx_cV0vR d_Mo_read_36 (c_Mo_skipS hM (hs.1.tx hx hb9) hs.mc) ok_Mo_skip ml_Mo_97 (by assumption) ⟨rfl, rfl⟩ (by omega) (Nat.le_of_ble_eq_true rfl) (fun K5 hK5 => ?_)
          have ha5 := hK5.2
          have hs := hs.mct hK5.1
          refine mx_il3 d_Mo_read_39 ?_
          refine mx_il1 d_Mo_read_40 ?_
          refine mx_if_eq 49 d_Mo_read_41 (by decide) (fun c_41 => ?_) (fun c_41 => absurd (by decide) c_41)
          refine mx_bip 14 d_Mo_read_49 (by decide) ?_
          refine mx_icN_ne 65 d_Mo_read_51 (by decide) (by omega) (by omega) (fun c_51 => ?_) (fun c_51 => ?_)
          · skip
            refine mx_il1 d_Mo_read_65 ?_
            refine mx_if_eq 76 d_Mo_read_66 (by decide) (fun c_66 => ?_) (fun c_66 => absurd (by decide) c_66)
            refine mx_al0 d_Mo_read_76 ?_
            refine mx_cV0vR d_Mo_read_77 (c_Mo_groundLine hM (hs.1.tx hx hb9) ((hs.1.2.1 9 (by omega) (by omega) (by omega)).trans hb9) hs.self) ok_Mo_groundLine ml_Mo_185 (by assumption) ⟨rfl, rfl⟩ (by omega) (Nat.le_of_ble_eq_true rfl) (fun K2 hK2 => ?_)
            obtain ⟨a8, ha8, hu8⟩ := mg_at hK2 hL
            have hx2 := (hs.1.tr hK2.off).tx hx hb9
            refine mx_iN3 d_Mo_read_80 ?_
            refine mx_al0 d_Mo_read_83 ?_
            refine mx_cV0v d_Mo_read_84 (c_Mo_skip hM hx2 ha8 (by omega)) ok_Mo_skip ml_Mo_97 (by assumption) ⟨rfl, rfl⟩ (by omega) (Nat.le_of_ble_eq_true rfl) ?_
            refine mx_al0 d_Mo_read_87 ?_
            refine mx_getI d_Mo_read_88 fl_Mo_25 (by assumption) ?_
            refine mx_ti (y := (K2 mo 12)) ((by simp [mx_up])) ?_
            refine mx_ic_m1 d_Mo_read_91 ?_
            refine mx_icmp_ne 106 d_Mo_read_92 (by decide) (fun c_92 => ?_) (fun c_92 => ?_)
            · skip
              obtain ⟨e, hle, hb⟩ := hK2.no c_92
              have hlaw := rdg_bad (by omega) he hle
              refine mx_in_0 d_Mo_read_106 ?_
              refine mx_is2 d_Mo_read_107 ?_
              refine mx_lsc (congrArg (fun z9 => ([some (.ref (mo)), some (.int (nI (0))), some (.int (z9)), some (.int (nI (n + 1)))] : List (Option Value))) ((show nI 0 = bI false from rfl))) ?_
              refine mx_goto 23 d_Mo_read_108 (by decide) ?_
              exact ih ((mx_up K2 mo 11 (nI (tq_sk f L a8))), false, n + 1) (⟨by show n + 1 = k9 + 1; omega, Or.inl ⟨rfl, by rw [hlaw]; exact (hs.trb hb).sk hu8 hL⟩⟩)
            · skip
              obtain ⟨q, hq0, hq2⟩ := hK2.ok c_92 hL
              have hgd := rdg_good (by omega) he hq0
              obtain ⟨hsk, hs2⟩ := hq2.sk ha8 hu8 hL
              have hbq := tq_bL f L q.2
              refine mx_al0 d_Mo_read_95 ?_
              refine mx_getI d_Mo_read_96 fl_Mo_87 (by assumption) ?_
              refine mx_ti (y := nI (tq_sk f L a8)) ((by simp [mx_up])) ?_
              refine mx_al0 d_Mo_read_99 ?_
              refine mx_getI d_Mo_read_100 fl_Mo_90 (by assumption) ?_
              refine mx_ti (y := nI (L)) ((by simp [mx_up]; exact hx2.1)) ?_
              refine mx_icN_ne 111 d_Mo_read_103 (by decide) (by omega) (by omega) (fun c_103 => ?_) (fun c_103 => ?_)
              · skip
                have hk0q : ¬ tK f L q.2 = 0 := tK_noend (by omega)
                have hg3 := hgd.trans (if_neg hk0q)
                refine mx_al0 d_Mo_read_111 ?_
                refine mx_bip 59 d_Mo_read_112 (by decide) ?_
                refine mx_cV1iR d_Mo_read_114 (c_Mo_sign_59 hM ((hs.tr hs2).1.tx hx hb9) hs2.mc) ok_Mo_isSign ml_Mo_188 (by assumption) ⟨rfl, rfl⟩ (by omega) (Nat.le_of_ble_eq_true rfl) (fun K3 hK3 => ?_)
                have ha3 := hK3.2
                have hs3 := hK3.1
                refine mx_ifB_eq 133 d_Mo_read_117 (by decide) (fun c_117 => ?_) (fun c_117 => ?_)
                · skip
                  have hk3 : ¬ tK f L q.2 = 3 := of_decide_eq_false c_117
                  have hlaw := hg3.trans (if_neg hk3)
                  refine mx_al0 d_Mo_read_133 ?_
                  refine mx_al0 d_Mo_read_134 ?_
                  refine mx_getI d_Mo_read_135 fl_Mo_87 (by assumption) ?_
                  refine mx_ti (y := nI (tq_b f L q.2)) (ha3) ?_
                  refine mx_cV1vR d_Mo_read_138 (c_Mo_wrongS hM (mc_s.tr hs2.mc hs3) ha3 (u := 500) (by omega) hL) ok_Mo_wrong ml_Mo_113 (by assumption) ⟨rfl, rfl⟩ (by omega) (Nat.le_of_ble_eq_true rfl) (fun K4 hK4 => ?_)
                  refine mx_goto 23 d_Mo_read_141 (by decide) ?_
                  exact ih (K4, go, n + 1) (⟨by show n + 1 = k9 + 1; omega, Or.inr ⟨hgo, Or.inl ⟨q.2, hlaw, hs.trb (hs2.mcb hK4 (by omega))⟩⟩⟩)
                · skip
                  have hk3 : tK f L q.2 = 3 := of_decide_eq_true c_117
                  have hlaw := hg3.trans (if_pos hk3)
                  refine mx_al0 d_Mo_read_120 ?_
                  refine mx_dup d_Mo_read_121 rfl ?_
                  refine mx_getI d_Mo_read_122 fl_Mo_87 (by assumption) ?_
                  refine mx_ti (y := nI (tq_b f L q.2)) (ha3) ?_
                  refine mx_in_1 d_Mo_read_125 ?_
                  refine mx_iaddN d_Mo_read_126 ?_
                  refine mx_putI d_Mo_read_127 fl_Mo_87 (by assumption) ?_
                  have hs3 := (hs2.mc.tr hs3).sg hk3 (by omega) (by omega) (by omega)
                  refine mx_goto 23 d_Mo_read_130 (by decide) ?_
                  exact ih ((mx_up K3 (mo) 11 (nI (tq_b f L q.2 + 1))), go, n + 1) (⟨by show n + 1 = k9 + 1; omega, Or.inr ⟨hgo, Or.inr ⟨q.2 + 1, q.1, hs.tr (hs2.mct hs3), by omega, hlaw⟩⟩⟩)
              · skip
                have hk0q : tK f L q.2 = 0 := tK_end (by omega)
                have hlaw := hgd.trans (if_pos hk0q)
                refine mx_in_0 d_Mo_read_106 ?_
                refine mx_is2 d_Mo_read_107 ?_
                refine mx_lsc (congrArg (fun z9 => ([some (.ref (mo)), some (.int (nI (0))), some (.int (z9)), some (.int (nI (n + 1)))] : List (Option Value))) ((show nI 0 = bI false from rfl))) ?_
                refine mx_goto 23 d_Mo_read_108 (by decide) ?_
                exact ih ((mx_up K2 mo 11 (nI (tq_sk f L a8))), false, n + 1) (⟨by show n + 1 = k9 + 1; omega, Or.inl ⟨rfl, by rw [hlaw]; exact ⟨(hs.tr hs2).1, hs2.2.1, hs2.row, hs2.gin⟩⟩⟩)
          · skip
            refine mx_al0 d_Mo_read_54 ?_
            refine mx_al0 d_Mo_read_55 ?_
            refine mx_getI d_Mo_read_56 fl_Mo_87 (by assumption) ?_
            refine mx_ti (y := nI (tq_b f L tt)) (ha5) ?_
            refine mx_cV1vR d_Mo_read_59 (c_Mo_wrongS hM hs.mc ha5 (u := 500) (by omega) hL) ok_Mo_wrong ml_Mo_113 (by assumption) ⟨rfl, rfl⟩ (by omega) (Nat.le_of_ble_eq_true rfl) (fun K2 hK2 => ?_)
            have hbad := hs.mcb hK2 (by omega)
            obtain ⟨a8, ha8, hu8⟩ := hbad.2.2
            have hx2 := hbad.1.tx hx hb9
            have hlaw : gg_read f L s0 = .inl tt := by rw [he, show 14 - k9 = 0 by omega]; rfl
            refine mx_goto 80 d_Mo_read_62 (by decide) ?_
            refine mx_iN3 d_Mo_read_80 ?_
            refine mx_al0 d_Mo_read_83 ?_
            refine mx_cV0v d_Mo_read_84 (c_Mo_skip hM hx2 ha8 (by omega)) ok_Mo_skip ml_Mo_97 (by assumption) ⟨rfl, rfl⟩ (by omega) (Nat.le_of_ble_eq_true rfl) ?_
            refine mx_al0 d_Mo_read_87 ?_
            refine mx_getI d_Mo_read_88 fl_Mo_25 (by assumption) ?_
            refine mx_ti (y := (K2 mo 12)) ((by simp [mx_up])) ?_
            refine mx_ic_m1 d_Mo_read_91 ?_
            refine mx_icmp_ne 106 d_Mo_read_92 (by decide) (fun c_92 => ?_) (fun c_92 => ?_)
            · skip
              refine mx_in_0 d_Mo_read_106 ?_
              refine mx_is2 d_Mo_read_107 ?_
              refine mx_lsc (congrArg (fun z9 => ([some (.ref (mo)), some (.int (nI (0))), some (.int (z9)), some (.int (nI (n + 1)))] : List (Option Value))) ((show nI 0 = bI false from rfl))) ?_
              refine mx_goto 23 d_Mo_read_108 (by decide) ?_
              exact ih ((mx_up K2 mo 11 (nI (tq_sk f L a8))), false, n + 1) (⟨by show n + 1 = k9 + 1; omega, Or.inl ⟨rfl, by rw [hlaw]; exact hbad.sk hu8 hL⟩⟩)
            · skip
              exact absurd c_92 (by rw [hbad.2.1]; exact nI_m1b (by have := tq_bL f L tt; omega))
    · skip
      obtain ⟨K, go, n⟩ := z9
      try dsimp only at hinv ⊢
      have hbig : go = true → ¬ K mo 12 = -1 := fun hg hf => by obtain ⟨tt, s, -, h9, -⟩ := hinv.ok hg hf hL; omega
      refine mx_il2 d_Mo_read_23 ?_
      refine mx_ifB_eq 144 d_Mo_read_24 (by decide) (fun c_24 => ?_) (fun c_24 => ?_)
      · skip
        refine mx_il3 d_Mo_read_144 ?_
        exact mx_iret d_Mo_read_145 rfl (mx_vR_i (hinv.no (Or.inl c_24)))
      · skip
        have hgo : go = true := c_24
        refine mx_al0 d_Mo_read_27 ?_
        refine mx_getI d_Mo_read_28 fl_Mo_25 (by assumption) ?_
        refine mx_ic_m1 d_Mo_read_31 ?_
        refine mx_icmp_ne 144 d_Mo_read_32 (by decide) (fun c_32 => ?_) (fun c_32 => absurd c_32 (hbig c_24))
        refine mx_il3 d_Mo_read_144 ?_
        exact mx_iret d_Mo_read_145 rfl (mx_vR_i (hinv.no (Or.inr c_32)))
end BF73
