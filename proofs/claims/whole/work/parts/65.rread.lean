/-! THE REFERENCE READS THE LAW -/
section AX65
variable {l : Launch} {E : mx_Env} {t : Nat} {S : mx_S} {I K K2 K3 I0 : mx_I} {P : mx_P} {J : mx_G} {mo L a e c n i dp u u2 tt k sep np : Nat} {f : Nat → Nat} {w : List Nat} {b : Bool} {v v2 : Int32} {fc : Nat → Int32} {s : List gq_L}
def lf_g (fc : Nat → Int32) (s : List gq_L) (g : Int32) : Int32 := s.foldl (fun g x => li_g fc x g) g
def lf_h (s : List gq_L) (g : Int32) : Int32 := s.foldl (fun g x => bI (decide (¬ g = 0) || decide (x.1 = 31))) g
def lf_a (fc : Nat → Int32) (s : List gq_L) (g : Int32) : Int32 := s.foldl (fun g x => li_a fc x g) g
/-- what the lines s have come to -/
def lf_is (I K : mx_I) (mo : Nat) (fc : Nat → Int32) (s : List gq_L) : Prop := K mo 17 = lf_g fc s (I mo 17) ∧ K mo 18 = lf_h s (I mo 18) ∧ K mo 19 = lf_a fc s (I mo 19)
def rw_out (I K : mx_I) (mo : Nat) (f : Nat → Nat) (L : Nat) (fc : Nat → Int32) (v : Int32) (r : Nat ⊕ List gq_L) : Prop := match r with
  | .inl e => ml_bad I K mo f L e 700
  | .inr s => ml_off I K mo ∧ K mo 12 = -1 ∧ v = nI s.length ∧ lf_is I K mo fc s
def rw_inv (I K : mx_I) (mo : Nat) (f : Nat → Nat) (L : Nat) (fc : Nat → Int32) (k : Nat) (go : Bool) (n : Nat) : Prop := n = k ∧ ((go = false ∧ rw_out I K mo f L fc (nI n) (gq_law (tK f L) (tV f L))) ∨ (go = true ∧ ((∃ e, gq_law (tK f L) (tV f L) = .inl e ∧ ml_bad I K mo f L e 700) ∨ ∃ tt s, ml_s I K mo f L tt ∧ lf_is I K mo fc s ∧ s.length = k ∧ k ≤ 12 ∧ gq_law (tK f L) (tV f L) = gq_rd (tK f L) (gq_LN (tK f L) (tV f L)) (12 - k) s tt)))
theorem rw_inv.ok {go : Bool} (h : rw_inv I K mo f L fc k go n) (hg : go = true) (hf : K mo 12 = -1) (hL : L ≤ 400) : ∃ tt s, ml_s I K mo f L tt ∧ lf_is I K mo fc s ∧ s.length = k ∧ k ≤ 12 ∧ gq_law (tK f L) (tV f L) = gq_rd (tK f L) (gq_LN (tK f L) (tV f L)) (12 - k) s tt := by
  rcases h.2 with ⟨h1, -⟩ | ⟨-, ⟨e, -, h2⟩ | h2⟩
  · rw [hg] at h1; cases h1
  · exact absurd hf (by rw [h2.2.1]; exact nI_m1b (by have := tq_bL f L e; omega))
  · exact h2
theorem rw_inv.no {go : Bool} (h : rw_inv I K mo f L fc k go n) (hf : go = false ∨ ¬ K mo 12 = -1) : rw_out I K mo f L fc (nI n) (gq_law (tK f L) (tV f L)) := by
  rcases h.2 with ⟨-, h1⟩ | ⟨h1, ⟨e, h3, h2⟩ | ⟨tt, s, h2, -⟩⟩
  · exact h1
  · rw [h3]; exact h2
  · rcases hf with z | z
    · rw [h1] at z; cases z
    · exact absurd h2.2.1 z
theorem ml_at {r : Nat ⊕ (gq_L × Nat)} (h : ml_out I K mo f L fc r) (hL : L ≤ 400) : ∃ a, K mo 11 = nI a ∧ a ≤ 600 := by
  cases r with
  | inl e => exact h.2.2
  | inr q =>
    obtain ⟨a, h1, h2, -⟩ := h.1.2.2.1
    exact ⟨a, h1, by omega⟩
theorem ml_s.sk {a8 : Nat} (h : ml_s I K mo f L c) (ha : K mo 11 = nI a8) (h8 : a8 ≤ 600) (hL : L ≤ 400) : tq_sk f L a8 = tq_b f L c ∧ ml_s I (mx_up K mo 11 (nI (tq_sk f L a8))) mo f L c := by
  obtain ⟨a, h1, h2, h3, h4⟩ := h.2.2.1
  have e : a8 = a := (nI_eq (by omega) (by omega)).mp (ha.symm.trans h1)
  subst e
  refine ⟨h3, h.1.uu (by omega), by rw [← h.2.1]; simp [mx_up], ?_, by rw [← h.2.2.2]; simp [mx_up]⟩
  rw [h3]
  exact mt_cur_b h4
theorem lf_is.up {x : Int32} {k : Nat} (h : lf_is I K mo fc s) (hk : k ≠ 17 ∧ k ≠ 18 ∧ k ≠ 19) : lf_is I (mx_up K mo k x) mo fc s := by
  obtain ⟨h1, h2, h3⟩ := h
  exact ⟨by rw [← h1]; simp [mx_up, Ne.symm hk.1], by rw [← h2]; simp [mx_up, Ne.symm hk.2.1], by rw [← h3]; simp [mx_up, Ne.symm hk.2.2]⟩
theorem lf_is.mc (h : lf_is I K mo fc s) (h2 : mc_off K K2 mo) : lf_is I K2 mo fc s := by
  obtain ⟨g1, g2, g3⟩ := h2.g
  exact ⟨g1.trans h.1, g2.trans h.2.1, g3.trans h.2.2⟩
theorem lf_is.st {q : gq_L × Nat} (h : lf_is I K mo fc s) (h2 : ml_out K K2 mo f L fc (.inr q)) : lf_is I K2 mo fc (s ++ [q.1]) := by
  obtain ⟨g0, g1, g2, g3⟩ := h2
  unfold lf_is lf_g lf_h lf_a
  simp only [List.foldl_append, List.foldl_cons, List.foldl_nil]
  exact ⟨by rw [g1, h.1]; rfl, by rw [g2, h.2.1]; rfl, by rw [g3, h.2.2]; rfl⟩
theorem ml_s.tr2 {c2 : Nat} (h : ml_s I K mo f L c) (h2 : ml_s K K2 mo f L c2) : ml_s I K2 mo f L c2 := ⟨h.1.tr h2.1, h2.2⟩
theorem ml_s.trb2 (h : ml_s I K mo f L c) (h2 : ml_bad K K2 mo f L e u) : ml_bad I K2 mo f L e u := ⟨h.1.tr h2.1, h2.2⟩
theorem ml_s.mct {c2 : Nat} (h : ml_s I K mo f L c) (h2 : mc_s K K2 mo f L c2 0) : ml_s I K2 mo f L c2 := ⟨h.1.tr h2.1.ml, h2.2⟩
theorem ml_s.mcb (h : ml_s I K mo f L c) (h2 : mc_bad K K2 mo f L e u) (hu : u ≤ 700) : ml_bad I K2 mo f L e 700 := by
  obtain ⟨h1, h3, a, h4, h5⟩ := h2
  exact ⟨h.1.tr h1.ml, h3, a, h4, by omega⟩
theorem ml_bad.sk {a8 : Nat} (h : ml_bad I K mo f L e u) (h8 : a8 ≤ 600) (hL : L ≤ 400) : ml_bad I (mx_up K mo 11 (nI (tq_sk f L a8))) mo f L e 700 := ⟨h.1.uu (by omega), by rw [← h.2.1]; simp [mx_up], _, mu_e, by have := tq_sk_le (f := f) (L := L) (a := a8); omega⟩
theorem gq_law_0 (h : tK f L 0 = 0) : gq_law (tK f L) (tV f L) = .inr [] := if_pos h
theorem gq_law_1 (h : ¬ tK f L 0 = 0) : gq_law (tK f L) (tV f L) = gq_rd (tK f L) (gq_LN (tK f L) (tV f L)) 12 [] 0 := if_neg h
theorem rl_bad {e : Nat} {r : Nat ⊕ List gq_L} (hk : k < 12) (he : r = gq_rd (tK f L) (gq_LN (tK f L) (tV f L)) (12 - k) s tt) (h : gq_line (tK f L) (tV f L) tt = .inl e) : r = .inl e := by
  have h2 := rl_step hk he
  rw [gq_LN_bad h] at h2
  exact h2
theorem rl_good {q : gq_L × Nat} {r : Nat ⊕ List gq_L} (hk : k < 12) (he : r = gq_rd (tK f L) (gq_LN (tK f L) (tV f L)) (12 - k) s tt) (h : gq_line (tK f L) (tV f L) tt = .inr q) : r = if tK f L q.2 = 0 then .inr (s ++ [q.1]) else if tK f L q.2 = 3 then gq_rd (tK f L) (gq_LN (tK f L) (tV f L)) (12 - (k + 1)) (s ++ [q.1]) (q.2 + 1) else .inl q.2 := by
  have h2 := rl_step hk he
  rw [gq_LN_ok h] at h2
  exact h2
theorem ml_out.no {r : Nat ⊕ (gq_L × Nat)} (h : ml_out I K mo f L fc r) (hf : ¬ K mo 12 = -1) : ∃ e, r = .inl e ∧ ml_bad I K mo f L e 600 := by
  cases r with
  | inl e => exact ⟨e, rfl, h⟩
  | inr q => exact absurd h.1.2.1 hf
theorem ml_out.ok {r : Nat ⊕ (gq_L × Nat)} (h : ml_out I K mo f L fc r) (hf : K mo 12 = -1) (hL : L ≤ 400) : ∃ q, r = .inr q ∧ ml_out I K mo f L fc (.inr q) := by
  cases r with
  | inl e => exact absurd hf (by rw [h.2.1]; exact nI_m1b (by have := tq_bL f L e; omega))
  | inr q => exact ⟨q, rfl, h⟩
theorem tK_end (h : tq_b f L c = L) : tK f L c = 0 := (tq_k0 (Nat.le_of_eq h)).mpr h
theorem tK_noend (h : ¬ tq_b f L c = L) : ¬ tK f L c = 0 := fun z => h ((tq_k0 (tq_bL f L c)).mp z)
theorem ml_outoff {r : Nat ⊕ (gq_L × Nat)} (h : ml_out I K mo f L fc r) : ml_off I K mo := by
  cases r with
  | inl e => exact h.1
  | inr q => exact h.1.1
theorem c_Mo_readL (hM : mo_ok S P mo) (hx : mt_tx I mo f L) (hs0 : ml_s I I mo f L 0) (hmf : mf_ok I mo fc)  : mx_C l E M_Mo_read 30 0 0 [.ref (mo), .int (nI (1))] (t, S, I, P, J) (mx_vR t S P J (fun v K => rw_out I K mo f L fc v (gq_law (tK f L) (tV f L)))) := by
  obtain ⟨hM0, hMp1, hMp2, hMp4, hMp5, hMp7, hMp14, hMp21, hMp22, hMp23, hMp24, hMp25, hMp26, hMp27, hMs1, hMs2, hMs3, hMs4, hMs5, hMs6, hMs7, hMs8, hMs9, hMs10, hMs11, hMs12, hMs13⟩ := id hM
  have hL := hx.2.1
  have hb0 := tq_bL f L 0
  refine mx_C_of (ls0 := [some (.ref (mo)), some (.int (nI (1))), none, none]) (by decide +kernel) rfl rfl (Nat.le_of_ble_eq_true rfl) rfl ?_
  refine mx_al0 d_Mo_read_0 ?_
  refine mx_cV0vR d_Mo_read_1 (c_Mo_skipS hM hx hs0.mc) ok_Mo_skip ml_Mo_97 (by assumption) ⟨rfl, rfl⟩ (by omega) (Nat.le_of_ble_eq_true rfl) (fun K1 hK1 => ?_)
  have hs9 := hs0.mct hK1.1
  have ha9 := hK1.2
  have hlf9 : lf_is I K1 mo fc [] := (show lf_is I I mo fc [] from ⟨rfl, rfl, rfl⟩).mc hK1.1.1
  refine mx_al0 d_Mo_read_4 ?_
  refine mx_getI d_Mo_read_5 fl_Mo_87 (by assumption) ?_
  refine mx_ti (y := nI (tq_b f L 0)) (ha9) ?_
  refine mx_al0 d_Mo_read_8 ?_
  refine mx_getI d_Mo_read_9 fl_Mo_90 (by assumption) ?_
  refine mx_ti (y := nI (L)) ((hs9.1.tx hx).1) ?_
  refine mx_icN_ge 19 d_Mo_read_12 (by decide) (by omega) (by omega) (fun c_12 => ?_) (fun c_12 => ?_)
  · skip
    have hk0 : tK f L 0 = 0 := tK_end (by have := tq_bL f L 0; omega)
    refine mx_in_0 d_Mo_read_19 ?_
    refine mx_is2 d_Mo_read_20 ?_
    refine mx_in_0 d_Mo_read_21 ?_
    refine mx_is3 d_Mo_read_22 ?_
    refine mx_lsc (congrArg (fun z9 => ([some (.ref (mo)), some (.int (nI (1))), some (.int (z9)), some (.int (nI (0)))] : List (Option Value))) ((show nI 0 = bI false from rfl))) ?_
    refine mx_loopX (α := (mx_I × Bool × Nat)) (N := 14) (a0 := (K1, false, 0)) (fun k9 z9 => rw_inv I z9.1 mo f L fc k9 z9.2.1 z9.2.2) (ls := fun k9 z9 => [some (.ref (mo)), some (.int (nI (1))), some (.int (bI (z9.2.1))), some (.int (nI (z9.2.2)))]) (X := fun k9 z9 => (t, S, z9.1, P, J)) (⟨rfl, Or.inl ⟨rfl, by rw [gq_law_0 hk0]; exact ⟨hs9.1, hs9.2.1, rfl, hlf9⟩⟩⟩) (fun k9 hk9 z9 hinv ih => ?_) (fun z9 hinv => ?_)
    · skip
      obtain ⟨K, go, n⟩ := z9
      try dsimp only at hinv ih ⊢
      refine mx_il2 d_Mo_read_23 ?_
      refine mx_ifB_eq 144 d_Mo_read_24 (by decide) (fun c_24 => ?_) (fun c_24 => ?_)
      · skip
        refine mx_il3 d_Mo_read_144 ?_
        exact mx_iret d_Mo_read_145 rfl (mx_vR_i (hinv.no (Or.inl c_24)))
      · skip
        have hgo : go = true := c_24
        refine mx_al0 d_Mo_read_27 ?_
        refine mx_getI d_Mo_read_28 fl_Mo_25 (by assumption) ?_
        refine mx_ic_m1 d_Mo_read_31 ?_
        refine mx_icmp_ne 144 d_Mo_read_32 (by decide) (fun c_32 => ?_) (fun c_32 => ?_)
        · skip
          refine mx_il3 d_Mo_read_144 ?_
          exact mx_iret d_Mo_read_145 rfl (mx_vR_i (hinv.no (Or.inr c_32)))
        · skip
          obtain ⟨tt, s, hs, hlf, hsl, hk12, he⟩ := hinv.ok hgo c_32 hL
          have hnk := hinv.1
          refine mx_al0 d_Mo_read_35 ?_
          refine mx_cV0vR d_Mo_read_36 (c_Mo_skipS hM (hs.1.tx hx) hs.mc) ok_Mo_skip ml_Mo_97 (by assumption) ⟨rfl, rfl⟩ (by omega) (Nat.le_of_ble_eq_true rfl) (fun K5 hK5 => ?_)
          have hlf := hlf.mc hK5.1.1
          have ha5 := hK5.2
          have hs := hs.mct hK5.1
          refine mx_il3 d_Mo_read_39 ?_
          refine mx_il1 d_Mo_read_40 ?_
          refine mx_if_eq 49 d_Mo_read_41 (by decide) (fun c_41 => absurd c_41 (by decide)) (fun c_41 => ?_)
          refine mx_bip 12 d_Mo_read_44 (by decide) ?_
          refine mx_goto 51 d_Mo_read_46 (by decide) ?_
          refine mx_icN_ne 65 d_Mo_read_51 (by decide) (by omega) (by omega) (fun c_51 => ?_) (fun c_51 => ?_)
          · skip
            refine mx_il1 d_Mo_read_65 ?_
            refine mx_if_eq 76 d_Mo_read_66 (by decide) (fun c_66 => absurd c_66 (by decide)) (fun c_66 => ?_)
            refine mx_al0 d_Mo_read_69 ?_
            refine mx_cV0vR d_Mo_read_70 (c_Mo_lawLine hM (hs.1.tx hx) hs.mc (hs.1.mf hmf)) ok_Mo_lawLine ml_Mo_182 (by assumption) ⟨rfl, rfl⟩ (by omega) (Nat.le_of_ble_eq_true rfl) (fun K2 hK2 => ?_)
            obtain ⟨a8, ha8, hu8⟩ := ml_at hK2 hL
            have hx2 := (ml_outoff hK2).tx (hs.1.tx hx)
            refine mx_goto 80 d_Mo_read_73 (by decide) ?_
            refine mx_iN3 d_Mo_read_80 ?_
            refine mx_al0 d_Mo_read_83 ?_
            refine mx_cV0v d_Mo_read_84 (c_Mo_skip hM hx2 ha8 (by omega)) ok_Mo_skip ml_Mo_97 (by assumption) ⟨rfl, rfl⟩ (by omega) (Nat.le_of_ble_eq_true rfl) ?_
            refine mx_al0 d_Mo_read_87 ?_
            refine mx_getI d_Mo_read_88 fl_Mo_25 (by assumption) ?_
            refine mx_ti (y := (K2 mo 12)) ((by simp [mx_up])) ?_
            refine mx_ic_m1 d_Mo_read_91 ?_
            refine mx_icmp_ne 106 d_Mo_read_92 (by decide) (fun c_92 => ?_) (fun c_92 => ?_)
            · skip
              obtain ⟨e, hle, hb⟩ := hK2.no c_92
              have hlaw := rl_bad (by omega) he hle
              refine mx_in_0 d_Mo_read_106 ?_
              refine mx_is2 d_Mo_read_107 ?_
              refine mx_lsc (congrArg (fun z9 => ([some (.ref (mo)), some (.int (nI (1))), some (.int (z9)), some (.int (nI (n + 1)))] : List (Option Value))) ((show nI 0 = bI false from rfl))) ?_
              refine mx_goto 23 d_Mo_read_108 (by decide) ?_
              exact ih ((mx_up K2 mo 11 (nI (tq_sk f L a8))), false, n + 1) (⟨by show n + 1 = k9 + 1; omega, Or.inl ⟨rfl, by rw [hlaw]; exact (hs.trb2 hb).sk hu8 hL⟩⟩)
            · skip
              obtain ⟨q, hq0, hq2⟩ := hK2.ok c_92 hL
              have hgd := rl_good (by omega) he hq0
              obtain ⟨hsk, hs2⟩ := hq2.1.sk ha8 hu8 hL
              have hbq := tq_bL f L q.2
              refine mx_al0 d_Mo_read_95 ?_
              refine mx_getI d_Mo_read_96 fl_Mo_87 (by assumption) ?_
              refine mx_ti (y := nI (tq_sk f L a8)) ((by simp [mx_up])) ?_
              refine mx_al0 d_Mo_read_99 ?_
              refine mx_getI d_Mo_read_100 fl_Mo_90 (by assumption) ?_
              refine mx_ti (y := nI (L)) ((by simp [mx_up]; exact hx2.1)) ?_
              refine mx_icN_ne 111 d_Mo_read_103 (by decide) (by omega) (by omega) (fun c_103 => ?_) (fun c_103 => ?_)
              · skip
                have hk0q : ¬ tK f L q.2 = 0 := tK_noend (by omega)
                have hg3 := hgd.trans (if_neg hk0q)
                have hlf2 := (hlf.st hq2).up (k := 11) (x := nI (tq_sk f L a8)) (by omega)
                refine mx_al0 d_Mo_read_111 ?_
                refine mx_bip 59 d_Mo_read_112 (by decide) ?_
                refine mx_cV1iR d_Mo_read_114 (c_Mo_sign_59 hM (hs2.1.tx (hs.1.tx hx)) hs2.mc) ok_Mo_isSign ml_Mo_188 (by assumption) ⟨rfl, rfl⟩ (by omega) (Nat.le_of_ble_eq_true rfl) (fun K3 hK3 => ?_)
                have ha3 := hK3.2
                have hs3 := hK3.1
                refine mx_ifB_eq 133 d_Mo_read_117 (by decide) (fun c_117 => ?_) (fun c_117 => ?_)
                · skip
                  have hk3 : ¬ tK f L q.2 = 3 := of_decide_eq_false c_117
                  have hlaw := hg3.trans (if_neg hk3)
                  refine mx_al0 d_Mo_read_133 ?_
                  refine mx_al0 d_Mo_read_134 ?_
                  refine mx_getI d_Mo_read_135 fl_Mo_87 (by assumption) ?_
                  refine mx_ti (y := nI (tq_b f L q.2)) (ha3) ?_
                  refine mx_cV1vR d_Mo_read_138 (c_Mo_wrongS hM ((mc_s.tr hs2.mc hs3)) ha3 (u := 500) (by omega) hL) ok_Mo_wrong ml_Mo_113 (by assumption) ⟨rfl, rfl⟩ (by omega) (Nat.le_of_ble_eq_true rfl) (fun K4 hK4 => ?_)
                  refine mx_goto 23 d_Mo_read_141 (by decide) ?_
                  exact ih (K4, go, n + 1) (⟨by show n + 1 = k9 + 1; omega, Or.inr ⟨hgo, Or.inl ⟨q.2, hlaw, hs.trb2 (hs2.mcb hK4 (by omega))⟩⟩⟩)
                · skip
                  have hk3 : tK f L q.2 = 3 := of_decide_eq_true c_117
                  have hlaw := hg3.trans (if_pos hk3)
                  refine mx_al0 d_Mo_read_120 ?_
                  refine mx_dup d_Mo_read_121 rfl ?_
                  refine mx_getI d_Mo_read_122 fl_Mo_87 (by assumption) ?_
                  refine mx_ti (y := nI (tq_b f L q.2)) (ha3) ?_
                  refine mx_in_1 d_Mo_read_125 ?_
                  refine mx_iaddN d_Mo_read_126 ?_
                  refine mx_putI d_Mo_read_127 fl_Mo_87 (by assumption) ?_
                  have hs3 := ((mc_s.tr hs2.mc hs3)).sg hk3 (by omega) (by omega) (by omega)
                  have hlf3 := (lf_is.mc hlf2 (mc_off.tr (K := K3) hK3.1.1 (mc_off.uu mc_off.rf (k := 11) (x := nI (tq_b f L q.2 + 1)) (by omega))))
                  refine mx_goto 23 d_Mo_read_130 (by decide) ?_
                  exact ih ((mx_up K3 (mo) 11 (nI (tq_b f L q.2 + 1))), go, n + 1) (⟨by show n + 1 = k9 + 1; omega, Or.inr ⟨hgo, Or.inr ⟨q.2 + 1, s ++ [q.1], hs.tr2 (hs2.mct hs3), hlf3, by simp; omega, by omega, hlaw⟩⟩⟩)
              · skip
                have hk0q : tK f L q.2 = 0 := tK_end (by omega)
                have hlaw := hgd.trans (if_pos hk0q)
                have hlf2 := (hlf.st hq2).up (k := 11) (x := nI (tq_sk f L a8)) (by omega)
                refine mx_in_0 d_Mo_read_106 ?_
                refine mx_is2 d_Mo_read_107 ?_
                refine mx_lsc (congrArg (fun z9 => ([some (.ref (mo)), some (.int (nI (1))), some (.int (z9)), some (.int (nI (n + 1)))] : List (Option Value))) ((show nI 0 = bI false from rfl))) ?_
                refine mx_goto 23 d_Mo_read_108 (by decide) ?_
                exact ih ((mx_up K2 mo 11 (nI (tq_sk f L a8))), false, n + 1) (⟨by show n + 1 = k9 + 1; omega, Or.inl ⟨rfl, by rw [hlaw]; exact ⟨(hs.tr2 hs2).1, hs2.2.1, congrArg nI (by show n + 1 = (s ++ [q.1]).length; simp; omega), hlf2⟩⟩⟩)
          · skip
            refine mx_al0 d_Mo_read_54 ?_
            refine mx_al0 d_Mo_read_55 ?_
            refine mx_getI d_Mo_read_56 fl_Mo_87 (by assumption) ?_
            refine mx_ti (y := nI (tq_b f L tt)) (ha5) ?_
            refine mx_cV1vR d_Mo_read_59 (c_Mo_wrongS hM hs.mc ha5 (u := 500) (by omega) hL) ok_Mo_wrong ml_Mo_113 (by assumption) ⟨rfl, rfl⟩ (by omega) (Nat.le_of_ble_eq_true rfl) (fun K2 hK2 => ?_)
            have hbad := hs.mcb hK2 (by omega)
            obtain ⟨a8, ha8, hu8⟩ := hK2.2.2
            have hu8 : a8 ≤ 600 := by omega
            have hx2 := hbad.1.tx hx
            have hlaw : gq_law (tK f L) (tV f L) = .inl tt := by rw [he, show 12 - k9 = 0 by omega]; rfl
            refine mx_goto 80 d_Mo_read_62 (by decide) ?_
            refine mx_iN3 d_Mo_read_80 ?_
            refine mx_al0 d_Mo_read_83 ?_
            refine mx_cV0v d_Mo_read_84 (c_Mo_skip hM hx2 ha8 (by omega)) ok_Mo_skip ml_Mo_97 (by assumption) ⟨rfl, rfl⟩ (by omega) (Nat.le_of_ble_eq_true rfl) ?_
            refine mx_al0 d_Mo_read_87 ?_
            refine mx_getI d_Mo_read_88 fl_Mo_25 (by assumption) ?_
            refine mx_ti (y := (K2 mo 12)) ((by simp [mx_up])) ?_
            refine mx_ic_m1 d_Mo_read_91 ?_
            refine mx_icmp_ne 106 d_Mo_read_92 (by decide) (fun c_92 => ?_) (fun c_92 => ?_)
            · skip
              refine mx_in_0 d_Mo_read_106 ?_
              refine mx_is2 d_Mo_read_107 ?_
              refine mx_lsc (congrArg (fun z9 => ([some (.ref (mo)), some (.int (nI (1))), some (.int (z9)), some (.int (nI (n + 1)))] : List (Option Value))) ((show nI 0 = bI false from rfl))) ?_
              refine mx_goto 23 d_Mo_read_108 (by decide) ?_
              exact ih ((mx_up K2 mo 11 (nI (tq_sk f L a8))), false, n + 1) (⟨by show n + 1 = k9 + 1; omega, Or.inl ⟨rfl, by rw [hlaw]; exact hbad.sk hu8 hL⟩⟩)
            · skip
              exact absurd c_92 (by rw [hbad.2.1]; exact nI_m1b (by have := tq_bL f L tt; omega))
    · skip
      obtain ⟨K, go, n⟩ := z9
      try dsimp only at hinv ⊢
      have hbig : go = true → ¬ K mo 12 = -1 := fun hg hf => by obtain ⟨tt, s, -, -, -, h9, -⟩ := hinv.ok hg hf hL; omega
      refine mx_il2 d_Mo_read_23 ?_
      refine mx_ifB_eq 144 d_Mo_read_24 (by decide) (fun c_24 => ?_) (fun c_24 => ?_)
      · skip
        refine mx_il3 d_Mo_read_144 ?_
        exact mx_iret d_Mo_read_145 rfl (mx_vR_i (hinv.no (Or.inl c_24)))
      · skip
        have hgo : go = true := c_24
        refine mx_al0 d_Mo_read_27 ?_
        refine mx_getI d_Mo_read_28 fl_Mo_25 (by assumption) ?_
        refine mx_ic_m1 d_Mo_read_31 ?_
        refine mx_icmp_ne 144 d_Mo_read_32 (by decide) (fun c_32 => ?_) (fun c_32 => absurd c_32 (hbig c_24))
        refine mx_il3 d_Mo_read_144 ?_
        exact mx_iret d_Mo_read_145 rfl (mx_vR_i (hinv.no (Or.inr c_32)))
  · skip
    have hk0 : ¬ tK f L 0 = 0 := tK_noend (by omega)
    refine mx_in_1 d_Mo_read_15 ?_
    refine mx_goto 20 d_Mo_read_16 (by decide) ?_
    refine mx_is2 d_Mo_read_20 ?_
    refine mx_in_0 d_Mo_read_21 ?_
    refine mx_is3 d_Mo_read_22 ?_
    refine mx_lsc (congrArg (fun z9 => ([some (.ref (mo)), some (.int (nI (1))), some (.int (z9)), some (.int (nI (0)))] : List (Option Value))) ((show nI 1 = bI true from rfl))) ?_
    refine mx_loopX (α := (mx_I × Bool × Nat)) (N := 14) (a0 := (K1, true, 0)) (fun k9 z9 => rw_inv I z9.1 mo f L fc k9 z9.2.1 z9.2.2) (ls := fun k9 z9 => [some (.ref (mo)), some (.int (nI (1))), some (.int (bI (z9.2.1))), some (.int (nI (z9.2.2)))]) (X := fun k9 z9 => (t, S, z9.1, P, J)) (⟨rfl, Or.inr ⟨rfl, Or.inr ⟨0, [], hs9, hlf9, rfl, by omega, gq_law_1 hk0⟩⟩⟩) (fun k9 hk9 z9 hinv ih => ?_) (fun z9 hinv => ?_)
    · skip
      obtain ⟨K, go, n⟩ := z9
      try dsimp only at hinv ih ⊢
      refine mx_il2 d_Mo_read_23 ?_
      refine mx_ifB_eq 144 d_Mo_read_24 (by decide) (fun c_24 => ?_) (fun c_24 => ?_)
      · skip
        refine mx_il3 d_Mo_read_144 ?_
        exact mx_iret d_Mo_read_145 rfl (mx_vR_i (hinv.no (Or.inl c_24)))
      · skip
        have hgo : go = true := c_24
        refine mx_al0 d_Mo_read_27 ?_
        refine mx_getI d_Mo_read_28 fl_Mo_25 (by assumption) ?_
        refine mx_ic_m1 d_Mo_read_31 ?_
        refine mx_icmp_ne 144 d_Mo_read_32 (by decide) (fun c_32 => ?_) (fun c_32 => ?_)
        · skip
          refine mx_il3 d_Mo_read_144 ?_
          exact mx_iret d_Mo_read_145 rfl (mx_vR_i (hinv.no (Or.inr c_32)))
        · skip
          obtain ⟨tt, s, hs, hlf, hsl, hk12, he⟩ := hinv.ok hgo c_32 hL
          have hnk := hinv.1
          refine mx_al0 d_Mo_read_35 ?_
          refine mx_cV0vR d_Mo_read_36 (c_Mo_skipS hM (hs.1.tx hx) hs.mc) ok_Mo_skip ml_Mo_97 (by assumption) ⟨rfl, rfl⟩ (by omega) (Nat.le_of_ble_eq_true rfl) (fun K5 hK5 => ?_)
          have hlf := hlf.mc hK5.1.1
          have ha5 := hK5.2
          have hs := hs.mct hK5.1
          refine mx_il3 d_Mo_read_39 ?_
          refine mx_il1 d_Mo_read_40 ?_
          refine mx_if_eq 49 d_Mo_read_41 (by decide) (fun c_41 => absurd c_41 (by decide)) (fun c_41 => ?_)
          refine mx_bip 12 d_Mo_read_44 (by decide) ?_
          refine mx_goto 51 d_Mo_read_46 (by decide) ?_
          refine mx_icN_ne 65 d_Mo_read_51 (by decide) (by omega) (by omega) (fun c_51 => ?_) (fun c_51 => ?_)
          · skip
            refine mx_il1 d_Mo_read_65 ?_
            refine mx_if_eq 76 d_Mo_read_66 (by decide) (fun c_66 => absurd c_66 (by decide)) (fun c_66 => ?_)
            refine mx_al0 d_Mo_read_69 ?_
            refine mx_cV0vR d_Mo_read_70 (c_Mo_lawLine hM (hs.1.tx hx) hs.mc (hs.1.mf hmf)) ok_Mo_lawLine ml_Mo_182 (by assumption) ⟨rfl, rfl⟩ (by omega) (Nat.le_of_ble_eq_true rfl) (fun K2 hK2 => ?_)
            obtain ⟨a8, ha8, hu8⟩ := ml_at hK2 hL
            have hx2 := (ml_outoff hK2).tx (hs.1.tx hx)
            refine mx_goto 80 d_Mo_read_73 (by decide) ?_
            refine mx_iN3 d_Mo_read_80 ?_
            refine mx_al0 d_Mo_read_83 ?_
            refine mx_cV0v d_Mo_read_84 (c_Mo_skip hM hx2 ha8 (by omega)) ok_Mo_skip ml_Mo_97 (by assumption) ⟨rfl, rfl⟩ (by omega) (Nat.le_of_ble_eq_true rfl) ?_
            refine mx_al0 d_Mo_read_87 ?_
            refine mx_getI d_Mo_read_88 fl_Mo_25 (by assumption) ?_
            refine mx_ti (y := (K2 mo 12)) ((by simp [mx_up])) ?_
            refine mx_ic_m1 d_Mo_read_91 ?_
            refine mx_icmp_ne 106 d_Mo_read_92 (by decide) (fun c_92 => ?_) (fun c_92 => ?_)
            · skip
              obtain ⟨e, hle, hb⟩ := hK2.no c_92
              have hlaw := rl_bad (by omega) he hle
              refine mx_in_0 d_Mo_read_106 ?_
              refine mx_is2 d_Mo_read_107 ?_
              refine mx_lsc (congrArg (fun z9 => ([some (.ref (mo)), some (.int (nI (1))), some (.int (z9)), some (.int (nI (n + 1)))] : List (Option Value))) ((show nI 0 = bI false from rfl))) ?_
              refine mx_goto 23 d_Mo_read_108 (by decide) ?_
              exact ih ((mx_up K2 mo 11 (nI (tq_sk f L a8))), false, n + 1) (⟨by show n + 1 = k9 + 1; omega, Or.inl ⟨rfl, by rw [hlaw]; exact (hs.trb2 hb).sk hu8 hL⟩⟩)
            · skip
              obtain ⟨q, hq0, hq2⟩ := hK2.ok c_92 hL
              have hgd := rl_good (by omega) he hq0
              obtain ⟨hsk, hs2⟩ := hq2.1.sk ha8 hu8 hL
              have hbq := tq_bL f L q.2
              refine mx_al0 d_Mo_read_95 ?_
              refine mx_getI d_Mo_read_96 fl_Mo_87 (by assumption) ?_
              refine mx_ti (y := nI (tq_sk f L a8)) ((by simp [mx_up])) ?_
              refine mx_al0 d_Mo_read_99 ?_
              refine mx_getI d_Mo_read_100 fl_Mo_90 (by assumption) ?_
              refine mx_ti (y := nI (L)) ((by simp [mx_up]; exact hx2.1)) ?_
              refine mx_icN_ne 111 d_Mo_read_103 (by decide) (by omega) (by omega) (fun c_103 => ?_) (fun c_103 => ?_)
              · skip
                have hk0q : ¬ tK f L q.2 = 0 := tK_noend (by omega)
                have hg3 := hgd.trans (if_neg hk0q)
                have hlf2 := (hlf.st hq2).up (k := 11) (x := nI (tq_sk f L a8)) (by omega)
                refine mx_al0 d_Mo_read_111 ?_
                refine mx_bip 59 d_Mo_read_112 (by decide) ?_
                refine mx_cV1iR d_Mo_read_114 (c_Mo_sign_59 hM (hs2.1.tx (hs.1.tx hx)) hs2.mc) ok_Mo_isSign ml_Mo_188 (by assumption) ⟨rfl, rfl⟩ (by omega) (Nat.le_of_ble_eq_true rfl) (fun K3 hK3 => ?_)
                have ha3 := hK3.2
                have hs3 := hK3.1
                refine mx_ifB_eq 133 d_Mo_read_117 (by decide) (fun c_117 => ?_) (fun c_117 => ?_)
                · skip
                  have hk3 : ¬ tK f L q.2 = 3 := of_decide_eq_false c_117
                  have hlaw := hg3.trans (if_neg hk3)
                  refine mx_al0 d_Mo_read_133 ?_
                  refine mx_al0 d_Mo_read_134 ?_
                  refine mx_getI d_Mo_read_135 fl_Mo_87 (by assumption) ?_
                  refine mx_ti (y := nI (tq_b f L q.2)) (ha3) ?_
                  refine mx_cV1vR d_Mo_read_138 (c_Mo_wrongS hM ((mc_s.tr hs2.mc hs3)) ha3 (u := 500) (by omega) hL) ok_Mo_wrong ml_Mo_113 (by assumption) ⟨rfl, rfl⟩ (by omega) (Nat.le_of_ble_eq_true rfl) (fun K4 hK4 => ?_)
                  refine mx_goto 23 d_Mo_read_141 (by decide) ?_
                  exact ih (K4, go, n + 1) (⟨by show n + 1 = k9 + 1; omega, Or.inr ⟨hgo, Or.inl ⟨q.2, hlaw, hs.trb2 (hs2.mcb hK4 (by omega))⟩⟩⟩)
                · skip
                  have hk3 : tK f L q.2 = 3 := of_decide_eq_true c_117
                  have hlaw := hg3.trans (if_pos hk3)
                  refine mx_al0 d_Mo_read_120 ?_
                  refine mx_dup d_Mo_read_121 rfl ?_
                  refine mx_getI d_Mo_read_122 fl_Mo_87 (by assumption) ?_
                  refine mx_ti (y := nI (tq_b f L q.2)) (ha3) ?_
                  refine mx_in_1 d_Mo_read_125 ?_
                  refine mx_iaddN d_Mo_read_126 ?_
                  refine mx_putI d_Mo_read_127 fl_Mo_87 (by assumption) ?_
                  have hs3 := ((mc_s.tr hs2.mc hs3)).sg hk3 (by omega) (by omega) (by omega)
                  have hlf3 := (lf_is.mc hlf2 (mc_off.tr (K := K3) hK3.1.1 (mc_off.uu mc_off.rf (k := 11) (x := nI (tq_b f L q.2 + 1)) (by omega))))
                  refine mx_goto 23 d_Mo_read_130 (by decide) ?_
                  exact ih ((mx_up K3 (mo) 11 (nI (tq_b f L q.2 + 1))), go, n + 1) (⟨by show n + 1 = k9 + 1; omega, Or.inr ⟨hgo, Or.inr ⟨q.2 + 1, s ++ [q.1], hs.tr2 (hs2.mct hs3), hlf3, by simp; omega, by omega, hlaw⟩⟩⟩)
              · skip
                have hk0q : tK f L q.2 = 0 := tK_end (by omega)
                have hlaw := hgd.trans (if_pos hk0q)
                have hlf2 := (hlf.st hq2).up (k := 11) (x := nI (tq_sk f L a8)) (by omega)
                refine mx_in_0 d_Mo_read_106 ?_
                refine mx_is2 d_Mo_read_107 ?_
                refine mx_lsc (congrArg (fun z9 => ([some (.ref (mo)), some (.int (nI (1))), some (.int (z9)), some (.int (nI (n + 1)))] : List (Option Value))) ((show nI 0 = bI false from rfl))) ?_
                refine mx_goto 23 d_Mo_read_108 (by decide) ?_
                exact ih ((mx_up K2 mo 11 (nI (tq_sk f L a8))), false, n + 1) (⟨by show n + 1 = k9 + 1; omega, Or.inl ⟨rfl, by rw [hlaw]; exact ⟨(hs.tr2 hs2).1, hs2.2.1, congrArg nI (by show n + 1 = (s ++ [q.1]).length; simp; omega), hlf2⟩⟩⟩)
          · skip
            refine mx_al0 d_Mo_read_54 ?_
            refine mx_al0 d_Mo_read_55 ?_
            refine mx_getI d_Mo_read_56 fl_Mo_87 (by assumption) ?_
            refine mx_ti (y := nI (tq_b f L tt)) (ha5) ?_
            refine mx_cV1vR d_Mo_read_59 (c_Mo_wrongS hM hs.mc ha5 (u := 500) (by omega) hL) ok_Mo_wrong ml_Mo_113 (by assumption) ⟨rfl, rfl⟩ (by omega) (Nat.le_of_ble_eq_true rfl) (fun K2 hK2 => ?_)
            have hbad := hs.mcb hK2 (by omega)
            obtain ⟨a8, ha8, hu8⟩ := hK2.2.2
            have hu8 : a8 ≤ 600 := by omega
            have hx2 := hbad.1.tx hx
            have hlaw : gq_law (tK f L) (tV f L) = .inl tt := by rw [he, show 12 - k9 = 0 by omega]; rfl
            refine mx_goto 80 d_Mo_read_62 (by decide) ?_
            refine mx_iN3 d_Mo_read_80 ?_
            refine mx_al0 d_Mo_read_83 ?_
            refine mx_cV0v d_Mo_read_84 (c_Mo_skip hM hx2 ha8 (by omega)) ok_Mo_skip ml_Mo_97 (by assumption) ⟨rfl, rfl⟩ (by omega) (Nat.le_of_ble_eq_true rfl) ?_
            refine mx_al0 d_Mo_read_87 ?_
            refine mx_getI d_Mo_read_88 fl_Mo_25 (by assumption) ?_
            refine mx_ti (y := (K2 mo 12)) ((by simp [mx_up])) ?_
            refine mx_ic_m1 d_Mo_read_91 ?_
            refine mx_icmp_ne 106 d_Mo_read_92 (by decide) (fun c_92 => ?_) (fun c_92 => ?_)
            · skip
              refine mx_in_0 d_Mo_read_106 ?_
              refine mx_is2 d_Mo_read_107 ?_
              refine mx_lsc (congrArg (fun z9 => ([some (.ref (mo)), some (.int (nI (1))), some (.int (z9)), some (.int (nI (n + 1)))] : List (Option Value))) ((show nI 0 = bI false from rfl))) ?_
              refine mx_goto 23 d_Mo_read_108 (by decide) ?_
              exact ih ((mx_up K2 mo 11 (nI (tq_sk f L a8))), false, n + 1) (⟨by show n + 1 = k9 + 1; omega, Or.inl ⟨rfl, by rw [hlaw]; exact hbad.sk hu8 hL⟩⟩)
            · skip
              exact absurd c_92 (by rw [hbad.2.1]; exact nI_m1b (by have := tq_bL f L tt; omega))
    · skip
      obtain ⟨K, go, n⟩ := z9
      try dsimp only at hinv ⊢
      have hbig : go = true → ¬ K mo 12 = -1 := fun hg hf => by obtain ⟨tt, s, -, -, -, h9, -⟩ := hinv.ok hg hf hL; omega
      refine mx_il2 d_Mo_read_23 ?_
      refine mx_ifB_eq 144 d_Mo_read_24 (by decide) (fun c_24 => ?_) (fun c_24 => ?_)
      · skip
        refine mx_il3 d_Mo_read_144 ?_
        exact mx_iret d_Mo_read_145 rfl (mx_vR_i (hinv.no (Or.inl c_24)))
      · skip
        have hgo : go = true := c_24
        refine mx_al0 d_Mo_read_27 ?_
        refine mx_getI d_Mo_read_28 fl_Mo_25 (by assumption) ?_
        refine mx_ic_m1 d_Mo_read_31 ?_
        refine mx_icmp_ne 144 d_Mo_read_32 (by decide) (fun c_32 => ?_) (fun c_32 => absurd c_32 (hbig c_24))
        refine mx_il3 d_Mo_read_144 ?_
        exact mx_iret d_Mo_read_145 rfl (mx_vR_i (hinv.no (Or.inr c_32)))
end AX65
