/-! THE CLASS READS THE LAW: lines -/
section AT61
variable {l : Launch} {E : mx_Env} {t : Nat} {S : mx_S} {I K K2 : mx_I} {P : mx_P} {J : mx_G} {lr te L c e z n tt : Nat} {f : Nat → Nat} {w v : Int32} {cl cs d cd : List Int32} {b : Bool} {s : List gq_L}
/-- the lines s stand written -/
def ll_rows (K : mx_I) (lr : Nat) (s : List gq_L) : Prop := K lr 1 = nI s.length ∧ K lr 6 = nI (gq_co s).length ∧ (∀ j, j < s.length → K (lr + 1) j = nI (gq_kd s j) ∧ K (lr + 2) j = nI (gq_ma s j) ∧ K (lr + 3) j = nI (gq_e s j)) ∧ ∀ k, k < (gq_co s).length → K (lr + 4) k = (gq_co s).getD k 0
def ll_off (I K : mx_I) (lr te : Nat) : Prop := (∀ a, a ≠ te → (a < lr ∨ lr + 5 ≤ a) → K a = I a) ∧ (∀ k, k ≠ 2 → k ≠ 8 → k ≠ 9 → K te k = I te k) ∧ ∀ k, k ≠ 1 → k ≠ 6 → K lr k = I lr k
theorem ll_off.rf : ll_off I I lr te := ⟨fun _ _ _ => rfl, fun _ _ _ _ => rfl, fun _ _ _ => rfl⟩
theorem ll_off.tr (h : ll_off I K lr te) (h2 : ll_off K K2 lr te) : ll_off I K2 lr te := ⟨fun a h0 h1 => (h2.1 a h0 h1).trans (h.1 a h0 h1), fun k a b c => (h2.2.1 k a b c).trans (h.2.1 k a b c), fun k h1 h6 => (h2.2.2 k h1 h6).trans (h.2.2 k h1 h6)⟩
theorem lr_off.ll (h : lr_off I K lr te) : ll_off I K lr te := ⟨fun a h0 h1 => h.1 a h0 (by omega) (by omega), h.2.1, fun k _ h6 => h.2.2 k h6⟩
def ll_s (I K : mx_I) (lr te : Nat) (f : Nat → Nat) (L tt : Nat) (s : List gq_L) : Prop := ll_off I K lr te ∧ K te 2 = I te 2 ∧ tk_tok K te f L ∧ tk_cur K te f L tt ∧ ll_rows K lr s
def ll_out (I K : mx_I) (lr te : Nat) (f : Nat → Nat) (L : Nat) (r : Nat ⊕ (List gq_L × Nat)) : Prop := match r with
  | .inl e => ll_off I K lr te ∧ K te 2 = nI (tq_b f L e)
  | .inr q => ll_s I K lr te f L q.2 q.1
theorem ll_s.lo (h : ll_s I K lr te f L tt s) : lr_s K K lr te f L tt (gq_co s) := lr_s.rf h.2.2.1 h.2.2.2.1 h.2.2.2.2.2.1 h.2.2.2.2.2.2.2
theorem ll_s.cu (h : ll_s I K lr te f L tt s) : tk_cur K te f L tt := h.2.2.2.1
theorem ll_s.tok (h : ll_s I K lr te f L tt s) : tk_tok K te f L := h.2.2.1
theorem ll_s.self (h : ll_s I K lr te f L tt s) : ll_s K K lr te f L tt s := ⟨ll_off.rf, rfl, h.2.2⟩
theorem ll_s.tr {t2 : Nat} {s2 : List gq_L} (h : ll_s I K lr te f L tt s) (h2 : ll_s K K2 lr te f L t2 s2) : ll_s I K2 lr te f L t2 s2 := ⟨h.1.tr h2.1, h2.2.1.trans h.2.1, h2.2.2⟩
theorem ll_s.tk {t2 : Nat} (h : ll_s I K lr te f L tt s) (ho : tk_out K K2 te f L (.inr t2)) (hsep : te + 6 ≤ lr) : ll_s I K2 lr te f L t2 s := by
  obtain ⟨h1, h2, h3, h4, h5⟩ := h
  obtain ⟨o1, o2, o3⟩ := ho
  refine ⟨h1.tr (o1.lo hsep).ll, by rw [o3, h2], o1.all h3, o2, ?_⟩
  unfold ll_rows
  rw [o1.1 lr (by omega), o1.1 (lr + 1) (by omega), o1.1 (lr + 2) (by omega), o1.1 (lr + 3) (by omega), o1.1 (lr + 4) (by omega)]
  exact h5
theorem ll_s.bad (h : ll_s I K lr te f L tt s) (ho : tk_out K K2 te f L (.inl e)) (hsep : te + 6 ≤ lr) : ll_off I K2 lr te ∧ K2 te 2 = nI (tq_b f L e) := ⟨h.1.tr (ho.1.lo hsep).ll, ho.2⟩
theorem gq_kd_l {x : gq_L} {j : Nat} (hj : j < s.length) : gq_kd (s ++ [x]) j = gq_kd s j ∧ gq_ma (s ++ [x]) j = gq_ma s j ∧ gq_e (s ++ [x]) j = gq_e s j := by
  unfold gq_kd gq_ma gq_e
  rw [List.getD_eq_getElem?_getD, List.getD_eq_getElem?_getD, List.getElem?_append_left hj, List.take_append_of_le_length (by omega)]
  exact ⟨rfl, rfl, rfl⟩
theorem gq_kd_e {x : gq_L} : gq_kd (s ++ [x]) s.length = x.1 ∧ gq_ma (s ++ [x]) s.length = x.2.1 ∧ gq_e (s ++ [x]) s.length = (gq_co s ++ x.2.2).length := by
  unfold gq_kd gq_ma gq_e
  rw [List.getD_eq_getElem?_getD, List.getElem?_append_right (Nat.le_refl _), Nat.sub_self, List.take_of_length_le (by simp), gq_co_app]
  refine ⟨rfl, rfl, ?_⟩
  simp [gq_co]
/-- the line is set down -/
theorem ll_end {k a : Nat} (h0 : ll_s I I lr te f L c s) (h : lr_s I K lr te f L tt (gq_co s ++ cd)) (hsep : te + 6 ≤ lr) : ll_s I (mx_up (mx_up (mx_up (mx_up K (lr + 1) s.length (nI k)) (lr + 2) s.length (nI a)) (lr + 3) s.length (nI (gq_co s ++ cd).length)) lr 1 (nI (s.length + 1))) lr te f L tt (s ++ [(k, a, cd)]) := by
  obtain ⟨-, -, -, -, g1, g2, g3, g4⟩ := h0
  obtain ⟨h1, h2, h3, h4, h5, h6⟩ := h
  have hco : gq_co (s ++ [(k, a, cd)]) = gq_co s ++ cd := by rw [gq_co_app]; simp [gq_co]
  have hrow : ∀ q, q ≠ lr → q ≠ lr + 1 → q ≠ lr + 2 → q ≠ lr + 3 → (mx_up (mx_up (mx_up (mx_up K (lr + 1) s.length (nI k)) (lr + 2) s.length (nI a)) (lr + 3) s.length (nI (gq_co s ++ cd).length)) lr 1 (nI (s.length + 1))) q = K q := fun q q0 q1 q2 q3 => by rw [mx_up_ne q0, mx_up_ne q3, mx_up_ne q2, mx_up_ne q1]
  refine ⟨⟨fun q q0 q1 => ?_, fun j a1 a2 a3 => ?_, fun j a1 a2 => ?_⟩, ?_, h3.cg (fun q q1 q2 => hrow q (by omega) (by omega) (by omega) (by omega)), ?_, ?_, ?_, fun j hj => ?_, fun j hj => ?_⟩
  · rw [hrow q (by omega) (by omega) (by omega) (by omega)]; exact h1.1 q q0 (by omega) (by omega)
  · rw [hrow te (by omega) (by omega) (by omega) (by omega)]; exact h1.2.1 j a1 a2 a3
  · rw [← h1.2.2 j a2]; simp [mx_up, a1]
  · rw [hrow te (by omega) (by omega) (by omega) (by omega)]; exact h2
  · unfold tk_cur; rw [hrow te (by omega) (by omega) (by omega) (by omega)]; exact h4
  · simp [mx_up]
  · rw [hco, ← h5]; simp [mx_up]
  · have e1 : K (lr + 1) = I (lr + 1) := h1.1 _ (by omega) (by omega) (by omega)
    have e2 : K (lr + 2) = I (lr + 2) := h1.1 _ (by omega) (by omega) (by omega)
    have e3 : K (lr + 3) = I (lr + 3) := h1.1 _ (by omega) (by omega) (by omega)
    by_cases ej : j = s.length
    · subst ej
      obtain ⟨q1, q2, q3⟩ := gq_kd_e (s := s) (x := (k, a, cd))
      rw [q1, q2, q3]
      refine ⟨?_, ?_, ?_⟩ <;> simp [mx_up]
    · have hj2 : j < s.length := by simp at hj; omega
      obtain ⟨q1, q2, q3⟩ := gq_kd_l (x := (k, a, cd)) hj2
      obtain ⟨p1, p2, p3⟩ := g3 j hj2
      rw [q1, q2, q3, ← p1, ← p2, ← p3]
      refine ⟨?_, ?_, ?_⟩ <;> simp [mx_up, ej, e1, e2, e3]
  · rw [hco] at hj ⊢
    rw [hrow (lr + 4) (by omega) (by omega) (by omega) (by omega)]
    exact h6 j hj
theorem gq_line_n {K : Nat → Nat} {V : Nat → Option Nat} {t : Nat} (h : ¬ (K t = 29 ∨ K t = 30 ∨ K t = 31)) : gq_line K V t = .inl t := if_neg h
theorem gq_line_a {K : Nat → Nat} {V : Nat → Option Nat} {t e : Nat} (h : K t = 29 ∨ K t = 30 ∨ K t = 31) (ha : gq_am K V t = .inl e) : gq_line K V t = .inl e := by unfold gq_line; rw [if_pos h, ha]
theorem gq_line_i {K : Nat → Nat} {V : Nat → Option Nat} {t e : Nat} {p : Nat × Nat} (h : K t = 29 ∨ K t = 30 ∨ K t = 31) (ha : gq_am K V t = .inr p) (hi : gq_if K V p.2 = .inl e) : gq_line K V t = .inl e := by unfold gq_line; rw [if_pos h, ha]; simp only; rw [hi]
theorem gq_line_y {K : Nat → Nat} {V : Nat → Option Nat} {t : Nat} {p : Nat × Nat} {q : List Int32 × Nat} (h : K t = 29 ∨ K t = 30 ∨ K t = 31) (ha : gq_am K V t = .inr p) (hi : gq_if K V p.2 = .inr q) : gq_line K V t = .inr ((K t, p.1, q.1), q.2) := by unfold gq_line; rw [if_pos h, ha]; simp only; rw [hi]
theorem gq_LN_bad {K : Nat → Nat} {V : Nat → Option Nat} {t e : Nat} (h : gq_line K V t = .inl e) : gq_LN K V s t = .inl e := by unfold gq_LN; rw [h]
theorem gq_LN_ok {K : Nat → Nat} {V : Nat → Option Nat} {t : Nat} {q : gq_L × Nat} (h : gq_line K V t = .inr q) : gq_LN K V s t = .inr (s ++ [q.1], q.2) := by unfold gq_LN; rw [h]
theorem h99 : ∀ v, v < 10000 → (nI v ≤ nI 99 ↔ v < 100) := fun v hv => by rw [nI_leI (by omega) (by omega)]; omega
theorem c_Lr_readLine (hLr : lr_ok S P lr te) (hTe : te_ok S P te) (hs0 : ll_s I I lr te f L c s) (hcl : (gq_co s).length ≤ c) (hs12 : s.length < 12)  : mx_C l E M_Lr_readLine 17 0 0 [.ref (lr)] (t, S, I, P, J) (mx_sR (some (.int (bI (gq_ok (gq_LN (tK f L) (tV f L) s c))))) t S P J (fun K => ll_out I K lr te f L (gq_LN (tK f L) (tV f L) s c))) := by
  obtain ⟨hR0, hR1, hR2, hR3, hR4, hR5, hR6, hR7, hR8, hR9, hsep⟩ := id hLr
  obtain ⟨hT0, hT1, hT2, hT3, hT4, hT5, hT6, hT7, hT8, hT9, hT10⟩ := id hTe
  have hL9 := hs0.2.2.1.1.2.2
  have hTL := tq_n_le f L
  have hs := hs0.lo
  have hk36 := tq_k_lt f L (tq_b f L c)
  refine mx_C_of (ls0 := [some (.ref (lr)), none, none]) (by decide +kernel) rfl rfl (Nat.le_of_ble_eq_true rfl) rfl ?_
  refine mx_al0 d_Lr_readLine_0 ?_
  refine mx_getR d_Lr_readLine_1 fl_Lr_24 (by assumption) (by assumption) ?_
  refine mx_getI d_Lr_readLine_4 fl_Lr_49 (by assumption) ?_
  refine mx_ti (y := nI (tq_k f L (tq_b f L (c)))) (hs.cur.2.1) ?_
  refine mx_is1 d_Lr_readLine_7 ?_
  refine mx_il1 d_Lr_readLine_8 ?_
  refine mx_bip 29 d_Lr_readLine_9 (by decide) ?_
  refine mx_icN_eq 34 d_Lr_readLine_11 (by decide) (by omega) (by omega) (fun c_11 => ?_) (fun c_11 => ?_)
  · skip
    have h3 : tK f L c = 29 ∨ tK f L c = 30 ∨ tK f L c = 31 := Or.inl c_11
    refine mx_al0 d_Lr_readLine_34 ?_
    refine mx_getR d_Lr_readLine_35 fl_Lr_24 (by assumption) (by assumption) ?_
    refine mx_cV0vR d_Lr_readLine_38 (c_Te_nextR hTe hs.tok hs.cur (tK_T (by show ¬ tq_k f L (tq_b f L c) = 0; omega))) ok_Te_next ml_Lr_63 (by assumption) ⟨rfl, rfl⟩ (by decide) (Nat.le_of_ble_eq_true rfl) (fun K1 hK1 => ?_)
    have hs := hs.tk hK1 hsep
    refine mx_il1 d_Lr_readLine_41 ?_
    refine mx_bip 31 d_Lr_readLine_42 (by decide) ?_
    refine mx_icN_ne 51 d_Lr_readLine_44 (by decide) (by omega) (by omega) (fun c_44 => ?_) (fun c_44 => ?_)
    · skip
      have ham : gq_am (tK f L) (tV f L) c = gq_num (tK f L) (tV f L) 0 100 (c + 1) := if_neg c_44
      refine mx_al0 d_Lr_readLine_51 ?_
      refine mx_getR d_Lr_readLine_52 fl_Lr_24 (by assumption) (by assumption) ?_
      refine mx_in_0 d_Lr_readLine_55 ?_
      refine mx_bip 99 d_Lr_readLine_56 (by decide) ?_
      refine mx_cV2iR d_Lr_readLine_58 (c_Te_number hTe hs.tok hs.cur (lo := 0) (hb := 100) (by omega) (fun v hv => h99 v (by omega))) ok_Te_number ml_Lr_66 (by assumption) ⟨rfl, rfl⟩ (by decide) (Nat.le_of_ble_eq_true rfl) (fun K2 hK2 => ?_)
      refine mx_is2 d_Lr_readLine_61 ?_
      refine mx_il2 d_Lr_readLine_62 ?_
      refine mx_ic_m1 d_Lr_readLine_63 ?_
      refine mx_icmp_ne 69 d_Lr_readLine_64 (by decide) (fun c_64 => ?_) (fun c_64 => ?_)
      · skip
        obtain ⟨p, hq0, hpv⟩ := gq_vl_y c_64
        have ham := ham.trans hq0
        rw [hq0] at hK2
        have hK2 : tk_out K1 K2 te f L (.inr p.2) := hK2
        have hs := hs.tk hK2 hsep
        have hpB := (gq_am_go (tK0 rfl) h3).1 p ham
        have hTT := hs.cur.2.2
        have hk37 := tq_k_lt f L (tq_b f L p.2)
        refine mx_al0 d_Lr_readLine_69 ?_
        refine mx_getR d_Lr_readLine_70 fl_Lr_24 (by assumption) (by assumption) ?_
        refine mx_getI d_Lr_readLine_73 fl_Lr_49 (by assumption) ?_
        refine mx_ti (y := nI (tq_k f L (tq_b f L (p.2)))) (hs.cur.2.1) ?_
        refine mx_bip 32 d_Lr_readLine_76 (by decide) ?_
        refine mx_icN_ne 98 d_Lr_readLine_78 (by decide) (by omega) (by omega) (fun c_78 => ?_) (fun c_78 => ?_)
        · skip
          obtain ⟨q, hq0⟩ : ∃ q : List Int32 × Nat, q = ([], p.2) := ⟨_, rfl⟩
          have hq : gq_LN (tK f L) (tV f L) s c = _ := gq_LN_ok (gq_line_y h3 ham ((if_neg c_78).trans (congrArg Sum.inr hq0.symm)))
          have e9 : gq_co s = gq_co s ++ q.1 := by rw [hq0, List.append_nil]
          have e8 : p.2 = q.2 := by rw [hq0]
          rw [e9, e8] at hs
          refine mx_al0 d_Lr_readLine_98 ?_
          have hl1 := (hs.1.2.2 1 (by omega)).trans hs0.2.2.2.2.1
          refine mx_getR d_Lr_readLine_99 fl_Lr_9 (by assumption) (by assumption) ?_
          refine mx_al0 d_Lr_readLine_102 ?_
          refine mx_getI d_Lr_readLine_103 fl_Lr_30 (by assumption) ?_
          refine mx_ti (y := nI (s.length)) (hl1) ?_
          refine mx_il1 d_Lr_readLine_106 ?_
          refine mx_cSN3v d_Lr_readLine_107 (c_put (k := s.length) (by assumption) (by omega) (by omega)) ok_Vh_put ml_Lr_73 (by decide) (Nat.le_of_ble_eq_true rfl) ?_
          refine mx_al0 d_Lr_readLine_110 ?_
          refine mx_getR d_Lr_readLine_111 fl_Lr_15 (by assumption) (by assumption) ?_
          refine mx_al0 d_Lr_readLine_114 ?_
          refine mx_getI d_Lr_readLine_115 fl_Lr_30 (by assumption) ?_
          refine mx_ti (y := nI (s.length)) ((by simp [mx_up, hl1])) ?_
          refine mx_il2 d_Lr_readLine_118 ?_
          refine mx_cSN3v d_Lr_readLine_119 (c_put (k := s.length) (by assumption) (by omega) (by omega)) ok_Vh_put ml_Lr_73 (by decide) (Nat.le_of_ble_eq_true rfl) ?_
          refine mx_al0 d_Lr_readLine_122 ?_
          refine mx_getR d_Lr_readLine_123 fl_Lr_18 (by assumption) (by assumption) ?_
          refine mx_al0 d_Lr_readLine_126 ?_
          refine mx_getI d_Lr_readLine_127 fl_Lr_30 (by assumption) ?_
          refine mx_ti (y := nI (s.length)) ((by simp [mx_up, hl1])) ?_
          refine mx_al0 d_Lr_readLine_130 ?_
          refine mx_getI d_Lr_readLine_131 fl_Lr_38 (by assumption) ?_
          refine mx_ti (y := nI ((gq_co s ++ q.1).length)) ((by simp [mx_up, hs.sz])) ?_
          refine mx_cSN3v d_Lr_readLine_134 (c_put (k := s.length) (by assumption) (by omega) (by omega)) ok_Vh_put ml_Lr_73 (by decide) (Nat.le_of_ble_eq_true rfl) ?_
          refine mx_al0 d_Lr_readLine_137 ?_
          refine mx_dup d_Lr_readLine_138 rfl ?_
          refine mx_getI d_Lr_readLine_139 fl_Lr_30 (by assumption) ?_
          refine mx_ti (y := nI (s.length)) ((by simp [mx_up, hl1])) ?_
          refine mx_in_1 d_Lr_readLine_142 ?_
          refine mx_iaddN d_Lr_readLine_143 ?_
          refine mx_putI d_Lr_readLine_144 fl_Lr_30 (by assumption) ?_
          refine mx_in_1 d_Lr_readLine_147 ?_
          exact mx_zret d_Lr_readLine_148 rfl (by first | exact Or.inl rfl | exact Or.inr rfl) (mx_sR_i (by rw [hq]; rfl) (by rw [hq, hpv]; exact ll_end hs0 hs hsep))
        · skip
          refine mx_al0 d_Lr_readLine_81 ?_
          refine mx_getR d_Lr_readLine_82 fl_Lr_24 (by assumption) (by assumption) ?_
          refine mx_cV0vR d_Lr_readLine_85 (c_Te_nextR hTe hs.tok hs.cur (tK_T (by rw [show tK f L p.2 = 32 from c_78]; omega))) ok_Te_next ml_Lr_63 (by assumption) ⟨rfl, rfl⟩ (by decide) (Nat.le_of_ble_eq_true rfl) (fun K3 hK3 => ?_)
          have hs := hs.tk hK3 hsep
          refine mx_al0 d_Lr_readLine_88 ?_
          refine mx_in_0 d_Lr_readLine_89 ?_
          refine mx_cV1iR d_Lr_readLine_90 (c_Lr_cond hLr hTe 6 (by omega) _ _ _ hs.self (by omega)) ok_Lr_readCondition ml_Lr_70 (by assumption) ⟨rfl, rfl⟩ (by decide) (Nat.le_of_ble_eq_true rfl) (fun K4 hK4 => ?_)
          refine mx_ifB_ne 98 d_Lr_readLine_93 (by decide) (fun c_93 => ?_) (fun c_93 => ?_)
          · skip
            obtain ⟨q, hq0⟩ := gq_ok_t c_93
            rw [hq0] at hK4
            have hs := hs.tr hK4
            have hq : gq_LN (tK f L) (tV f L) s c = _ := gq_LN_ok (gq_line_y h3 ham ((if_pos c_78).trans hq0))
            refine mx_al0 d_Lr_readLine_98 ?_
            have hl1 := (hs.1.2.2 1 (by omega)).trans hs0.2.2.2.2.1
            refine mx_getR d_Lr_readLine_99 fl_Lr_9 (by assumption) (by assumption) ?_
            refine mx_al0 d_Lr_readLine_102 ?_
            refine mx_getI d_Lr_readLine_103 fl_Lr_30 (by assumption) ?_
            refine mx_ti (y := nI (s.length)) (hl1) ?_
            refine mx_il1 d_Lr_readLine_106 ?_
            refine mx_cSN3v d_Lr_readLine_107 (c_put (k := s.length) (by assumption) (by omega) (by omega)) ok_Vh_put ml_Lr_73 (by decide) (Nat.le_of_ble_eq_true rfl) ?_
            refine mx_al0 d_Lr_readLine_110 ?_
            refine mx_getR d_Lr_readLine_111 fl_Lr_15 (by assumption) (by assumption) ?_
            refine mx_al0 d_Lr_readLine_114 ?_
            refine mx_getI d_Lr_readLine_115 fl_Lr_30 (by assumption) ?_
            refine mx_ti (y := nI (s.length)) ((by simp [mx_up, hl1])) ?_
            refine mx_il2 d_Lr_readLine_118 ?_
            refine mx_cSN3v d_Lr_readLine_119 (c_put (k := s.length) (by assumption) (by omega) (by omega)) ok_Vh_put ml_Lr_73 (by decide) (Nat.le_of_ble_eq_true rfl) ?_
            refine mx_al0 d_Lr_readLine_122 ?_
            refine mx_getR d_Lr_readLine_123 fl_Lr_18 (by assumption) (by assumption) ?_
            refine mx_al0 d_Lr_readLine_126 ?_
            refine mx_getI d_Lr_readLine_127 fl_Lr_30 (by assumption) ?_
            refine mx_ti (y := nI (s.length)) ((by simp [mx_up, hl1])) ?_
            refine mx_al0 d_Lr_readLine_130 ?_
            refine mx_getI d_Lr_readLine_131 fl_Lr_38 (by assumption) ?_
            refine mx_ti (y := nI ((gq_co s ++ q.1).length)) ((by simp [mx_up, hs.sz])) ?_
            refine mx_cSN3v d_Lr_readLine_134 (c_put (k := s.length) (by assumption) (by omega) (by omega)) ok_Vh_put ml_Lr_73 (by decide) (Nat.le_of_ble_eq_true rfl) ?_
            refine mx_al0 d_Lr_readLine_137 ?_
            refine mx_dup d_Lr_readLine_138 rfl ?_
            refine mx_getI d_Lr_readLine_139 fl_Lr_30 (by assumption) ?_
            refine mx_ti (y := nI (s.length)) ((by simp [mx_up, hl1])) ?_
            refine mx_in_1 d_Lr_readLine_142 ?_
            refine mx_iaddN d_Lr_readLine_143 ?_
            refine mx_putI d_Lr_readLine_144 fl_Lr_30 (by assumption) ?_
            refine mx_in_1 d_Lr_readLine_147 ?_
            exact mx_zret d_Lr_readLine_148 rfl (by first | exact Or.inl rfl | exact Or.inr rfl) (mx_sR_i (by rw [hq]; rfl) (by rw [hq, hpv]; exact ll_end hs0 hs hsep))
          · skip
            obtain ⟨b, hb⟩ := gq_ok_f c_93
            rw [hb] at hK4
            have hbad := hs.trb hK4
            have hq : gq_LN (tK f L) (tV f L) s c = .inl b := gq_LN_bad (gq_line_i h3 ham ((if_pos c_78).trans hb))
            refine mx_in_0 d_Lr_readLine_96 ?_
            exact mx_zret d_Lr_readLine_97 rfl (by first | exact Or.inl rfl | exact Or.inr rfl) (mx_sR_i (by rw [hq]; rfl) (by rw [hq]; exact ⟨hbad.1.ll, hbad.2.1⟩))
      · skip
        obtain ⟨e0, hq0⟩ := gq_vl_n c_64 (fun q hq => by have := ((gq_num_go (tK0 rfl)).1 q hq).2.2.1; omega)
        have hq : gq_LN (tK f L) (tV f L) s c = .inl e0 := gq_LN_bad (gq_line_a h3 (ham.trans hq0))
        rw [hq0] at hK2
        have hK2 : tk_out K1 K2 te f L (.inl e0) := hK2
        have hbad := hs.bad hK2 hsep (Nat.le_refl _)
        refine mx_in_0 d_Lr_readLine_67 ?_
        exact mx_zret d_Lr_readLine_68 rfl (by first | exact Or.inl rfl | exact Or.inr rfl) (mx_sR_i (by rw [hq]; rfl) (by rw [hq]; exact ⟨hbad.1.ll, hbad.2.1⟩))
    · skip
      obtain ⟨p, hp0⟩ : ∃ p : Nat × Nat, p = (0, c + 1) := ⟨_, rfl⟩
      have ham : gq_am (tK f L) (tV f L) c = .inr p := (if_pos c_44).trans (congrArg Sum.inr hp0.symm)
      have hpv : nI 0 = nI p.1 := by rw [hp0]
      have hp2 : c + 1 = p.2 := by rw [hp0]
      rw [hp2] at hs
      refine mx_in_0 d_Lr_readLine_47 ?_
      refine mx_goto 61 d_Lr_readLine_48 (by decide) ?_
      refine mx_is2 d_Lr_readLine_61 ?_
      refine mx_il2 d_Lr_readLine_62 ?_
      refine mx_ic_m1 d_Lr_readLine_63 ?_
      refine mx_icmp_ne 69 d_Lr_readLine_64 (by decide) (fun c_64 => ?_) (fun c_64 => absurd c_64 (by decide))
      have hpB := (gq_am_go (tK0 rfl) h3).1 p ham
      have hTT := hs.cur.2.2
      have hk37 := tq_k_lt f L (tq_b f L p.2)
      refine mx_al0 d_Lr_readLine_69 ?_
      refine mx_getR d_Lr_readLine_70 fl_Lr_24 (by assumption) (by assumption) ?_
      refine mx_getI d_Lr_readLine_73 fl_Lr_49 (by assumption) ?_
      refine mx_ti (y := nI (tq_k f L (tq_b f L (p.2)))) (hs.cur.2.1) ?_
      refine mx_bip 32 d_Lr_readLine_76 (by decide) ?_
      refine mx_icN_ne 98 d_Lr_readLine_78 (by decide) (by omega) (by omega) (fun c_78 => ?_) (fun c_78 => ?_)
      · skip
        obtain ⟨q, hq0⟩ : ∃ q : List Int32 × Nat, q = ([], p.2) := ⟨_, rfl⟩
        have hq : gq_LN (tK f L) (tV f L) s c = _ := gq_LN_ok (gq_line_y h3 ham ((if_neg c_78).trans (congrArg Sum.inr hq0.symm)))
        have e9 : gq_co s = gq_co s ++ q.1 := by rw [hq0, List.append_nil]
        have e8 : p.2 = q.2 := by rw [hq0]
        rw [e9, e8] at hs
        refine mx_al0 d_Lr_readLine_98 ?_
        have hl1 := (hs.1.2.2 1 (by omega)).trans hs0.2.2.2.2.1
        refine mx_getR d_Lr_readLine_99 fl_Lr_9 (by assumption) (by assumption) ?_
        refine mx_al0 d_Lr_readLine_102 ?_
        refine mx_getI d_Lr_readLine_103 fl_Lr_30 (by assumption) ?_
        refine mx_ti (y := nI (s.length)) (hl1) ?_
        refine mx_il1 d_Lr_readLine_106 ?_
        refine mx_cSN3v d_Lr_readLine_107 (c_put (k := s.length) (by assumption) (by omega) (by omega)) ok_Vh_put ml_Lr_73 (by decide) (Nat.le_of_ble_eq_true rfl) ?_
        refine mx_al0 d_Lr_readLine_110 ?_
        refine mx_getR d_Lr_readLine_111 fl_Lr_15 (by assumption) (by assumption) ?_
        refine mx_al0 d_Lr_readLine_114 ?_
        refine mx_getI d_Lr_readLine_115 fl_Lr_30 (by assumption) ?_
        refine mx_ti (y := nI (s.length)) ((by simp [mx_up, hl1])) ?_
        refine mx_il2 d_Lr_readLine_118 ?_
        refine mx_cSN3v d_Lr_readLine_119 (c_put (k := s.length) (by assumption) (by omega) (by omega)) ok_Vh_put ml_Lr_73 (by decide) (Nat.le_of_ble_eq_true rfl) ?_
        refine mx_al0 d_Lr_readLine_122 ?_
        refine mx_getR d_Lr_readLine_123 fl_Lr_18 (by assumption) (by assumption) ?_
        refine mx_al0 d_Lr_readLine_126 ?_
        refine mx_getI d_Lr_readLine_127 fl_Lr_30 (by assumption) ?_
        refine mx_ti (y := nI (s.length)) ((by simp [mx_up, hl1])) ?_
        refine mx_al0 d_Lr_readLine_130 ?_
        refine mx_getI d_Lr_readLine_131 fl_Lr_38 (by assumption) ?_
        refine mx_ti (y := nI ((gq_co s ++ q.1).length)) ((by simp [mx_up, hs.sz])) ?_
        refine mx_cSN3v d_Lr_readLine_134 (c_put (k := s.length) (by assumption) (by omega) (by omega)) ok_Vh_put ml_Lr_73 (by decide) (Nat.le_of_ble_eq_true rfl) ?_
        refine mx_al0 d_Lr_readLine_137 ?_
        refine mx_dup d_Lr_readLine_138 rfl ?_
        refine mx_getI d_Lr_readLine_139 fl_Lr_30 (by assumption) ?_
        refine mx_ti (y := nI (s.length)) ((by simp [mx_up, hl1])) ?_
        refine mx_in_1 d_Lr_readLine_142 ?_
        refine mx_iaddN d_Lr_readLine_143 ?_
        refine mx_putI d_Lr_readLine_144 fl_Lr_30 (by assumption) ?_
        refine mx_in_1 d_Lr_readLine_147 ?_
        exact mx_zret d_Lr_readLine_148 rfl (by first | exact Or.inl rfl | exact Or.inr rfl) (mx_sR_i (by rw [hq]; rfl) (by rw [hq, hpv]; exact ll_end hs0 hs hsep))
      · skip
        refine mx_al0 d_Lr_readLine_81 ?_
        refine mx_getR d_Lr_readLine_82 fl_Lr_24 (by assumption) (by assumption) ?_
        refine mx_cV0vR d_Lr_readLine_85 (c_Te_nextR hTe hs.tok hs.cur (tK_T (by rw [show tK f L p.2 = 32 from c_78]; omega))) ok_Te_next ml_Lr_63 (by assumption) ⟨rfl, rfl⟩ (by decide) (Nat.le_of_ble_eq_true rfl) (fun K3 hK3 => ?_)
        have hs := hs.tk hK3 hsep
        refine mx_al0 d_Lr_readLine_88 ?_
        refine mx_in_0 d_Lr_readLine_89 ?_
        refine mx_cV1iR d_Lr_readLine_90 (c_Lr_cond hLr hTe 6 (by omega) _ _ _ hs.self (by omega)) ok_Lr_readCondition ml_Lr_70 (by assumption) ⟨rfl, rfl⟩ (by decide) (Nat.le_of_ble_eq_true rfl) (fun K4 hK4 => ?_)
        refine mx_ifB_ne 98 d_Lr_readLine_93 (by decide) (fun c_93 => ?_) (fun c_93 => ?_)
        · skip
          obtain ⟨q, hq0⟩ := gq_ok_t c_93
          rw [hq0] at hK4
          have hs := hs.tr hK4
          have hq : gq_LN (tK f L) (tV f L) s c = _ := gq_LN_ok (gq_line_y h3 ham ((if_pos c_78).trans hq0))
          refine mx_al0 d_Lr_readLine_98 ?_
          have hl1 := (hs.1.2.2 1 (by omega)).trans hs0.2.2.2.2.1
          refine mx_getR d_Lr_readLine_99 fl_Lr_9 (by assumption) (by assumption) ?_
          refine mx_al0 d_Lr_readLine_102 ?_
          refine mx_getI d_Lr_readLine_103 fl_Lr_30 (by assumption) ?_
          refine mx_ti (y := nI (s.length)) (hl1) ?_
          refine mx_il1 d_Lr_readLine_106 ?_
          refine mx_cSN3v d_Lr_readLine_107 (c_put (k := s.length) (by assumption) (by omega) (by omega)) ok_Vh_put ml_Lr_73 (by decide) (Nat.le_of_ble_eq_true rfl) ?_
          refine mx_al0 d_Lr_readLine_110 ?_
          refine mx_getR d_Lr_readLine_111 fl_Lr_15 (by assumption) (by assumption) ?_
          refine mx_al0 d_Lr_readLine_114 ?_
          refine mx_getI d_Lr_readLine_115 fl_Lr_30 (by assumption) ?_
          refine mx_ti (y := nI (s.length)) ((by simp [mx_up, hl1])) ?_
          refine mx_il2 d_Lr_readLine_118 ?_
          refine mx_cSN3v d_Lr_readLine_119 (c_put (k := s.length) (by assumption) (by omega) (by omega)) ok_Vh_put ml_Lr_73 (by decide) (Nat.le_of_ble_eq_true rfl) ?_
          refine mx_al0 d_Lr_readLine_122 ?_
          refine mx_getR d_Lr_readLine_123 fl_Lr_18 (by assumption) (by assumption) ?_
          refine mx_al0 d_Lr_readLine_126 ?_
          refine mx_getI d_Lr_readLine_127 fl_Lr_30 (by assumption) ?_
          refine mx_ti (y := nI (s.length)) ((by simp [mx_up, hl1])) ?_
          refine mx_al0 d_Lr_readLine_130 ?_
          refine mx_getI d_Lr_readLine_131 fl_Lr_38 (by assumption) ?_
          refine mx_ti (y := nI ((gq_co s ++ q.1).length)) ((by simp [mx_up, hs.sz])) ?_
          refine mx_cSN3v d_Lr_readLine_134 (c_put (k := s.length) (by assumption) (by omega) (by omega)) ok_Vh_put ml_Lr_73 (by decide) (Nat.le_of_ble_eq_true rfl) ?_
          refine mx_al0 d_Lr_readLine_137 ?_
          refine mx_dup d_Lr_readLine_138 rfl ?_
          refine mx_getI d_Lr_readLine_139 fl_Lr_30 (by assumption) ?_
          refine mx_ti (y := nI (s.length)) ((by simp [mx_up, hl1])) ?_
          refine mx_in_1 d_Lr_readLine_142 ?_
          refine mx_iaddN d_Lr_readLine_143 ?_
          refine mx_putI d_Lr_readLine_144 fl_Lr_30 (by assumption) ?_
          refine mx_in_1 d_Lr_readLine_147 ?_
          exact mx_zret d_Lr_readLine_148 rfl (by first | exact Or.inl rfl | exact Or.inr rfl) (mx_sR_i (by rw [hq]; rfl) (by rw [hq, hpv]; exact ll_end hs0 hs hsep))
        · skip
          obtain ⟨b, hb⟩ := gq_ok_f c_93
          rw [hb] at hK4
          have hbad := hs.trb hK4
          have hq : gq_LN (tK f L) (tV f L) s c = .inl b := gq_LN_bad (gq_line_i h3 ham ((if_pos c_78).trans hb))
          refine mx_in_0 d_Lr_readLine_96 ?_
          exact mx_zret d_Lr_readLine_97 rfl (by first | exact Or.inl rfl | exact Or.inr rfl) (mx_sR_i (by rw [hq]; rfl) (by rw [hq]; exact ⟨hbad.1.ll, hbad.2.1⟩))
  · skip
    refine mx_il1 d_Lr_readLine_14 ?_
    refine mx_bip 30 d_Lr_readLine_15 (by decide) ?_
    refine mx_icN_eq 34 d_Lr_readLine_17 (by decide) (by omega) (by omega) (fun c_17 => ?_) (fun c_17 => ?_)
    · skip
      have h3 : tK f L c = 29 ∨ tK f L c = 30 ∨ tK f L c = 31 := Or.inr (Or.inl c_17)
      refine mx_al0 d_Lr_readLine_34 ?_
      refine mx_getR d_Lr_readLine_35 fl_Lr_24 (by assumption) (by assumption) ?_
      refine mx_cV0vR d_Lr_readLine_38 (c_Te_nextR hTe hs.tok hs.cur (tK_T (by show ¬ tq_k f L (tq_b f L c) = 0; omega))) ok_Te_next ml_Lr_63 (by assumption) ⟨rfl, rfl⟩ (by decide) (Nat.le_of_ble_eq_true rfl) (fun K1 hK1 => ?_)
      have hs := hs.tk hK1 hsep
      refine mx_il1 d_Lr_readLine_41 ?_
      refine mx_bip 31 d_Lr_readLine_42 (by decide) ?_
      refine mx_icN_ne 51 d_Lr_readLine_44 (by decide) (by omega) (by omega) (fun c_44 => ?_) (fun c_44 => ?_)
      · skip
        have ham : gq_am (tK f L) (tV f L) c = gq_num (tK f L) (tV f L) 0 100 (c + 1) := if_neg c_44
        refine mx_al0 d_Lr_readLine_51 ?_
        refine mx_getR d_Lr_readLine_52 fl_Lr_24 (by assumption) (by assumption) ?_
        refine mx_in_0 d_Lr_readLine_55 ?_
        refine mx_bip 99 d_Lr_readLine_56 (by decide) ?_
        refine mx_cV2iR d_Lr_readLine_58 (c_Te_number hTe hs.tok hs.cur (lo := 0) (hb := 100) (by omega) (fun v hv => h99 v (by omega))) ok_Te_number ml_Lr_66 (by assumption) ⟨rfl, rfl⟩ (by decide) (Nat.le_of_ble_eq_true rfl) (fun K2 hK2 => ?_)
        refine mx_is2 d_Lr_readLine_61 ?_
        refine mx_il2 d_Lr_readLine_62 ?_
        refine mx_ic_m1 d_Lr_readLine_63 ?_
        refine mx_icmp_ne 69 d_Lr_readLine_64 (by decide) (fun c_64 => ?_) (fun c_64 => ?_)
        · skip
          obtain ⟨p, hq0, hpv⟩ := gq_vl_y c_64
          have ham := ham.trans hq0
          rw [hq0] at hK2
          have hK2 : tk_out K1 K2 te f L (.inr p.2) := hK2
          have hs := hs.tk hK2 hsep
          have hpB := (gq_am_go (tK0 rfl) h3).1 p ham
          have hTT := hs.cur.2.2
          have hk37 := tq_k_lt f L (tq_b f L p.2)
          refine mx_al0 d_Lr_readLine_69 ?_
          refine mx_getR d_Lr_readLine_70 fl_Lr_24 (by assumption) (by assumption) ?_
          refine mx_getI d_Lr_readLine_73 fl_Lr_49 (by assumption) ?_
          refine mx_ti (y := nI (tq_k f L (tq_b f L (p.2)))) (hs.cur.2.1) ?_
          refine mx_bip 32 d_Lr_readLine_76 (by decide) ?_
          refine mx_icN_ne 98 d_Lr_readLine_78 (by decide) (by omega) (by omega) (fun c_78 => ?_) (fun c_78 => ?_)
          · skip
            obtain ⟨q, hq0⟩ : ∃ q : List Int32 × Nat, q = ([], p.2) := ⟨_, rfl⟩
            have hq : gq_LN (tK f L) (tV f L) s c = _ := gq_LN_ok (gq_line_y h3 ham ((if_neg c_78).trans (congrArg Sum.inr hq0.symm)))
            have e9 : gq_co s = gq_co s ++ q.1 := by rw [hq0, List.append_nil]
            have e8 : p.2 = q.2 := by rw [hq0]
            rw [e9, e8] at hs
            refine mx_al0 d_Lr_readLine_98 ?_
            have hl1 := (hs.1.2.2 1 (by omega)).trans hs0.2.2.2.2.1
            refine mx_getR d_Lr_readLine_99 fl_Lr_9 (by assumption) (by assumption) ?_
            refine mx_al0 d_Lr_readLine_102 ?_
            refine mx_getI d_Lr_readLine_103 fl_Lr_30 (by assumption) ?_
            refine mx_ti (y := nI (s.length)) (hl1) ?_
            refine mx_il1 d_Lr_readLine_106 ?_
            refine mx_cSN3v d_Lr_readLine_107 (c_put (k := s.length) (by assumption) (by omega) (by omega)) ok_Vh_put ml_Lr_73 (by decide) (Nat.le_of_ble_eq_true rfl) ?_
            refine mx_al0 d_Lr_readLine_110 ?_
            refine mx_getR d_Lr_readLine_111 fl_Lr_15 (by assumption) (by assumption) ?_
            refine mx_al0 d_Lr_readLine_114 ?_
            refine mx_getI d_Lr_readLine_115 fl_Lr_30 (by assumption) ?_
            refine mx_ti (y := nI (s.length)) ((by simp [mx_up, hl1])) ?_
            refine mx_il2 d_Lr_readLine_118 ?_
            refine mx_cSN3v d_Lr_readLine_119 (c_put (k := s.length) (by assumption) (by omega) (by omega)) ok_Vh_put ml_Lr_73 (by decide) (Nat.le_of_ble_eq_true rfl) ?_
            refine mx_al0 d_Lr_readLine_122 ?_
            refine mx_getR d_Lr_readLine_123 fl_Lr_18 (by assumption) (by assumption) ?_
            refine mx_al0 d_Lr_readLine_126 ?_
            refine mx_getI d_Lr_readLine_127 fl_Lr_30 (by assumption) ?_
            refine mx_ti (y := nI (s.length)) ((by simp [mx_up, hl1])) ?_
            refine mx_al0 d_Lr_readLine_130 ?_
            refine mx_getI d_Lr_readLine_131 fl_Lr_38 (by assumption) ?_
            refine mx_ti (y := nI ((gq_co s ++ q.1).length)) ((by simp [mx_up, hs.sz])) ?_
            refine mx_cSN3v d_Lr_readLine_134 (c_put (k := s.length) (by assumption) (by omega) (by omega)) ok_Vh_put ml_Lr_73 (by decide) (Nat.le_of_ble_eq_true rfl) ?_
            refine mx_al0 d_Lr_readLine_137 ?_
            refine mx_dup d_Lr_readLine_138 rfl ?_
            refine mx_getI d_Lr_readLine_139 fl_Lr_30 (by assumption) ?_
            refine mx_ti (y := nI (s.length)) ((by simp [mx_up, hl1])) ?_
            refine mx_in_1 d_Lr_readLine_142 ?_
            refine mx_iaddN d_Lr_readLine_143 ?_
            refine mx_putI d_Lr_readLine_144 fl_Lr_30 (by assumption) ?_
            refine mx_in_1 d_Lr_readLine_147 ?_
            exact mx_zret d_Lr_readLine_148 rfl (by first | exact Or.inl rfl | exact Or.inr rfl) (mx_sR_i (by rw [hq]; rfl) (by rw [hq, hpv]; exact ll_end hs0 hs hsep))
          · skip
            refine mx_al0 d_Lr_readLine_81 ?_
            refine mx_getR d_Lr_readLine_82 fl_Lr_24 (by assumption) (by assumption) ?_
            refine mx_cV0vR d_Lr_readLine_85 (c_Te_nextR hTe hs.tok hs.cur (tK_T (by rw [show tK f L p.2 = 32 from c_78]; omega))) ok_Te_next ml_Lr_63 (by assumption) ⟨rfl, rfl⟩ (by decide) (Nat.le_of_ble_eq_true rfl) (fun K3 hK3 => ?_)
            have hs := hs.tk hK3 hsep
            refine mx_al0 d_Lr_readLine_88 ?_
            refine mx_in_0 d_Lr_readLine_89 ?_
            refine mx_cV1iR d_Lr_readLine_90 (c_Lr_cond hLr hTe 6 (by omega) _ _ _ hs.self (by omega)) ok_Lr_readCondition ml_Lr_70 (by assumption) ⟨rfl, rfl⟩ (by decide) (Nat.le_of_ble_eq_true rfl) (fun K4 hK4 => ?_)
            refine mx_ifB_ne 98 d_Lr_readLine_93 (by decide) (fun c_93 => ?_) (fun c_93 => ?_)
            · skip
              obtain ⟨q, hq0⟩ := gq_ok_t c_93
              rw [hq0] at hK4
              have hs := hs.tr hK4
              have hq : gq_LN (tK f L) (tV f L) s c = _ := gq_LN_ok (gq_line_y h3 ham ((if_pos c_78).trans hq0))
              refine mx_al0 d_Lr_readLine_98 ?_
              have hl1 := (hs.1.2.2 1 (by omega)).trans hs0.2.2.2.2.1
              refine mx_getR d_Lr_readLine_99 fl_Lr_9 (by assumption) (by assumption) ?_
              refine mx_al0 d_Lr_readLine_102 ?_
              refine mx_getI d_Lr_readLine_103 fl_Lr_30 (by assumption) ?_
              refine mx_ti (y := nI (s.length)) (hl1) ?_
              refine mx_il1 d_Lr_readLine_106 ?_
              refine mx_cSN3v d_Lr_readLine_107 (c_put (k := s.length) (by assumption) (by omega) (by omega)) ok_Vh_put ml_Lr_73 (by decide) (Nat.le_of_ble_eq_true rfl) ?_
              refine mx_al0 d_Lr_readLine_110 ?_
              refine mx_getR d_Lr_readLine_111 fl_Lr_15 (by assumption) (by assumption) ?_
              refine mx_al0 d_Lr_readLine_114 ?_
              refine mx_getI d_Lr_readLine_115 fl_Lr_30 (by assumption) ?_
              refine mx_ti (y := nI (s.length)) ((by simp [mx_up, hl1])) ?_
              refine mx_il2 d_Lr_readLine_118 ?_
              refine mx_cSN3v d_Lr_readLine_119 (c_put (k := s.length) (by assumption) (by omega) (by omega)) ok_Vh_put ml_Lr_73 (by decide) (Nat.le_of_ble_eq_true rfl) ?_
              refine mx_al0 d_Lr_readLine_122 ?_
              refine mx_getR d_Lr_readLine_123 fl_Lr_18 (by assumption) (by assumption) ?_
              refine mx_al0 d_Lr_readLine_126 ?_
              refine mx_getI d_Lr_readLine_127 fl_Lr_30 (by assumption) ?_
              refine mx_ti (y := nI (s.length)) ((by simp [mx_up, hl1])) ?_
              refine mx_al0 d_Lr_readLine_130 ?_
              refine mx_getI d_Lr_readLine_131 fl_Lr_38 (by assumption) ?_
              refine mx_ti (y := nI ((gq_co s ++ q.1).length)) ((by simp [mx_up, hs.sz])) ?_
              refine mx_cSN3v d_Lr_readLine_134 (c_put (k := s.length) (by assumption) (by omega) (by omega)) ok_Vh_put ml_Lr_73 (by decide) (Nat.le_of_ble_eq_true rfl) ?_
              refine mx_al0 d_Lr_readLine_137 ?_
              refine mx_dup d_Lr_readLine_138 rfl ?_
              refine mx_getI d_Lr_readLine_139 fl_Lr_30 (by assumption) ?_
              refine mx_ti (y := nI (s.length)) ((by simp [mx_up, hl1])) ?_
              refine mx_in_1 d_Lr_readLine_142 ?_
              refine mx_iaddN d_Lr_readLine_143 ?_
              refine mx_putI d_Lr_readLine_144 fl_Lr_30 (by assumption) ?_
              refine mx_in_1 d_Lr_readLine_147 ?_
              exact mx_zret d_Lr_readLine_148 rfl (by first | exact Or.inl rfl | exact Or.inr rfl) (mx_sR_i (by rw [hq]; rfl) (by rw [hq, hpv]; exact ll_end hs0 hs hsep))
            · skip
              obtain ⟨b, hb⟩ := gq_ok_f c_93
              rw [hb] at hK4
              have hbad := hs.trb hK4
              have hq : gq_LN (tK f L) (tV f L) s c = .inl b := gq_LN_bad (gq_line_i h3 ham ((if_pos c_78).trans hb))
              refine mx_in_0 d_Lr_readLine_96 ?_
              exact mx_zret d_Lr_readLine_97 rfl (by first | exact Or.inl rfl | exact Or.inr rfl) (mx_sR_i (by rw [hq]; rfl) (by rw [hq]; exact ⟨hbad.1.ll, hbad.2.1⟩))
        · skip
          obtain ⟨e0, hq0⟩ := gq_vl_n c_64 (fun q hq => by have := ((gq_num_go (tK0 rfl)).1 q hq).2.2.1; omega)
          have hq : gq_LN (tK f L) (tV f L) s c = .inl e0 := gq_LN_bad (gq_line_a h3 (ham.trans hq0))
          rw [hq0] at hK2
          have hK2 : tk_out K1 K2 te f L (.inl e0) := hK2
          have hbad := hs.bad hK2 hsep (Nat.le_refl _)
          refine mx_in_0 d_Lr_readLine_67 ?_
          exact mx_zret d_Lr_readLine_68 rfl (by first | exact Or.inl rfl | exact Or.inr rfl) (mx_sR_i (by rw [hq]; rfl) (by rw [hq]; exact ⟨hbad.1.ll, hbad.2.1⟩))
      · skip
        obtain ⟨p, hp0⟩ : ∃ p : Nat × Nat, p = (0, c + 1) := ⟨_, rfl⟩
        have ham : gq_am (tK f L) (tV f L) c = .inr p := (if_pos c_44).trans (congrArg Sum.inr hp0.symm)
        have hpv : nI 0 = nI p.1 := by rw [hp0]
        have hp2 : c + 1 = p.2 := by rw [hp0]
        rw [hp2] at hs
        refine mx_in_0 d_Lr_readLine_47 ?_
        refine mx_goto 61 d_Lr_readLine_48 (by decide) ?_
        refine mx_is2 d_Lr_readLine_61 ?_
        refine mx_il2 d_Lr_readLine_62 ?_
        refine mx_ic_m1 d_Lr_readLine_63 ?_
        refine mx_icmp_ne 69 d_Lr_readLine_64 (by decide) (fun c_64 => ?_) (fun c_64 => absurd c_64 (by decide))
        have hpB := (gq_am_go (tK0 rfl) h3).1 p ham
        have hTT := hs.cur.2.2
        have hk37 := tq_k_lt f L (tq_b f L p.2)
        refine mx_al0 d_Lr_readLine_69 ?_
        refine mx_getR d_Lr_readLine_70 fl_Lr_24 (by assumption) (by assumption) ?_
        refine mx_getI d_Lr_readLine_73 fl_Lr_49 (by assumption) ?_
        refine mx_ti (y := nI (tq_k f L (tq_b f L (p.2)))) (hs.cur.2.1) ?_
        refine mx_bip 32 d_Lr_readLine_76 (by decide) ?_
        refine mx_icN_ne 98 d_Lr_readLine_78 (by decide) (by omega) (by omega) (fun c_78 => ?_) (fun c_78 => ?_)
        · skip
          obtain ⟨q, hq0⟩ : ∃ q : List Int32 × Nat, q = ([], p.2) := ⟨_, rfl⟩
          have hq : gq_LN (tK f L) (tV f L) s c = _ := gq_LN_ok (gq_line_y h3 ham ((if_neg c_78).trans (congrArg Sum.inr hq0.symm)))
          have e9 : gq_co s = gq_co s ++ q.1 := by rw [hq0, List.append_nil]
          have e8 : p.2 = q.2 := by rw [hq0]
          rw [e9, e8] at hs
          refine mx_al0 d_Lr_readLine_98 ?_
          have hl1 := (hs.1.2.2 1 (by omega)).trans hs0.2.2.2.2.1
          refine mx_getR d_Lr_readLine_99 fl_Lr_9 (by assumption) (by assumption) ?_
          refine mx_al0 d_Lr_readLine_102 ?_
          refine mx_getI d_Lr_readLine_103 fl_Lr_30 (by assumption) ?_
          refine mx_ti (y := nI (s.length)) (hl1) ?_
          refine mx_il1 d_Lr_readLine_106 ?_
          refine mx_cSN3v d_Lr_readLine_107 (c_put (k := s.length) (by assumption) (by omega) (by omega)) ok_Vh_put ml_Lr_73 (by decide) (Nat.le_of_ble_eq_true rfl) ?_
          refine mx_al0 d_Lr_readLine_110 ?_
          refine mx_getR d_Lr_readLine_111 fl_Lr_15 (by assumption) (by assumption) ?_
          refine mx_al0 d_Lr_readLine_114 ?_
          refine mx_getI d_Lr_readLine_115 fl_Lr_30 (by assumption) ?_
          refine mx_ti (y := nI (s.length)) ((by simp [mx_up, hl1])) ?_
          refine mx_il2 d_Lr_readLine_118 ?_
          refine mx_cSN3v d_Lr_readLine_119 (c_put (k := s.length) (by assumption) (by omega) (by omega)) ok_Vh_put ml_Lr_73 (by decide) (Nat.le_of_ble_eq_true rfl) ?_
          refine mx_al0 d_Lr_readLine_122 ?_
          refine mx_getR d_Lr_readLine_123 fl_Lr_18 (by assumption) (by assumption) ?_
          refine mx_al0 d_Lr_readLine_126 ?_
          refine mx_getI d_Lr_readLine_127 fl_Lr_30 (by assumption) ?_
          refine mx_ti (y := nI (s.length)) ((by simp [mx_up, hl1])) ?_
          refine mx_al0 d_Lr_readLine_130 ?_
          refine mx_getI d_Lr_readLine_131 fl_Lr_38 (by assumption) ?_
          refine mx_ti (y := nI ((gq_co s ++ q.1).length)) ((by simp [mx_up, hs.sz])) ?_
          refine mx_cSN3v d_Lr_readLine_134 (c_put (k := s.length) (by assumption) (by omega) (by omega)) ok_Vh_put ml_Lr_73 (by decide) (Nat.le_of_ble_eq_true rfl) ?_
          refine mx_al0 d_Lr_readLine_137 ?_
          refine mx_dup d_Lr_readLine_138 rfl ?_
          refine mx_getI d_Lr_readLine_139 fl_Lr_30 (by assumption) ?_
          refine mx_ti (y := nI (s.length)) ((by simp [mx_up, hl1])) ?_
          refine mx_in_1 d_Lr_readLine_142 ?_
          refine mx_iaddN d_Lr_readLine_143 ?_
          refine mx_putI d_Lr_readLine_144 fl_Lr_30 (by assumption) ?_
          refine mx_in_1 d_Lr_readLine_147 ?_
          exact mx_zret d_Lr_readLine_148 rfl (by first | exact Or.inl rfl | exact Or.inr rfl) (mx_sR_i (by rw [hq]; rfl) (by rw [hq, hpv]; exact ll_end hs0 hs hsep))
        · skip
          refine mx_al0 d_Lr_readLine_81 ?_
          refine mx_getR d_Lr_readLine_82 fl_Lr_24 (by assumption) (by assumption) ?_
          refine mx_cV0vR d_Lr_readLine_85 (c_Te_nextR hTe hs.tok hs.cur (tK_T (by rw [show tK f L p.2 = 32 from c_78]; omega))) ok_Te_next ml_Lr_63 (by assumption) ⟨rfl, rfl⟩ (by decide) (Nat.le_of_ble_eq_true rfl) (fun K3 hK3 => ?_)
          have hs := hs.tk hK3 hsep
          refine mx_al0 d_Lr_readLine_88 ?_
          refine mx_in_0 d_Lr_readLine_89 ?_
          refine mx_cV1iR d_Lr_readLine_90 (c_Lr_cond hLr hTe 6 (by omega) _ _ _ hs.self (by omega)) ok_Lr_readCondition ml_Lr_70 (by assumption) ⟨rfl, rfl⟩ (by decide) (Nat.le_of_ble_eq_true rfl) (fun K4 hK4 => ?_)
          refine mx_ifB_ne 98 d_Lr_readLine_93 (by decide) (fun c_93 => ?_) (fun c_93 => ?_)
          · skip
            obtain ⟨q, hq0⟩ := gq_ok_t c_93
            rw [hq0] at hK4
            have hs := hs.tr hK4
            have hq : gq_LN (tK f L) (tV f L) s c = _ := gq_LN_ok (gq_line_y h3 ham ((if_pos c_78).trans hq0))
            refine mx_al0 d_Lr_readLine_98 ?_
            have hl1 := (hs.1.2.2 1 (by omega)).trans hs0.2.2.2.2.1
            refine mx_getR d_Lr_readLine_99 fl_Lr_9 (by assumption) (by assumption) ?_
            refine mx_al0 d_Lr_readLine_102 ?_
            refine mx_getI d_Lr_readLine_103 fl_Lr_30 (by assumption) ?_
            refine mx_ti (y := nI (s.length)) (hl1) ?_
            refine mx_il1 d_Lr_readLine_106 ?_
            refine mx_cSN3v d_Lr_readLine_107 (c_put (k := s.length) (by assumption) (by omega) (by omega)) ok_Vh_put ml_Lr_73 (by decide) (Nat.le_of_ble_eq_true rfl) ?_
            refine mx_al0 d_Lr_readLine_110 ?_
            refine mx_getR d_Lr_readLine_111 fl_Lr_15 (by assumption) (by assumption) ?_
            refine mx_al0 d_Lr_readLine_114 ?_
            refine mx_getI d_Lr_readLine_115 fl_Lr_30 (by assumption) ?_
            refine mx_ti (y := nI (s.length)) ((by simp [mx_up, hl1])) ?_
            refine mx_il2 d_Lr_readLine_118 ?_
            refine mx_cSN3v d_Lr_readLine_119 (c_put (k := s.length) (by assumption) (by omega) (by omega)) ok_Vh_put ml_Lr_73 (by decide) (Nat.le_of_ble_eq_true rfl) ?_
            refine mx_al0 d_Lr_readLine_122 ?_
            refine mx_getR d_Lr_readLine_123 fl_Lr_18 (by assumption) (by assumption) ?_
            refine mx_al0 d_Lr_readLine_126 ?_
            refine mx_getI d_Lr_readLine_127 fl_Lr_30 (by assumption) ?_
            refine mx_ti (y := nI (s.length)) ((by simp [mx_up, hl1])) ?_
            refine mx_al0 d_Lr_readLine_130 ?_
            refine mx_getI d_Lr_readLine_131 fl_Lr_38 (by assumption) ?_
            refine mx_ti (y := nI ((gq_co s ++ q.1).length)) ((by simp [mx_up, hs.sz])) ?_
            refine mx_cSN3v d_Lr_readLine_134 (c_put (k := s.length) (by assumption) (by omega) (by omega)) ok_Vh_put ml_Lr_73 (by decide) (Nat.le_of_ble_eq_true rfl) ?_
            refine mx_al0 d_Lr_readLine_137 ?_
            refine mx_dup d_Lr_readLine_138 rfl ?_
            refine mx_getI d_Lr_readLine_139 fl_Lr_30 (by assumption) ?_
            refine mx_ti (y := nI (s.length)) ((by simp [mx_up, hl1])) ?_
            refine mx_in_1 d_Lr_readLine_142 ?_
            refine mx_iaddN d_Lr_readLine_143 ?_
            refine mx_putI d_Lr_readLine_144 fl_Lr_30 (by assumption) ?_
            refine mx_in_1 d_Lr_readLine_147 ?_
            exact mx_zret d_Lr_readLine_148 rfl (by first | exact Or.inl rfl | exact Or.inr rfl) (mx_sR_i (by rw [hq]; rfl) (by rw [hq, hpv]; exact ll_end hs0 hs hsep))
          · skip
            obtain ⟨b, hb⟩ := gq_ok_f c_93
            rw [hb] at hK4
            have hbad := hs.trb hK4
            have hq : gq_LN (tK f L) (tV f L) s c = .inl b := gq_LN_bad (gq_line_i h3 ham ((if_pos c_78).trans hb))
            refine mx_in_0 d_Lr_readLine_96 ?_
            exact mx_zret d_Lr_readLine_97 rfl (by first | exact Or.inl rfl | exact Or.inr rfl) (mx_sR_i (by rw [hq]; rfl) (by rw [hq]; exact ⟨hbad.1.ll, hbad.2.1⟩))
    · skip
      refine mx_il1 d_Lr_readLine_20 ?_
      refine mx_bip 31 d_Lr_readLine_21 (by decide) ?_
      refine mx_icN_eq 34 d_Lr_readLine_23 (by decide) (by omega) (by omega) (fun c_23 => ?_) (fun c_23 => ?_)
      · skip
        have h3 : tK f L c = 29 ∨ tK f L c = 30 ∨ tK f L c = 31 := Or.inr (Or.inr c_23)
        refine mx_al0 d_Lr_readLine_34 ?_
        refine mx_getR d_Lr_readLine_35 fl_Lr_24 (by assumption) (by assumption) ?_
        refine mx_cV0vR d_Lr_readLine_38 (c_Te_nextR hTe hs.tok hs.cur (tK_T (by show ¬ tq_k f L (tq_b f L c) = 0; omega))) ok_Te_next ml_Lr_63 (by assumption) ⟨rfl, rfl⟩ (by decide) (Nat.le_of_ble_eq_true rfl) (fun K1 hK1 => ?_)
        have hs := hs.tk hK1 hsep
        refine mx_il1 d_Lr_readLine_41 ?_
        refine mx_bip 31 d_Lr_readLine_42 (by decide) ?_
        refine mx_icN_ne 51 d_Lr_readLine_44 (by decide) (by omega) (by omega) (fun c_44 => ?_) (fun c_44 => ?_)
        · skip
          have ham : gq_am (tK f L) (tV f L) c = gq_num (tK f L) (tV f L) 0 100 (c + 1) := if_neg c_44
          refine mx_al0 d_Lr_readLine_51 ?_
          refine mx_getR d_Lr_readLine_52 fl_Lr_24 (by assumption) (by assumption) ?_
          refine mx_in_0 d_Lr_readLine_55 ?_
          refine mx_bip 99 d_Lr_readLine_56 (by decide) ?_
          refine mx_cV2iR d_Lr_readLine_58 (c_Te_number hTe hs.tok hs.cur (lo := 0) (hb := 100) (by omega) (fun v hv => h99 v (by omega))) ok_Te_number ml_Lr_66 (by assumption) ⟨rfl, rfl⟩ (by decide) (Nat.le_of_ble_eq_true rfl) (fun K2 hK2 => ?_)
          refine mx_is2 d_Lr_readLine_61 ?_
          refine mx_il2 d_Lr_readLine_62 ?_
          refine mx_ic_m1 d_Lr_readLine_63 ?_
          refine mx_icmp_ne 69 d_Lr_readLine_64 (by decide) (fun c_64 => ?_) (fun c_64 => ?_)
          · skip
            obtain ⟨p, hq0, hpv⟩ := gq_vl_y c_64
            have ham := ham.trans hq0
            rw [hq0] at hK2
            have hK2 : tk_out K1 K2 te f L (.inr p.2) := hK2
            have hs := hs.tk hK2 hsep
            have hpB := (gq_am_go (tK0 rfl) h3).1 p ham
            have hTT := hs.cur.2.2
            have hk37 := tq_k_lt f L (tq_b f L p.2)
            refine mx_al0 d_Lr_readLine_69 ?_
            refine mx_getR d_Lr_readLine_70 fl_Lr_24 (by assumption) (by assumption) ?_
            refine mx_getI d_Lr_readLine_73 fl_Lr_49 (by assumption) ?_
            refine mx_ti (y := nI (tq_k f L (tq_b f L (p.2)))) (hs.cur.2.1) ?_
            refine mx_bip 32 d_Lr_readLine_76 (by decide) ?_
            refine mx_icN_ne 98 d_Lr_readLine_78 (by decide) (by omega) (by omega) (fun c_78 => ?_) (fun c_78 => ?_)
            · skip
              obtain ⟨q, hq0⟩ : ∃ q : List Int32 × Nat, q = ([], p.2) := ⟨_, rfl⟩
              have hq : gq_LN (tK f L) (tV f L) s c = _ := gq_LN_ok (gq_line_y h3 ham ((if_neg c_78).trans (congrArg Sum.inr hq0.symm)))
              have e9 : gq_co s = gq_co s ++ q.1 := by rw [hq0, List.append_nil]
              have e8 : p.2 = q.2 := by rw [hq0]
              rw [e9, e8] at hs
              refine mx_al0 d_Lr_readLine_98 ?_
              have hl1 := (hs.1.2.2 1 (by omega)).trans hs0.2.2.2.2.1
              refine mx_getR d_Lr_readLine_99 fl_Lr_9 (by assumption) (by assumption) ?_
              refine mx_al0 d_Lr_readLine_102 ?_
              refine mx_getI d_Lr_readLine_103 fl_Lr_30 (by assumption) ?_
              refine mx_ti (y := nI (s.length)) (hl1) ?_
              refine mx_il1 d_Lr_readLine_106 ?_
              refine mx_cSN3v d_Lr_readLine_107 (c_put (k := s.length) (by assumption) (by omega) (by omega)) ok_Vh_put ml_Lr_73 (by decide) (Nat.le_of_ble_eq_true rfl) ?_
              refine mx_al0 d_Lr_readLine_110 ?_
              refine mx_getR d_Lr_readLine_111 fl_Lr_15 (by assumption) (by assumption) ?_
              refine mx_al0 d_Lr_readLine_114 ?_
              refine mx_getI d_Lr_readLine_115 fl_Lr_30 (by assumption) ?_
              refine mx_ti (y := nI (s.length)) ((by simp [mx_up, hl1])) ?_
              refine mx_il2 d_Lr_readLine_118 ?_
              refine mx_cSN3v d_Lr_readLine_119 (c_put (k := s.length) (by assumption) (by omega) (by omega)) ok_Vh_put ml_Lr_73 (by decide) (Nat.le_of_ble_eq_true rfl) ?_
              refine mx_al0 d_Lr_readLine_122 ?_
              refine mx_getR d_Lr_readLine_123 fl_Lr_18 (by assumption) (by assumption) ?_
              refine mx_al0 d_Lr_readLine_126 ?_
              refine mx_getI d_Lr_readLine_127 fl_Lr_30 (by assumption) ?_
              refine mx_ti (y := nI (s.length)) ((by simp [mx_up, hl1])) ?_
              refine mx_al0 d_Lr_readLine_130 ?_
              refine mx_getI d_Lr_readLine_131 fl_Lr_38 (by assumption) ?_
              refine mx_ti (y := nI ((gq_co s ++ q.1).length)) ((by simp [mx_up, hs.sz])) ?_
              refine mx_cSN3v d_Lr_readLine_134 (c_put (k := s.length) (by assumption) (by omega) (by omega)) ok_Vh_put ml_Lr_73 (by decide) (Nat.le_of_ble_eq_true rfl) ?_
              refine mx_al0 d_Lr_readLine_137 ?_
              refine mx_dup d_Lr_readLine_138 rfl ?_
              refine mx_getI d_Lr_readLine_139 fl_Lr_30 (by assumption) ?_
              refine mx_ti (y := nI (s.length)) ((by simp [mx_up, hl1])) ?_
              refine mx_in_1 d_Lr_readLine_142 ?_
              refine mx_iaddN d_Lr_readLine_143 ?_
              refine mx_putI d_Lr_readLine_144 fl_Lr_30 (by assumption) ?_
              refine mx_in_1 d_Lr_readLine_147 ?_
              exact mx_zret d_Lr_readLine_148 rfl (by first | exact Or.inl rfl | exact Or.inr rfl) (mx_sR_i (by rw [hq]; rfl) (by rw [hq, hpv]; exact ll_end hs0 hs hsep))
            · skip
              refine mx_al0 d_Lr_readLine_81 ?_
              refine mx_getR d_Lr_readLine_82 fl_Lr_24 (by assumption) (by assumption) ?_
              refine mx_cV0vR d_Lr_readLine_85 (c_Te_nextR hTe hs.tok hs.cur (tK_T (by rw [show tK f L p.2 = 32 from c_78]; omega))) ok_Te_next ml_Lr_63 (by assumption) ⟨rfl, rfl⟩ (by decide) (Nat.le_of_ble_eq_true rfl) (fun K3 hK3 => ?_)
              have hs := hs.tk hK3 hsep
              refine mx_al0 d_Lr_readLine_88 ?_
              refine mx_in_0 d_Lr_readLine_89 ?_
              refine mx_cV1iR d_Lr_readLine_90 (c_Lr_cond hLr hTe 6 (by omega) _ _ _ hs.self (by omega)) ok_Lr_readCondition ml_Lr_70 (by assumption) ⟨rfl, rfl⟩ (by decide) (Nat.le_of_ble_eq_true rfl) (fun K4 hK4 => ?_)
              refine mx_ifB_ne 98 d_Lr_readLine_93 (by decide) (fun c_93 => ?_) (fun c_93 => ?_)
              · skip
                obtain ⟨q, hq0⟩ := gq_ok_t c_93
                rw [hq0] at hK4
                have hs := hs.tr hK4
                have hq : gq_LN (tK f L) (tV f L) s c = _ := gq_LN_ok (gq_line_y h3 ham ((if_pos c_78).trans hq0))
                refine mx_al0 d_Lr_readLine_98 ?_
                have hl1 := (hs.1.2.2 1 (by omega)).trans hs0.2.2.2.2.1
                refine mx_getR d_Lr_readLine_99 fl_Lr_9 (by assumption) (by assumption) ?_
                refine mx_al0 d_Lr_readLine_102 ?_
                refine mx_getI d_Lr_readLine_103 fl_Lr_30 (by assumption) ?_
                refine mx_ti (y := nI (s.length)) (hl1) ?_
                refine mx_il1 d_Lr_readLine_106 ?_
                refine mx_cSN3v d_Lr_readLine_107 (c_put (k := s.length) (by assumption) (by omega) (by omega)) ok_Vh_put ml_Lr_73 (by decide) (Nat.le_of_ble_eq_true rfl) ?_
                refine mx_al0 d_Lr_readLine_110 ?_
                refine mx_getR d_Lr_readLine_111 fl_Lr_15 (by assumption) (by assumption) ?_
                refine mx_al0 d_Lr_readLine_114 ?_
                refine mx_getI d_Lr_readLine_115 fl_Lr_30 (by assumption) ?_
                refine mx_ti (y := nI (s.length)) ((by simp [mx_up, hl1])) ?_
                refine mx_il2 d_Lr_readLine_118 ?_
                refine mx_cSN3v d_Lr_readLine_119 (c_put (k := s.length) (by assumption) (by omega) (by omega)) ok_Vh_put ml_Lr_73 (by decide) (Nat.le_of_ble_eq_true rfl) ?_
                refine mx_al0 d_Lr_readLine_122 ?_
                refine mx_getR d_Lr_readLine_123 fl_Lr_18 (by assumption) (by assumption) ?_
                refine mx_al0 d_Lr_readLine_126 ?_
                refine mx_getI d_Lr_readLine_127 fl_Lr_30 (by assumption) ?_
                refine mx_ti (y := nI (s.length)) ((by simp [mx_up, hl1])) ?_
                refine mx_al0 d_Lr_readLine_130 ?_
                refine mx_getI d_Lr_readLine_131 fl_Lr_38 (by assumption) ?_
                refine mx_ti (y := nI ((gq_co s ++ q.1).length)) ((by simp [mx_up, hs.sz])) ?_
                refine mx_cSN3v d_Lr_readLine_134 (c_put (k := s.length) (by assumption) (by omega) (by omega)) ok_Vh_put ml_Lr_73 (by decide) (Nat.le_of_ble_eq_true rfl) ?_
                refine mx_al0 d_Lr_readLine_137 ?_
                refine mx_dup d_Lr_readLine_138 rfl ?_
                refine mx_getI d_Lr_readLine_139 fl_Lr_30 (by assumption) ?_
                refine mx_ti (y := nI (s.length)) ((by simp [mx_up, hl1])) ?_
                refine mx_in_1 d_Lr_readLine_142 ?_
                refine mx_iaddN d_Lr_readLine_143 ?_
                refine mx_putI d_Lr_readLine_144 fl_Lr_30 (by assumption) ?_
                refine mx_in_1 d_Lr_readLine_147 ?_
                exact mx_zret d_Lr_readLine_148 rfl (by first | exact Or.inl rfl | exact Or.inr rfl) (mx_sR_i (by rw [hq]; rfl) (by rw [hq, hpv]; exact ll_end hs0 hs hsep))
              · skip
                obtain ⟨b, hb⟩ := gq_ok_f c_93
                rw [hb] at hK4
                have hbad := hs.trb hK4
                have hq : gq_LN (tK f L) (tV f L) s c = .inl b := gq_LN_bad (gq_line_i h3 ham ((if_pos c_78).trans hb))
                refine mx_in_0 d_Lr_readLine_96 ?_
                exact mx_zret d_Lr_readLine_97 rfl (by first | exact Or.inl rfl | exact Or.inr rfl) (mx_sR_i (by rw [hq]; rfl) (by rw [hq]; exact ⟨hbad.1.ll, hbad.2.1⟩))
          · skip
            obtain ⟨e0, hq0⟩ := gq_vl_n c_64 (fun q hq => by have := ((gq_num_go (tK0 rfl)).1 q hq).2.2.1; omega)
            have hq : gq_LN (tK f L) (tV f L) s c = .inl e0 := gq_LN_bad (gq_line_a h3 (ham.trans hq0))
            rw [hq0] at hK2
            have hK2 : tk_out K1 K2 te f L (.inl e0) := hK2
            have hbad := hs.bad hK2 hsep (Nat.le_refl _)
            refine mx_in_0 d_Lr_readLine_67 ?_
            exact mx_zret d_Lr_readLine_68 rfl (by first | exact Or.inl rfl | exact Or.inr rfl) (mx_sR_i (by rw [hq]; rfl) (by rw [hq]; exact ⟨hbad.1.ll, hbad.2.1⟩))
        · skip
          obtain ⟨p, hp0⟩ : ∃ p : Nat × Nat, p = (0, c + 1) := ⟨_, rfl⟩
          have ham : gq_am (tK f L) (tV f L) c = .inr p := (if_pos c_44).trans (congrArg Sum.inr hp0.symm)
          have hpv : nI 0 = nI p.1 := by rw [hp0]
          have hp2 : c + 1 = p.2 := by rw [hp0]
          rw [hp2] at hs
          refine mx_in_0 d_Lr_readLine_47 ?_
          refine mx_goto 61 d_Lr_readLine_48 (by decide) ?_
          refine mx_is2 d_Lr_readLine_61 ?_
          refine mx_il2 d_Lr_readLine_62 ?_
          refine mx_ic_m1 d_Lr_readLine_63 ?_
          refine mx_icmp_ne 69 d_Lr_readLine_64 (by decide) (fun c_64 => ?_) (fun c_64 => absurd c_64 (by decide))
          have hpB := (gq_am_go (tK0 rfl) h3).1 p ham
          have hTT := hs.cur.2.2
          have hk37 := tq_k_lt f L (tq_b f L p.2)
          refine mx_al0 d_Lr_readLine_69 ?_
          refine mx_getR d_Lr_readLine_70 fl_Lr_24 (by assumption) (by assumption) ?_
          refine mx_getI d_Lr_readLine_73 fl_Lr_49 (by assumption) ?_
          refine mx_ti (y := nI (tq_k f L (tq_b f L (p.2)))) (hs.cur.2.1) ?_
          refine mx_bip 32 d_Lr_readLine_76 (by decide) ?_
          refine mx_icN_ne 98 d_Lr_readLine_78 (by decide) (by omega) (by omega) (fun c_78 => ?_) (fun c_78 => ?_)
          · skip
            obtain ⟨q, hq0⟩ : ∃ q : List Int32 × Nat, q = ([], p.2) := ⟨_, rfl⟩
            have hq : gq_LN (tK f L) (tV f L) s c = _ := gq_LN_ok (gq_line_y h3 ham ((if_neg c_78).trans (congrArg Sum.inr hq0.symm)))
            have e9 : gq_co s = gq_co s ++ q.1 := by rw [hq0, List.append_nil]
            have e8 : p.2 = q.2 := by rw [hq0]
            rw [e9, e8] at hs
            refine mx_al0 d_Lr_readLine_98 ?_
            have hl1 := (hs.1.2.2 1 (by omega)).trans hs0.2.2.2.2.1
            refine mx_getR d_Lr_readLine_99 fl_Lr_9 (by assumption) (by assumption) ?_
            refine mx_al0 d_Lr_readLine_102 ?_
            refine mx_getI d_Lr_readLine_103 fl_Lr_30 (by assumption) ?_
            refine mx_ti (y := nI (s.length)) (hl1) ?_
            refine mx_il1 d_Lr_readLine_106 ?_
            refine mx_cSN3v d_Lr_readLine_107 (c_put (k := s.length) (by assumption) (by omega) (by omega)) ok_Vh_put ml_Lr_73 (by decide) (Nat.le_of_ble_eq_true rfl) ?_
            refine mx_al0 d_Lr_readLine_110 ?_
            refine mx_getR d_Lr_readLine_111 fl_Lr_15 (by assumption) (by assumption) ?_
            refine mx_al0 d_Lr_readLine_114 ?_
            refine mx_getI d_Lr_readLine_115 fl_Lr_30 (by assumption) ?_
            refine mx_ti (y := nI (s.length)) ((by simp [mx_up, hl1])) ?_
            refine mx_il2 d_Lr_readLine_118 ?_
            refine mx_cSN3v d_Lr_readLine_119 (c_put (k := s.length) (by assumption) (by omega) (by omega)) ok_Vh_put ml_Lr_73 (by decide) (Nat.le_of_ble_eq_true rfl) ?_
            refine mx_al0 d_Lr_readLine_122 ?_
            refine mx_getR d_Lr_readLine_123 fl_Lr_18 (by assumption) (by assumption) ?_
            refine mx_al0 d_Lr_readLine_126 ?_
            refine mx_getI d_Lr_readLine_127 fl_Lr_30 (by assumption) ?_
            refine mx_ti (y := nI (s.length)) ((by simp [mx_up, hl1])) ?_
            refine mx_al0 d_Lr_readLine_130 ?_
            refine mx_getI d_Lr_readLine_131 fl_Lr_38 (by assumption) ?_
            refine mx_ti (y := nI ((gq_co s ++ q.1).length)) ((by simp [mx_up, hs.sz])) ?_
            refine mx_cSN3v d_Lr_readLine_134 (c_put (k := s.length) (by assumption) (by omega) (by omega)) ok_Vh_put ml_Lr_73 (by decide) (Nat.le_of_ble_eq_true rfl) ?_
            refine mx_al0 d_Lr_readLine_137 ?_
            refine mx_dup d_Lr_readLine_138 rfl ?_
            refine mx_getI d_Lr_readLine_139 fl_Lr_30 (by assumption) ?_
            refine mx_ti (y := nI (s.length)) ((by simp [mx_up, hl1])) ?_
            refine mx_in_1 d_Lr_readLine_142 ?_
            refine mx_iaddN d_Lr_readLine_143 ?_
            refine mx_putI d_Lr_readLine_144 fl_Lr_30 (by assumption) ?_
            refine mx_in_1 d_Lr_readLine_147 ?_
            exact mx_zret d_Lr_readLine_148 rfl (by first | exact Or.inl rfl | exact Or.inr rfl) (mx_sR_i (by rw [hq]; rfl) (by rw [hq, hpv]; exact ll_end hs0 hs hsep))
          · skip
            refine mx_al0 d_Lr_readLine_81 ?_
            refine mx_getR d_Lr_readLine_82 fl_Lr_24 (by assumption) (by assumption) ?_
            refine mx_cV0vR d_Lr_readLine_85 (c_Te_nextR hTe hs.tok hs.cur (tK_T (by rw [show tK f L p.2 = 32 from c_78]; omega))) ok_Te_next ml_Lr_63 (by assumption) ⟨rfl, rfl⟩ (by decide) (Nat.le_of_ble_eq_true rfl) (fun K3 hK3 => ?_)
            have hs := hs.tk hK3 hsep
            refine mx_al0 d_Lr_readLine_88 ?_
            refine mx_in_0 d_Lr_readLine_89 ?_
            refine mx_cV1iR d_Lr_readLine_90 (c_Lr_cond hLr hTe 6 (by omega) _ _ _ hs.self (by omega)) ok_Lr_readCondition ml_Lr_70 (by assumption) ⟨rfl, rfl⟩ (by decide) (Nat.le_of_ble_eq_true rfl) (fun K4 hK4 => ?_)
            refine mx_ifB_ne 98 d_Lr_readLine_93 (by decide) (fun c_93 => ?_) (fun c_93 => ?_)
            · skip
              obtain ⟨q, hq0⟩ := gq_ok_t c_93
              rw [hq0] at hK4
              have hs := hs.tr hK4
              have hq : gq_LN (tK f L) (tV f L) s c = _ := gq_LN_ok (gq_line_y h3 ham ((if_pos c_78).trans hq0))
              refine mx_al0 d_Lr_readLine_98 ?_
              have hl1 := (hs.1.2.2 1 (by omega)).trans hs0.2.2.2.2.1
              refine mx_getR d_Lr_readLine_99 fl_Lr_9 (by assumption) (by assumption) ?_
              refine mx_al0 d_Lr_readLine_102 ?_
              refine mx_getI d_Lr_readLine_103 fl_Lr_30 (by assumption) ?_
              refine mx_ti (y := nI (s.length)) (hl1) ?_
              refine mx_il1 d_Lr_readLine_106 ?_
              refine mx_cSN3v d_Lr_readLine_107 (c_put (k := s.length) (by assumption) (by omega) (by omega)) ok_Vh_put ml_Lr_73 (by decide) (Nat.le_of_ble_eq_true rfl) ?_
              refine mx_al0 d_Lr_readLine_110 ?_
              refine mx_getR d_Lr_readLine_111 fl_Lr_15 (by assumption) (by assumption) ?_
              refine mx_al0 d_Lr_readLine_114 ?_
              refine mx_getI d_Lr_readLine_115 fl_Lr_30 (by assumption) ?_
              refine mx_ti (y := nI (s.length)) ((by simp [mx_up, hl1])) ?_
              refine mx_il2 d_Lr_readLine_118 ?_
              refine mx_cSN3v d_Lr_readLine_119 (c_put (k := s.length) (by assumption) (by omega) (by omega)) ok_Vh_put ml_Lr_73 (by decide) (Nat.le_of_ble_eq_true rfl) ?_
              refine mx_al0 d_Lr_readLine_122 ?_
              refine mx_getR d_Lr_readLine_123 fl_Lr_18 (by assumption) (by assumption) ?_
              refine mx_al0 d_Lr_readLine_126 ?_
              refine mx_getI d_Lr_readLine_127 fl_Lr_30 (by assumption) ?_
              refine mx_ti (y := nI (s.length)) ((by simp [mx_up, hl1])) ?_
              refine mx_al0 d_Lr_readLine_130 ?_
              refine mx_getI d_Lr_readLine_131 fl_Lr_38 (by assumption) ?_
              refine mx_ti (y := nI ((gq_co s ++ q.1).length)) ((by simp [mx_up, hs.sz])) ?_
              refine mx_cSN3v d_Lr_readLine_134 (c_put (k := s.length) (by assumption) (by omega) (by omega)) ok_Vh_put ml_Lr_73 (by decide) (Nat.le_of_ble_eq_true rfl) ?_
              refine mx_al0 d_Lr_readLine_137 ?_
              refine mx_dup d_Lr_readLine_138 rfl ?_
              refine mx_getI d_Lr_readLine_139 fl_Lr_30 (by assumption) ?_
              refine mx_ti (y := nI (s.length)) ((by simp [mx_up, hl1])) ?_
              refine mx_in_1 d_Lr_readLine_142 ?_
              refine mx_iaddN d_Lr_readLine_143 ?_
              refine mx_putI d_Lr_readLine_144 fl_Lr_30 (by assumption) ?_
              refine mx_in_1 d_Lr_readLine_147 ?_
              exact mx_zret d_Lr_readLine_148 rfl (by first | exact Or.inl rfl | exact Or.inr rfl) (mx_sR_i (by rw [hq]; rfl) (by rw [hq, hpv]; exact ll_end hs0 hs hsep))
            · skip
              obtain ⟨b, hb⟩ := gq_ok_f c_93
              rw [hb] at hK4
              have hbad := hs.trb hK4
              have hq : gq_LN (tK f L) (tV f L) s c = .inl b := gq_LN_bad (gq_line_i h3 ham ((if_pos c_78).trans hb))
              refine mx_in_0 d_Lr_readLine_96 ?_
              exact mx_zret d_Lr_readLine_97 rfl (by first | exact Or.inl rfl | exact Or.inr rfl) (mx_sR_i (by rw [hq]; rfl) (by rw [hq]; exact ⟨hbad.1.ll, hbad.2.1⟩))
      · skip
        have hq : gq_LN (tK f L) (tV f L) s c = .inl c := gq_LN_bad (gq_line_n (fun z => z.elim c_11 (fun z => z.elim c_17 c_23)))
        refine mx_al0 d_Lr_readLine_26 ?_
        refine mx_getR d_Lr_readLine_27 fl_Lr_24 (by assumption) (by assumption) ?_
        refine mx_cV0iR d_Lr_readLine_30 (c_Te_refuseR hTe hs.tok hs.cur) ok_Te_refuse ml_Lr_60 (by assumption) ⟨rfl, rfl⟩ (by decide) (Nat.le_of_ble_eq_true rfl) (fun K1 hK1 => ?_)
        exact mx_zret d_Lr_readLine_33 rfl (bI_01 _) (mx_sR_i (by rw [hq]; rfl) (by rw [hq]; exact ⟨(hs.bad hK1 hsep (Nat.le_refl _)).1.ll, hK1.2⟩))
def lx_off (I K : mx_I) (lr te : Nat) : Prop := (∀ a, (a < te ∨ te + 6 ≤ a) → (a < lr ∨ lr + 5 ≤ a) → K a = I a) ∧ K (te + 1) = I (te + 1) ∧ (∀ k, k ≠ 2 → k ≠ 7 → k ≠ 8 → k ≠ 9 → K te k = I te k) ∧ ∀ k, k ≠ 1 → k ≠ 6 → K lr k = I lr k
def lx_out (I K : mx_I) (lr te : Nat) (f : Nat → Nat) (L : Nat) (r : Nat ⊕ List gq_L) : Prop := lx_off I K lr te ∧ match r with
  | .inl e => K te 2 = nI (tq_b f L e)
  | .inr s => K te 2 = -1 ∧ ll_rows K lr s
theorem lx_off.of {M0 K1 : mx_I} (h0 : ∀ a, a ≠ lr → M0 a = I a) (h1 : ∀ k, k ≠ 1 → k ≠ 6 → M0 lr k = I lr k) (hb : te_off M0 K1 te) (h : ll_off K1 K lr te) (hsep : te + 6 ≤ lr) : lx_off I K lr te := by
  refine ⟨fun a q1 q2 => ?_, ?_, fun k a b c d => ?_, fun k a b => ?_⟩
  · rw [h.1 a (by omega) q2, hb.1 a (by omega) (by omega) (by omega) (by omega) (by omega), h0 a (by omega)]
  · rw [h.1 (te + 1) (by omega) (by omega), hb.1 (te + 1) (by omega) (by omega) (by omega) (by omega) (by omega), h0 _ (by omega)]
  · rw [h.2.1 k a c d, hb.2 k a b c d, h0 te (by omega)]
  · rw [h.2.2 k a b, hb.1 lr (by omega) (by omega) (by omega) (by omega) (by omega), h1 k a b]
def rl_inv (I K : mx_I) (lr te : Nat) (f : Nat → Nat) (L k : Nat) : Prop := ∃ tt s, ll_s I K lr te f L tt s ∧ (gq_co s).length ≤ tt ∧ s.length = k ∧ gq_rd (tK f L) (gq_LN (tK f L) (tV f L)) 12 [] 0 = gq_rd (tK f L) (gq_LN (tK f L) (tV f L)) (12 - k) s tt
theorem rl_step {σ : Type} {K : Nat → Nat} {LN : σ → Nat → Nat ⊕ (σ × Nat)} {N k : Nat} {s : σ} {r : Nat ⊕ σ} (hk : k < N) (he : r = gq_rd K LN (N - k) s tt) : r = match LN s tt with
    | .inl e => .inl e
    | .inr q => if K q.2 = 0 then .inr q.1 else if K q.2 = 3 then gq_rd K LN (N - (k + 1)) q.1 (q.2 + 1) else .inl q.2 := by
  rw [he, show N - k = (N - (k + 1)) + 1 by omega, gq_rd_s]
  cases LN s tt <;> rfl
theorem gq_LN_go {K : Nat → Nat} {V : Nat → Option Nat} {T : Nat} (hK : ∀ t, T ≤ t → K t = 0) {q : List gq_L × Nat} (h : gq_LN K V s tt = .inr q) (hl : (gq_co s).length ≤ tt) : q.1.length = s.length + 1 ∧ (gq_co q.1).length ≤ q.2 ∧ q.2 ≤ T := by
  unfold gq_LN at h
  cases h1 : gq_line K V tt with
  | inl e => rw [h1] at h; cases h
  | inr r =>
    rw [h1] at h
    cases h
    have := (gq_line_go hK).1 r h1
    refine ⟨by simp, ?_, this.2.1⟩
    rw [gq_co_app, List.length_append, show gq_co [r.1] = r.1.2.2 by simp [gq_co]]
    simp only
    omega
theorem c_Lr_read (hLr : lr_ok S P lr te) (hTe : te_ok S P te) (hx : te_tx I te f L)  : mx_C l E M_Lr_read 18 0 0 [.ref (lr)] (t, S, I, P, J) (mx_sR (some (.int (bI (gq_ok (gq_law (tK f L) (tV f L)))))) t S P J (fun K => lx_out I K lr te f L (gq_law (tK f L) (tV f L)))) := by
  obtain ⟨hR0, hR1, hR2, hR3, hR4, hR5, hR6, hR7, hR8, hR9, hsep⟩ := id hLr
  obtain ⟨hT0, hT1, hT2, hT3, hT4, hT5, hT6, hT7, hT8, hT9, hT10⟩ := id hTe
  have hL9 := hx.2.2
  have hTL := tq_n_le f L
  refine mx_C_of (ls0 := [some (.ref (lr)), none]) (by decide +kernel) rfl rfl (Nat.le_of_ble_eq_true rfl) rfl ?_
  refine mx_al0 d_Lr_read_0 ?_
  refine mx_in_0 d_Lr_read_1 ?_
  refine mx_putI d_Lr_read_2 fl_Lr_30 (by assumption) ?_
  refine mx_al0 d_Lr_read_5 ?_
  refine mx_in_0 d_Lr_read_6 ?_
  refine mx_putI d_Lr_read_7 fl_Lr_38 (by assumption) ?_
  refine mx_al0 d_Lr_read_10 ?_
  refine mx_getR d_Lr_read_11 fl_Lr_24 (by assumption) (by assumption) ?_
  refine mx_cV0vR d_Lr_read_14 (c_Te_begin hTe (hx.of (by rw [mx_up_ne (by omega), mx_up_ne (by omega)]) (by rw [mx_up_ne (by omega), mx_up_ne (by omega)]))) ok_Te_begin ml_Lr_44 (by assumption) ⟨rfl, rfl⟩ (by decide) (Nat.le_of_ble_eq_true rfl) (fun K1 hK1 => ?_)
  have hk36 := tq_k_lt f L (tq_b f L 0)
  have hlr : K1 lr = mx_up (mx_up I lr 1 (nI 0)) lr 6 (nI 0) lr := hK1.1.1 _ (by omega) (by omega) (by omega) (by omega) (by omega)
  have hs9 : ll_s K1 K1 lr te f L 0 [] := ⟨ll_off.rf, rfl, hK1.2.1, hK1.2.2.1, by rw [hlr]; simp [mx_up], by rw [hlr]; simp [mx_up, gq_co], fun j hj => absurd hj (by simp), fun j hj => absurd hj (by simp [gq_co])⟩
  refine mx_al0 d_Lr_read_17 ?_
  refine mx_getR d_Lr_read_18 fl_Lr_24 (by assumption) (by assumption) ?_
  refine mx_getI d_Lr_read_21 fl_Lr_49 (by assumption) ?_
  refine mx_ti (y := nI (tq_k f L (tq_b f L (0)))) (hK1.2.2.1.2.1) ?_
  refine mx_if_ne 29 d_Lr_read_24 (by decide) (fun c_24 => ?_) (fun c_24 => ?_)
  · skip
    have hk0 : ¬ tK f L 0 = 0 := fun z => c_24 (congrArg nI z)
    have hq1 : gq_law (tK f L) (tV f L) = gq_rd (tK f L) (gq_LN (tK f L) (tV f L)) 12 [] 0 := if_neg hk0
    refine mx_in_0 d_Lr_read_29 ?_
    refine mx_is1 d_Lr_read_30 ?_
    refine mx_loopX (α := (mx_I)) (N := 12) (a0 := K1) (fun k9 z9 => rl_inv K1 z9 lr te f L k9) (ls := fun k9 z9 => [some (.ref (lr)), some (.int (nI (k9)))]) (X := fun k9 z9 => (t, S, z9, P, J)) (⟨0, [], hs9, by simp [gq_co], rfl, rfl⟩) (fun k9 hk9 z9 hinv ih => ?_) (fun z9 hinv => ?_)
    · skip
      obtain ⟨K, hz9⟩ : ∃ q, q = z9 := ⟨_, rfl⟩
      subst hz9
      try dsimp only at hinv ih ⊢
      obtain ⟨tt, s, hs, hl, hsl, he⟩ := hinv
      have he2 := rl_step hk9 he
      refine mx_il1 d_Lr_read_31 ?_
      refine mx_bip 12 d_Lr_read_32 (by decide) ?_
      refine mx_icN_ge 77 d_Lr_read_34 (by decide) (by omega) (by omega) (fun c_34 => absurd c_34 (by omega)) (fun c_34 => ?_)
      refine mx_al0 d_Lr_read_37 ?_
      refine mx_cV0iR d_Lr_read_38 (c_Lr_readLine hLr hTe hs.self hl (by omega)) ok_Lr_readLine ml_Lr_52 (by assumption) ⟨rfl, rfl⟩ (by decide) (Nat.le_of_ble_eq_true rfl) (fun K2 hK2 => ?_)
      refine mx_ifB_ne 46 d_Lr_read_41 (by decide) (fun c_41 => ?_) (fun c_41 => ?_)
      · skip
        obtain ⟨q, hq0⟩ := gq_ok_t c_41
        rw [hq0] at hK2 he2
        have hs := hs.tr hK2
        have hg := gq_LN_go (tK0 rfl) hq0 hl
        have hk38 := tq_k_lt f L (tq_b f L q.2)
        refine mx_al0 d_Lr_read_46 ?_
        refine mx_getR d_Lr_read_47 fl_Lr_24 (by assumption) (by assumption) ?_
        refine mx_getI d_Lr_read_50 fl_Lr_49 (by assumption) ?_
        refine mx_ti (y := nI (tq_k f L (tq_b f L (q.2)))) (hs.cu.2.1) ?_
        refine mx_if_ne 58 d_Lr_read_53 (by decide) (fun c_53 => ?_) (fun c_53 => ?_)
        · skip
          have hkq : ¬ tK f L q.2 = 0 := fun z => c_53 (congrArg nI z)
          have he3 := he2.trans (if_neg hkq)
          refine mx_al0 d_Lr_read_58 ?_
          refine mx_getR d_Lr_read_59 fl_Lr_24 (by assumption) (by assumption) ?_
          refine mx_in_3 d_Lr_read_62 ?_
          refine mx_cV1iR d_Lr_read_63 (c_Te_takes hTe hs.tok hs.cu (w := 3) (by omega) (by omega)) ok_Te_takes ml_Lr_56 (by assumption) ⟨rfl, rfl⟩ (by decide) (Nat.le_of_ble_eq_true rfl) (fun K3 hK3 => ?_)
          refine mx_ifB_ne 71 d_Lr_read_66 (by decide) (fun c_66 => ?_) (fun c_66 => ?_)
          · skip
            have h3 : tK f L q.2 = 3 := Decidable.byContradiction (fun z => by rw [gq_tk_n z] at c_66; cases c_66)
            rw [gq_tk_y h3] at hK3
            have hs := hs.tk hK3 hsep
            have he4 := he3.trans (if_pos h3)
            refine mx_iN1 d_Lr_read_71 ?_
            refine mx_goto 31 d_Lr_read_74 (by decide) ?_
            exact ih K3 (⟨q.2 + 1, q.1, hs, by omega, by omega, he4⟩)
          · skip
            have h3 : ¬ tK f L q.2 = 3 := fun z => by rw [gq_tk_y z] at c_66; cases c_66
            rw [gq_tk_n h3] at hK3
            have hq := hq1.trans (he3.trans (if_neg h3))
            refine mx_in_0 d_Lr_read_69 ?_
            exact mx_zret d_Lr_read_70 rfl (by first | exact Or.inl rfl | exact Or.inr rfl) (mx_sR_i (by rw [hq]; rfl) (by rw [hq]; exact ⟨(lx_off.of (fun a h => by rw [mx_up_ne h, mx_up_ne h]) (fun k h1 h6 => by simp [mx_up, h1, h6]) hK1.1 ((hs.bad hK3 hsep).1) hsep), hK3.2⟩))
        · skip
          have hkq : tK f L q.2 = 0 := (Nat.eq_zero_or_pos _).elim id (fun z => absurd c_53 (nI_ne0 z (by show tq_k f L (tq_b f L q.2) < _; omega)))
          have hq := hq1.trans (he2.trans (if_pos hkq))
          refine mx_in_1 d_Lr_read_56 ?_
          exact mx_zret d_Lr_read_57 rfl (by first | exact Or.inl rfl | exact Or.inr rfl) (mx_sR_i (by rw [hq]; rfl) (by rw [hq]; exact ⟨(lx_off.of (fun a h => by rw [mx_up_ne h, mx_up_ne h]) (fun k h1 h6 => by simp [mx_up, h1, h6]) hK1.1 (hs.1) hsep), hs.2.1.trans hK1.2.2.2, hs.2.2.2.2⟩))
      · skip
        obtain ⟨e0, he0⟩ := gq_ok_f c_41
        rw [he0] at hK2 he2
        have hq := hq1.trans he2
        refine mx_in_0 d_Lr_read_44 ?_
        exact mx_zret d_Lr_read_45 rfl (by first | exact Or.inl rfl | exact Or.inr rfl) (mx_sR_i (by rw [hq]; rfl) (by rw [hq]; exact ⟨(lx_off.of (fun a h => by rw [mx_up_ne h, mx_up_ne h]) (fun k h1 h6 => by simp [mx_up, h1, h6]) hK1.1 (hs.1.tr hK2.1) hsep), hK2.2⟩))
    · skip
      obtain ⟨K, hz9⟩ : ∃ q, q = z9 := ⟨_, rfl⟩
      subst hz9
      try dsimp only at hinv ⊢
      obtain ⟨tt, s, hs, hl, hsl, he⟩ := hinv
      have hq : gq_law (tK f L) (tV f L) = .inl tt := hq1.trans he
      refine mx_il1 d_Lr_read_31 ?_
      refine mx_bip 12 d_Lr_read_32 (by decide) ?_
      refine mx_icN_ge 77 d_Lr_read_34 (by decide) (by omega) (by omega) (fun c_34 => ?_) (fun c_34 => absurd c_34 (by omega))
      refine mx_al0 d_Lr_read_77 ?_
      refine mx_getR d_Lr_read_78 fl_Lr_24 (by assumption) (by assumption) ?_
      refine mx_cV0iR d_Lr_read_81 (c_Te_refuseR hTe hs.tok hs.cu) ok_Te_refuse ml_Lr_60 (by assumption) ⟨rfl, rfl⟩ (by decide) (Nat.le_of_ble_eq_true rfl) (fun K2 hK2 => ?_)
      exact mx_zret d_Lr_read_84 rfl (bI_01 _) (mx_sR_i (by rw [hq]; rfl) (by rw [hq]; exact ⟨(lx_off.of (fun a h => by rw [mx_up_ne h, mx_up_ne h]) (fun k h1 h6 => by simp [mx_up, h1, h6]) hK1.1 ((hs.bad hK2 hsep).1) hsep), hK2.2⟩))
  · skip
    have hk0 : tK f L 0 = 0 := (Nat.eq_zero_or_pos _).elim id (fun z => absurd c_24 (nI_ne0 z (by show tq_k f L (tq_b f L 0) < _; omega)))
    have hq : gq_law (tK f L) (tV f L) = .inr [] := if_pos hk0
    refine mx_in_1 d_Lr_read_27 ?_
    exact mx_zret d_Lr_read_28 rfl (by first | exact Or.inl rfl | exact Or.inr rfl) (mx_sR_i (by rw [hq]; rfl) (by rw [hq]; exact ⟨(lx_off.of (fun a h => by rw [mx_up_ne h, mx_up_ne h]) (fun k h1 h6 => by simp [mx_up, h1, h6]) hK1.1 (ll_off.rf) hsep), hK1.2.2.2, hs9.2.2.2.2⟩))
end AT61
