/-! THE PAST IS MADE -/
section BP84
variable {l : Launch} {E : mx_Env} {d k n : Nat} {Q : mx_R → mx_H → Prop} {t : Nat} {S S2 S0 : mx_S} {I I2 I0 : mx_I} {P P2 P0 : mx_P} {J : mx_G} {pt la i r : Nat}
theorem st_ok.cg (h : st_ok S P r) (e : ∀ c, r ≤ c → c < r + 15 → S2 c = S c ∧ P2 c = P c) : st_ok S2 P2 r := by
  unfold st_ok pe_ok lo_ok at h ⊢
  rw [(e r (by omega) (by omega)).1, (e r (by omega) (by omega)).2, (e (r + 1) (by omega) (by omega)).1, (e (r + 1) (by omega) (by omega)).2, (e (r + 1 + 1) (by omega) (by omega)).1, (e (r + 1 + 2) (by omega) (by omega)).1, (e (r + 1 + 3) (by omega) (by omega)).1, (e (r + 1 + 4) (by omega) (by omega)).1, (e (r + 1 + 5) (by omega) (by omega)).1, (e (r + 1 + 6) (by omega) (by omega)).1, (e (r + 1 + 7) (by omega) (by omega)).1, (e (r + 9) (by omega) (by omega)).1, (e (r + 9) (by omega) (by omega)).2, (e (r + 9 + 1) (by omega) (by omega)).1, (e (r + 11) (by omega) (by omega)).1, (e (r + 12) (by omega) (by omega)).1, (e (r + 13) (by omega) (by omega)).1, (e (r + 14) (by omega) (by omega)).1]
  exact h
/-- the Past with its first i States made -/
def pt_inv (S0 S : mx_S) (I0 I : mx_I) (P0 P : mx_P) (pt la i : Nat) : Prop := mx_bel pt S0 S I0 I P0 P ∧ S pt = some (0, 7) ∧ P pt 0 = some (pt + 1) ∧ S (pt + 1) = some (4, 12) ∧ I pt 1 = nI 0 ∧ I pt 2 = nI 0 ∧ ∀ j, j < i → P (pt + 1) j = some (pt + 2 + 15 * j) ∧ st_ok S P (pt + 2 + 15 * j) ∧ P (pt + 2 + 15 * j) 2 = some la
theorem pt_inv.st (h : pt_inv S0 S I0 I P0 P pt la i) (hb : mx_bel (pt + 2 + 15 * i) (mx_ups S (pt + 2 + 15 * i) (0, 6)) S2 (mx_z I (pt + 2 + 15 * i)) I2 (mx_zP P (pt + 2 + 15 * i)) P2) (hn : st_new S2 I2 P2 (pt + 2 + 15 * i) la) : pt_inv S0 S2 I0 I2 P0 (mx_upP P2 (pt + 1) i (some (pt + 2 + 15 * i))) pt la (i + 1) := by
  obtain ⟨h1, h2, h3, h4, h5, h6, h7⟩ := h
  have bS : ∀ c, c < pt + 2 + 15 * i → S2 c = S c := fun c hc => (hb c hc).1.trans (by simp only [mx_ups]; rw [if_neg (by omega)])
  have bI : ∀ c, c < pt + 2 + 15 * i → I2 c = I c := fun c hc => (hb c hc).2.1.trans (mx_z_ne (by omega))
  have bP : ∀ c, c < pt + 2 + 15 * i → P2 c = P c := fun c hc => (hb c hc).2.2.trans (mx_zP_ne (by omega))
  refine ⟨fun c hc => ⟨(bS c (by omega)).trans (h1 c hc).1, (bI c (by omega)).trans (h1 c hc).2.1, ?_⟩, (bS _ (by omega)).trans h2, ?_, (bS _ (by omega)).trans h4, (congrFun (bI pt (by omega)) 1).trans h5, (congrFun (bI pt (by omega)) 2).trans h6, fun j hj => ?_⟩
  · rw [mx_upP_ne (by omega), bP c (by omega)]; exact (h1 c hc).2.2
  · rw [mx_upP_ne (by omega), bP pt (by omega)]; exact h3
  · by_cases e : j = i
    · subst e
      refine ⟨by simp [mx_upP], hn.1.cg (fun c a b => ⟨rfl, mx_upP_ne (by omega)⟩), ?_⟩
      rw [mx_upP_ne (by omega)]; exact hn.2.1
    · obtain ⟨a1, a2, a3⟩ := h7 j (by omega)
      refine ⟨?_, a2.cg (fun c a b => ⟨bS c (by omega), ?_⟩), ?_⟩
      · have : mx_upP P2 (pt + 1) i (some (pt + 2 + 15 * i)) (pt + 1) j = P2 (pt + 1) j := by simp [mx_upP, e]
        rw [this, bP (pt + 1) (by omega)]; exact a1
      · rw [mx_upP_ne (by omega), bP c (by omega)]
      · rw [mx_upP_ne (by omega), bP _ (by omega)]; exact a3
theorem pt_step (hd : 4 ≤ d) (hir : i + r = 11) (hinv : pt_inv S0 S I0 I P0 P pt la i) (ih : ∀ S2 I2 P2, pt_inv S0 S2 I0 I2 P0 P2 pt la (i + 1) → mx_E l E M_Pt_init d (15 * r) (643 * r) 25 [some (.ref pt), some (.ref la), some (.int (nI (i + 1)))] [] (pt + 2 + 15 * i + 15, S2, I2, P2, J) Q) : mx_E l E M_Pt_init d (15 * r + 15) (643 * r + 643) 25 [some (.ref pt), some (.ref la), some (.int (nI (i)))] [] (pt + 2 + 15 * i, S, I, P, J) Q := by
  obtain ⟨h1, h2, h3, h4, h5, h6, h7⟩ := id hinv
  refine mx_il2 d_Pt_init_25 ?_
  refine mx_al0 d_Pt_init_26 ?_
  refine mx_getR d_Pt_init_27 fl_Pt_11 (by assumption) (by assumption) ?_
  refine mx_alenP d_Pt_init_30 (by assumption) ?_
  refine mx_icN_ge 54 d_Pt_init_31 (by decide) (by omega) (by omega) (fun c_31 => absurd c_31 (by omega)) (fun c_31 => ?_)
  refine mx_al0 d_Pt_init_34 ?_
  refine mx_getR d_Pt_init_35 fl_Pt_11 (by assumption) (by assumption) ?_
  refine mx_il2 d_Pt_init_38 ?_
  refine mx_new (c := 6) (k2 := 15 * r + 14) (n2 := 643 * r + 629) d_Pt_init_39 rfl cl_Pt_9 (by omega) (by show _ + 14 ≤ _; omega) ?_
  have hs6 : (mx_ups S (pt + 2 + 15 * i) (0, 6)) (pt + 2 + 15 * i) = some (0, 6) := by simp [mx_ups]
  refine mx_dup d_Pt_init_42 rfl ?_
  refine mx_al1 d_Pt_init_43 ?_
  refine mx_kI1R (k2 := 15 * r) (n2 := 643 * r) d_Pt_init_44 (c_St_init (s := pt + 2 + 15 * i) (la := la) hs6) ok_St_init rfl rfl ml_Pt_24 (by omega) (Nat.le_of_ble_eq_true rfl) (by omega) (by omega) (fun S2 I2 P2 hR2 => ?_)
  obtain ⟨hb2, hn2⟩ := hR2
  have hq4 : S2 (pt + 1) = some (4, 12) := (hb2 (pt + 1) (by omega)).1.trans (by simp only [mx_ups]; rw [if_neg (by omega)]; exact h4)
  have hq6 : S2 (pt + 2 + 15 * i) = some (0, 6) := hn2.1.1
  refine mx_aast d_Pt_init_47 (by assumption) (by assumption) (nI_inb (by omega) (by omega)) ?_
  rw [nI_clamp (by omega)]
  refine mx_iN2 d_Pt_init_48 ?_
  refine mx_goto 25 d_Pt_init_51 (by decide) ?_
  exact ih _ _ _ (hinv.st hb2 hn2)
theorem pt_loop (hd : 4 ≤ d) (hend : ∀ S2 I2 P2, pt_inv S0 S2 I0 I2 P0 P2 pt la 12 → mx_E l E M_Pt_init d 0 0 25 [some (.ref pt), some (.ref la), some (.int (nI 12))] [] (pt + 182, S2, I2, P2, J) Q) : ∀ r i (S : mx_S) (I : mx_I) (P : mx_P), i + r = 12 → pt_inv S0 S I0 I P0 P pt la i → mx_E l E M_Pt_init d (15 * r) (643 * r) 25 [some (.ref pt), some (.ref la), some (.int (nI i))] [] (pt + 2 + 15 * i, S, I, P, J) Q
  | 0, i, S, I, P, hi, h => by
    have e : i = 12 := by omega
    subst e
    exact hend S I P h
  | r + 1, i, S, I, P, hi, h => pt_step hd (by omega) h (fun S2 I2 P2 h2 => by
    have := pt_loop hd hend r (i + 1) S2 I2 P2 (by omega) h2
    exact this)
theorem c_Pt_init (hs : S pt = some (0, 7))  : mx_C l E M_Pt_init 4 181 7728 [.ref (pt), .ref (la)] ((pt + 1), S, I, P, J) (mx_iR (pt + 182) J (fun S2 I2 P2 => pt_inv S S2 I I2 P P2 pt la 12)) := by
  refine mx_C_of (ls0 := [some (.ref (pt)), some (.ref (la)), none]) (by decide +kernel) rfl rfl (Nat.le_of_ble_eq_true rfl) rfl ?_
  refine mx_al0 d_Pt_init_0 ?_
  refine mx_objInit d_Pt_init_1 oi_Pt_3 (by decide) (Nat.le_of_ble_eq_true rfl) ?_
  refine mx_al0 d_Pt_init_4 ?_
  refine mx_bip 12 d_Pt_init_5 (by decide) ?_
  refine mx_newP (N := 12) (k2 := 180) (n2 := 7716) d_Pt_init_7 cl_Pt_9 (nI_nn (by omega)) (nI_clamp (by omega)) (by omega) (by omega) (by omega) ?_
  have hs2 : (mx_ups S (pt + 1) (4, 12)) pt = some (0, 7) := by simp [mx_ups, hs]
  refine mx_putRF d_Pt_init_10 fl_Pt_11 rfl (fun q h => by cases h; rfl) (by assumption) rfl rfl ?_
  refine mx_al0 d_Pt_init_13 ?_
  refine mx_in_0 d_Pt_init_14 ?_
  refine mx_putI d_Pt_init_15 fl_Pt_17 (by assumption) ?_
  refine mx_al0 d_Pt_init_18 ?_
  refine mx_in_0 d_Pt_init_19 ?_
  refine mx_putI d_Pt_init_20 fl_Pt_21 (by assumption) ?_
  refine mx_in_0 d_Pt_init_23 ?_
  refine mx_is2 d_Pt_init_24 ?_
  have hinv0 : pt_inv S (mx_ups S (pt + 1) (4, 12)) I (mx_up (mx_up I (pt) 1 (nI (0))) (pt) 2 (nI (0))) P (mx_upP (mx_zP P (pt + 1)) (pt) 0 (some (pt + 1))) pt la 0 := by
    refine ⟨fun c hc => ⟨by simp only [mx_ups]; rw [if_neg (by omega)], by rw [mx_up_ne (by omega), mx_up_ne (by omega)], by rw [mx_upP_ne (by omega), mx_zP_ne (by omega)]⟩, hs2, by simp [mx_upP], by simp [mx_ups], by simp [mx_up], by simp [mx_up], fun j hj => absurd hj (by omega)⟩
  refine pt_loop (S0 := S) (I0 := I) (P0 := P) (la := la) (by omega) (fun S2 I2 P2 h => ?_) 12 0 _ _ _ rfl hinv0
  obtain ⟨h1, h2, h3, h4, h5, h6, h7⟩ := id h
  refine mx_il2 d_Pt_init_25 ?_
  refine mx_al0 d_Pt_init_26 ?_
  refine mx_getR d_Pt_init_27 fl_Pt_11 (by assumption) (by assumption) ?_
  refine mx_alenP d_Pt_init_30 (by assumption) ?_
  refine mx_icN_ge 54 d_Pt_init_31 (by decide) (by omega) (by omega) (fun c_31 => ?_) (fun c_31 => absurd c_31 (by omega))
  exact mx_vret d_Pt_init_54 rfl (mx_iR_i h)
end BP84
