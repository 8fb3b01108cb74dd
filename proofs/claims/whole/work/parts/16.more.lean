/-! FORLORN, ALIKE, COUNT -/
section H16
variable {l : Launch} {E : mx_Env} {t : Nat} {S : mx_S} {I : mx_I} {P : mx_P} {J : mx_G} {m : Nat → Int32} {x mo H G : Nat}
theorem mx_lsc {M : mx_M} {d k n pc : Nat} {ls ls' : List (Option Value)} {st : List Value} {X : mx_H} {Q : mx_R → mx_H → Prop} (h : ls = ls') (kk : mx_E l E M d k n pc ls' st X Q) : mx_E l E M d k n pc ls st X Q := by subst h; exact kk
def vs_canAny (m : Nat → Int32) (h n : Nat) : Bool := vs_any (fun g => vs_any (vs_can m h g) 8) n
theorem vs_any_s (p : Nat → Bool) (n : Nat) : vs_any p (n + 1) = (vs_any p n || p n) := by simp [vs_any, List.range_succ]
theorem vs_any_0 (p : Nat → Bool) : vs_any p 0 = false := rfl
theorem vs_any_mono {p : Nat → Bool} {a b : Nat} (hab : a ≤ b) (h : vs_any p a = true) : vs_any p b = true := by
  obtain ⟨g, hg, hp⟩ := List.any_eq_true.mp h
  exact vs_any_t (Nat.lt_of_lt_of_le (List.mem_range.mp hg) hab) hp
theorem vs_bit0 {i : Nat} (hi : i < 32) : bt (0 : Int32) i = false := (by decide : ∀ i, i < 32 → bt (0 : Int32) i = false) i hi
theorem vs_bit8 {k i : Nat} (hk : k < 256) (hi : i < 32) (h8 : 8 ≤ i) : bt (nI k) i = false := (by decide +kernel : ∀ k, k < 256 → ∀ i, i < 32 → 8 ≤ i → bt (nI k) i = false) k hk i hi h8
theorem vs_and8 {a : Int32} {k : Nat} (hk : k < 256) : (¬ nI k &&& a = 0) ↔ ∃ q, q < 8 ∧ bt (nI k &&& a) q = true := by
  constructor
  · intro h1
    by_cases h2 : ∃ q, q < 8 ∧ bt (nI k &&& a) q = true
    · exact h2
    · refine absurd (b_ext (fun i hi => ?_)) h1
      rw [vs_bit0 hi]
      by_cases h8 : i < 8
      · cases hb : bt (nI k &&& a) i
        · rfl
        · exact absurd ⟨i, h8, hb⟩ h2
      · rw [b_and, vs_bit8 hk hi (by omega)]; rfl
  · rintro ⟨q, hq, hb⟩ h1
    rw [h1, vs_bit0 (by omega)] at hb
    cases hb
theorem vs_hours_can {m : Nat → Int32} (hr : hr_ok m) {h g : Nat} (hh : h < 8) : vs_hoursAny m h g = vs_any (vs_can m h g) 8 := by
  obtain ⟨k, hk, e⟩ := hr h hh
  have e1 := vs_and8 (a := m (43 + 3 * g + 1)) hk
  rw [← e] at e1
  unfold vs_hoursAny
  cases hm : vs_may m h g
  · rw [vs_any_f (fun q hq => by simp [vs_can, hm])]; simp
  · by_cases h1 : m (11 + 4 * h + 1) &&& m (43 + 3 * g + 1) = 0
    · rw [vs_any_f (fun q hq => ?_)]
      · simp [h1]
      · cases hb : vs_can m h g q
        · rfl
        · refine absurd h1 (e1.mpr ⟨q, hq, ?_⟩)
          simp only [vs_can, Bool.and_eq_true] at hb
          exact hb.1
    · obtain ⟨q, hq, hb⟩ := e1.mp h1
      rw [vs_any_t hq (by simp [vs_can, hm, hb])]; simp [h1]
theorem vs_canAny_eq {m : Nat → Int32} (hr : hr_ok m) {h n : Nat} (hh : h < 8) : vs_any (vs_hoursAny m h) n = vs_canAny m h n := vs_any_congr (fun g _ => vs_hours_can hr hh)
def vs_forlorn (m : Nat → Int32) (G n : Nat) : Int32 := vf n (fun h s => if G = 0 ∨ vs_canAny m h G = true then s else s ||| (nI 1 <<< (nI h &&& 31))) (nI 0)
theorem vs_forlorn_s (m : Nat → Int32) (G n : Nat) : vs_forlorn m G (n + 1) = if G = 0 ∨ vs_canAny m n G = true then vs_forlorn m G n else vs_forlorn m G n ||| (nI 1 <<< (nI n &&& 31)) := rfl
theorem vs_fl0 (m : Nat → Int32) (h0 : G = 0) (n : Nat) : vs_forlorn m G n = nI 0 := by
  induction n with
  | zero => rfl
  | succ n ih => rw [vs_forlorn_s, if_pos (Or.inl h0), ih]
theorem vs_canAny_s (m : Nat → Int32) (h n : Nat) : vs_canAny m h (n + 1) = (vs_any (vs_can m h n) 8 || vs_canAny m h n) := by unfold vs_canAny; rw [vs_any_s, Bool.or_comm]
theorem vs_flx {m : Nat → Int32} {h g q : Nat} (hc : (!(vs_any (vs_can m h g) q || vs_canAny m h g)) = false) (hq : q ≤ 8) : bI (!(vs_any (vs_can m h g) q || vs_canAny m h g)) = bI (!vs_canAny m h (g + 1)) := by
  rw [hc, vs_canAny_s]
  simp only [Bool.not_eq_false', Bool.or_eq_true] at hc
  rcases hc with h1 | h1
  · rw [vs_any_mono hq h1]; rfl
  · rw [h1, Bool.or_true]; rfl
theorem vs_le0 (h : nI G ≤ 0) (hG8 : G ≤ 8) : G = 0 := by
  rcases Nat.eq_zero_or_pos G with h0 | h0
  · exact h0
  · exact absurd ((nI_leI (b := 0) (by omega) (by omega)).mp h) (by omega)
theorem vs_nle0 (h : ¬ nI G ≤ 0) : ¬ G = 0 := fun h0 => h (by rw [h0]; decide)
theorem c_Vh_forlorn (hV : vh_ok S P x) (hSt : st_ok S P (x + 23)) (hSr : st_rel I (x + 23) m) (hH : m 3 = nI H) (hH8 : H ≤ 8) (hG : m 4 = nI G) (hG8 : G ≤ 8) (hr : hr_ok m) (hk : rk_ok m) : mx_C l E M_Vh_forlorn 5 0 0 [.ref (x)] (t, S, I, P, J) (mx_ri (vs_forlorn m G H) (t, S, I, P, J)) := by
  obtain ⟨hV0, hVp0, hVp1, hVp2, hVp3, hVp4, hVp5, hVp7, hVp8, hVp9, hVp10, hVp11, hVp12, hVs15, hVs16, hVs68⟩ := id hV
  obtain ⟨hC0, hC1, hC2, hC3, hC4, hC5, hC6, hD1, hD2, hD3, hD4, hPe, hLo⟩ := id hSt
  obtain ⟨hPr, u0, u1, u2, u3, u4, u5, u6, u7, u8⟩ := id hSr
  obtain ⟨hA0, hA1, hA2, hA3, hA4, hA5, hA6, hA7, hB1, hB2, hB3, hB4, hB5, hB6, hB7⟩ := id hPe
  obtain ⟨r0, r1, r2, r3, r4, r5, r6, r7, r8⟩ := id hPr
  refine mx_C_of (ls0 := [some (.ref (x)), none, none]) (by decide +kernel) rfl rfl (Nat.le_of_ble_eq_true rfl) rfl ?_
  refine mx_in_0 d_Vh_forlorn_0 ?_
  refine mx_is1 d_Vh_forlorn_1 ?_
  refine mx_in_0 d_Vh_forlorn_2 ?_
  refine mx_is2 d_Vh_forlorn_3 ?_
  refine mx_loop (N := H) (ls := fun h => [some (.ref (x)), some (.int ((vs_forlorn m G h))), some (.int (nI (h)))]) (X := fun h => (t, S, I, P, J)) (fun h hh ih => ?_) ?_
  · try dsimp only
    refine mx_il2 d_Vh_forlorn_4 ?_
    refine mx_al0 d_Vh_forlorn_5 ?_
    refine mx_getR d_Vh_forlorn_6 fl_Vh_51 (by assumption) (by assumption) ?_
    refine mx_getR d_Vh_forlorn_9 fl_Vh_162 (by assumption) (by assumption) ?_
    refine mx_getI d_Vh_forlorn_12 fl_Vh_290 (by assumption) ?_
    refine mx_ti (y := nI (H)) (r0.trans hH) ?_
    refine mx_icN_ge 57 d_Vh_forlorn_15 (by decide) (by omega) (by omega) (fun c_15 => absurd c_15 (by omega)) (fun c_15 => ?_)
    refine mx_al0 d_Vh_forlorn_18 ?_
    refine mx_getR d_Vh_forlorn_19 fl_Vh_51 (by assumption) (by assumption) ?_
    refine mx_getR d_Vh_forlorn_22 fl_Vh_162 (by assumption) (by assumption) ?_
    refine mx_getI d_Vh_forlorn_25 fl_Vh_325 (by assumption) ?_
    refine mx_ti (y := nI (G)) (r1.trans hG) ?_
    refine mx_if_le 51 d_Vh_forlorn_28 (by decide) (fun c_28 => ?_) (fun c_28 => ?_)
    · skip
      have g0 := vs_le0 c_28 hG8
      refine mx_iN2 d_Vh_forlorn_51 ?_
      refine mx_goto 4 d_Vh_forlorn_54 (by decide) ?_
      have e1 : (vs_forlorn m G h) = (vs_forlorn m G (h + 1)) := by rw [vs_forlorn_s]; first | rw [if_pos (Or.inl g0)] | rw [if_pos (Or.inr c_42)] | rw [if_neg (fun h9 => h9.elim g0 (by rw [c_42]; decide))]
      rw [e1]
      exact ih
    · skip
      have g0 := vs_nle0 c_28
      refine mx_al0 d_Vh_forlorn_31 ?_
      refine mx_getR d_Vh_forlorn_32 fl_Vh_51 (by assumption) (by assumption) ?_
      refine mx_getR d_Vh_forlorn_35 fl_Vh_162 (by assumption) (by assumption) ?_
      refine mx_il2 d_Vh_forlorn_38 ?_
      refine mx_cV1i d_Vh_forlorn_39 ((vs_canAny_eq hr (h := h) (n := G) (by omega)) ▸ c_Pe_canMeetAny hPe hPr hk hG hG8 (h := h) (by omega)) ok_Pe_canMeetAny ml_Vh_409 (by assumption) ⟨rfl, rfl⟩ (by decide) (Nat.le_of_ble_eq_true rfl) ?_
      refine mx_ifB_ne 51 d_Vh_forlorn_42 (by decide) (fun c_42 => ?_) (fun c_42 => ?_)
      · skip
        refine mx_iN2 d_Vh_forlorn_51 ?_
        refine mx_goto 4 d_Vh_forlorn_54 (by decide) ?_
        have e1 : (vs_forlorn m G h) = (vs_forlorn m G (h + 1)) := by rw [vs_forlorn_s]; first | rw [if_pos (Or.inl g0)] | rw [if_pos (Or.inr c_42)] | rw [if_neg (fun h9 => h9.elim g0 (by rw [c_42]; decide))]
        rw [e1]
        exact ih
      · skip
        refine mx_il1 d_Vh_forlorn_45 ?_
        refine mx_in_1 d_Vh_forlorn_46 ?_
        refine mx_il2 d_Vh_forlorn_47 ?_
        refine mx_ishl d_Vh_forlorn_48 ?_
        refine mx_ior d_Vh_forlorn_49 ?_
        refine mx_is1 d_Vh_forlorn_50 ?_
        refine mx_iN2 d_Vh_forlorn_51 ?_
        refine mx_goto 4 d_Vh_forlorn_54 (by decide) ?_
        have e1 : ((vs_forlorn m G h) ||| (nI (1) <<< (nI (h) &&& 31))) = (vs_forlorn m G (h + 1)) := by rw [vs_forlorn_s]; first | rw [if_pos (Or.inl g0)] | rw [if_pos (Or.inr c_42)] | rw [if_neg (fun h9 => h9.elim g0 (by rw [c_42]; decide))]
        rw [e1]
        exact ih
  · try dsimp only
    refine mx_il2 d_Vh_forlorn_4 ?_
    refine mx_al0 d_Vh_forlorn_5 ?_
    refine mx_getR d_Vh_forlorn_6 fl_Vh_51 (by assumption) (by assumption) ?_
    refine mx_getR d_Vh_forlorn_9 fl_Vh_162 (by assumption) (by assumption) ?_
    refine mx_getI d_Vh_forlorn_12 fl_Vh_290 (by assumption) ?_
    refine mx_ti (y := nI (H)) (r0.trans hH) ?_
    refine mx_icN_ge 57 d_Vh_forlorn_15 (by decide) (by omega) (by omega) (fun c_15 => ?_) (fun c_15 => absurd c_15 (by omega))
    refine mx_il1 d_Vh_forlorn_57 ?_
    exact mx_iret d_Vh_forlorn_58 rfl (mx_ri_of rfl)
theorem c_Mo_forlorn (hM : mo_ok S P mo) (hm : I (mo + 1) = m) (hH : m 3 = nI H) (hH8 : H ≤ 8) (hG : m 4 = nI G) (hG8 : G ≤ 8)  : mx_C l E M_Mo_forlorn 4 0 0 [.ref (mo)] (t, S, I, P, J) (mx_ri (vs_forlorn m G H) (t, S, mx_up I (mo) 0 (nI 0), P, J)) := by
  obtain ⟨hM0, hMp1, hMp2, hMp4, hMp5, hMp7, hMp14, hMp21, hMp22, hMp23, hMp24, hMp25, hMp26, hMp27, hMs1, hMs2, hMs3, hMs4, hMs5, hMs6, hMs7, hMs8, hMs9, hMs10, hMs11, hMs12, hMs13⟩ := id hM
  refine mx_C_of (ls0 := [some (.ref (mo)), none, none, none, none, none]) (by decide +kernel) rfl rfl (Nat.le_of_ble_eq_true rfl) rfl ?_
  refine mx_al0 d_Mo_forlorn_0 ?_
  refine mx_in_0 d_Mo_forlorn_1 ?_
  refine mx_putI d_Mo_forlorn_2 fl_Mo_54 (by assumption) ?_
  refine mx_in_0 d_Mo_forlorn_5 ?_
  refine mx_is1 d_Mo_forlorn_6 ?_
  refine mx_in_0 d_Mo_forlorn_7 ?_
  refine mx_is2 d_Mo_forlorn_8 ?_
  refine mx_loop (N := H) (ls := fun h => [some (.ref (mo)), some (.int ((vs_forlorn m G h))), some (.int (nI (h))), none, none, none]) (X := fun h => (t, S, (mx_up I (mo) 0 (nI (0))), P, J)) (fun h hh ih => ?_) ?_
  · try dsimp only
    refine mx_il2 d_Mo_forlorn_9 ?_
    refine mx_al0 d_Mo_forlorn_10 ?_
    refine mx_getR d_Mo_forlorn_11 fl_Mo_7 (by assumption) (by assumption) ?_
    refine mx_in_3 d_Mo_forlorn_14 ?_
    refine mx_iald d_Mo_forlorn_15 (by assumption) (nI_inb (by omega) (by omega)) ?_
    refine mx_ti (y := (mx_up I (mo) 0 (nI (0))) (mo + 1) (3)) (by rw [nI_clamp (by omega)]) ?_
    refine mx_ti (y := nI (H)) ((congrFun (vs_hm hm) 3).trans hH) ?_
    refine mx_icN_ge 108 d_Mo_forlorn_16 (by decide) (by omega) (by omega) (fun c_16 => absurd c_16 (by omega)) (fun c_16 => ?_)
    refine mx_al0 d_Mo_forlorn_19 ?_
    refine mx_getR d_Mo_forlorn_20 fl_Mo_7 (by assumption) (by assumption) ?_
    refine mx_in_4 d_Mo_forlorn_23 ?_
    refine mx_iald d_Mo_forlorn_24 (by assumption) (nI_inb (by omega) (by omega)) ?_
    refine mx_ti (y := (mx_up I (mo) 0 (nI (0))) (mo + 1) (4)) (by rw [nI_clamp (by omega)]) ?_
    refine mx_ti (y := nI (G)) ((congrFun (vs_hm hm) 4).trans hG) ?_
    refine mx_if_le 108 d_Mo_forlorn_25 (by decide) (fun c_25 => ?_) (fun c_25 => ?_)
    · skip
      have g0 := vs_le0 c_25 hG8
      refine mx_il1 d_Mo_forlorn_108 ?_
      exact mx_iret d_Mo_forlorn_109 rfl (mx_ri_of2 (by first | rfl | rw [vs_fl0 m g0, vs_fl0 m g0]) rfl)
    · skip
      have g0 := vs_nle0 c_25
      refine mx_in_1 d_Mo_forlorn_28 ?_
      refine mx_is3 d_Mo_forlorn_29 ?_
      refine mx_in_0 d_Mo_forlorn_30 ?_
      refine mx_is4 d_Mo_forlorn_31 ?_
      have ih9 := ih
      refine mx_loop (N := G) (ls := fun g => [some (.ref (mo)), some (.int ((vs_forlorn m G h))), some (.int (nI (h))), some (.int (bI (!vs_canAny m h g))), some (.int (nI (g))), none]) (X := fun g => (t, S, (mx_up I (mo) 0 (nI (0))), P, J)) (fun g hg ih => ?_) ?_
      · try dsimp only
        refine mx_il4 d_Mo_forlorn_33 ?_
        refine mx_al0 d_Mo_forlorn_35 ?_
        refine mx_getR d_Mo_forlorn_36 fl_Mo_7 (by assumption) (by assumption) ?_
        refine mx_in_4 d_Mo_forlorn_39 ?_
        refine mx_iald d_Mo_forlorn_40 (by assumption) (nI_inb (by omega) (by omega)) ?_
        refine mx_ti (y := (mx_up I (mo) 0 (nI (0))) (mo + 1) (4)) (by rw [nI_clamp (by omega)]) ?_
        refine mx_ti (y := nI (G)) ((congrFun (vs_hm hm) 4).trans hG) ?_
        refine mx_icN_ge 88 d_Mo_forlorn_41 (by decide) (by omega) (by omega) (fun c_41 => absurd c_41 (by omega)) (fun c_41 => ?_)
        refine mx_in_0 d_Mo_forlorn_44 ?_
        refine mx_is5 d_Mo_forlorn_45 ?_
        have ih33 := ih
        refine mx_loop (N := 8) (ls := fun q => [some (.ref (mo)), some (.int ((vs_forlorn m G h))), some (.int (nI (h))), some (.int (bI (!(vs_any (vs_can m h g) q || vs_canAny m h g)))), some (.int (nI (g))), some (.int (nI (q)))]) (X := fun q => (t, S, (mx_up I (mo) 0 (nI (0))), P, J)) (fun q hq ih => ?_) ?_
        · try dsimp only
          refine mx_il5 d_Mo_forlorn_47 ?_
          refine mx_bip 8 d_Mo_forlorn_49 (by decide) ?_
          refine mx_icN_ge 82 d_Mo_forlorn_51 (by decide) (by omega) (by omega) (fun c_51 => absurd c_51 (by omega)) (fun c_51 => ?_)
          refine mx_il3 d_Mo_forlorn_54 ?_
          refine mx_ifB_eq 82 d_Mo_forlorn_55 (by decide) (fun c_55 => ?_) (fun c_55 => ?_)
          · skip
            refine mx_iN4 d_Mo_forlorn_82 ?_
            refine mx_goto 33 d_Mo_forlorn_85 (by decide) ?_
            refine mx_dn5 ?_
            have e3 : bI (!(vs_any (vs_can m h g) q || vs_canAny m h g)) = bI (!vs_canAny m h (g + 1)) := by first | (rw [vs_canAny_s]; done) | exact vs_flx c_55 (by omega)
            refine mx_lsc (congrArg (fun z9 => ([some (.ref (mo)), some (.int ((vs_forlorn m G h))), some (.int (nI (h))), some (.int (z9)), some (.int (nI (g + 1))), none] : List (Option Value))) e3) ?_
            exact ih33
          · skip
            refine mx_al0 d_Mo_forlorn_58 ?_
            refine mx_il2 d_Mo_forlorn_59 ?_
            refine mx_il4 d_Mo_forlorn_60 ?_
            refine mx_il5 d_Mo_forlorn_62 ?_
            refine mx_cV3i d_Mo_forlorn_64 (cm_canMeet hM (vs_hm hm) (h := h) (g := g) (q := q) (by omega) (by omega) (by omega)) ok_Mo_canMeet ml_Mo_280 (by assumption) ⟨rfl, rfl⟩ (by decide) (Nat.le_of_ble_eq_true rfl) ?_
            refine mx_ifB_ne 74 d_Mo_forlorn_67 (by decide) (fun c_67 => ?_) (fun c_67 => ?_)
            · skip
              refine mx_in_0 d_Mo_forlorn_74 ?_
              refine mx_is3 d_Mo_forlorn_75 ?_
              refine mx_iN5 d_Mo_forlorn_76 ?_
              refine mx_goto 47 d_Mo_forlorn_79 (by decide) ?_
              have e3 : nI (0) = bI (!(vs_any (vs_can m h g) (q + 1) || vs_canAny m h g)) := by simp_all [vs_any_s, bI]
              refine mx_lsc (congrArg (fun z9 => ([some (.ref (mo)), some (.int ((vs_forlorn m G h))), some (.int (nI (h))), some (.int (z9)), some (.int (nI (g))), some (.int (nI (q + 1)))] : List (Option Value))) e3) ?_
              exact ih
            · skip
              refine mx_in_1 d_Mo_forlorn_70 ?_
              refine mx_goto 75 d_Mo_forlorn_71 (by decide) ?_
              refine mx_is3 d_Mo_forlorn_75 ?_
              refine mx_iN5 d_Mo_forlorn_76 ?_
              refine mx_goto 47 d_Mo_forlorn_79 (by decide) ?_
              have e3 : nI (1) = bI (!(vs_any (vs_can m h g) (q + 1) || vs_canAny m h g)) := by simp_all [vs_any_s, bI]
              refine mx_lsc (congrArg (fun z9 => ([some (.ref (mo)), some (.int ((vs_forlorn m G h))), some (.int (nI (h))), some (.int (z9)), some (.int (nI (g))), some (.int (nI (q + 1)))] : List (Option Value))) e3) ?_
              exact ih
        · try dsimp only
          refine mx_il5 d_Mo_forlorn_47 ?_
          refine mx_bip 8 d_Mo_forlorn_49 (by decide) ?_
          refine mx_icN_ge 82 d_Mo_forlorn_51 (by decide) (by omega) (by omega) (fun c_51 => ?_) (fun c_51 => absurd c_51 (by omega))
          refine mx_iN4 d_Mo_forlorn_82 ?_
          refine mx_goto 33 d_Mo_forlorn_85 (by decide) ?_
          refine mx_dn5 ?_
          have e3 : bI (!(vs_any (vs_can m h g) 8 || vs_canAny m h g)) = bI (!vs_canAny m h (g + 1)) := by first | (rw [vs_canAny_s]; done) | exact vs_flx c_55 (by omega)
          refine mx_lsc (congrArg (fun z9 => ([some (.ref (mo)), some (.int ((vs_forlorn m G h))), some (.int (nI (h))), some (.int (z9)), some (.int (nI (g + 1))), none] : List (Option Value))) e3) ?_
          exact ih
      · try dsimp only
        refine mx_il4 d_Mo_forlorn_33 ?_
        refine mx_al0 d_Mo_forlorn_35 ?_
        refine mx_getR d_Mo_forlorn_36 fl_Mo_7 (by assumption) (by assumption) ?_
        refine mx_in_4 d_Mo_forlorn_39 ?_
        refine mx_iald d_Mo_forlorn_40 (by assumption) (nI_inb (by omega) (by omega)) ?_
        refine mx_ti (y := (mx_up I (mo) 0 (nI (0))) (mo + 1) (4)) (by rw [nI_clamp (by omega)]) ?_
        refine mx_ti (y := nI (G)) ((congrFun (vs_hm hm) 4).trans hG) ?_
        refine mx_icN_ge 88 d_Mo_forlorn_41 (by decide) (by omega) (by omega) (fun c_41 => ?_) (fun c_41 => absurd c_41 (by omega))
        refine mx_il1 d_Mo_forlorn_88 ?_
        refine mx_il3 d_Mo_forlorn_89 ?_
        refine mx_ifB_eq 99 d_Mo_forlorn_90 (by decide) (fun c_90 => ?_) (fun c_90 => ?_)
        · skip
          refine mx_in_0 d_Mo_forlorn_99 ?_
          refine mx_ior d_Mo_forlorn_100 ?_
          refine mx_is1 d_Mo_forlorn_101 ?_
          refine mx_iN2 d_Mo_forlorn_102 ?_
          refine mx_goto 9 d_Mo_forlorn_105 (by decide) ?_
          refine mx_dn3 ?_
          refine mx_dn4 ?_
          have e1 : ((vs_forlorn m G h) ||| nI (0)) = (vs_forlorn m G (h + 1)) := by rw [vs_forlorn_s]; first | (rw [if_pos (Or.inl g0)]; done) | (rw [if_pos (Or.inr (by simpa using c_90))]; simp [mx_lit]; done) | rw [if_neg (fun h9 => h9.elim g0 (by simpa using c_90))]
          refine mx_lsc (congrArg (fun z9 => ([some (.ref (mo)), some (.int (z9)), some (.int (nI (h + 1))), none, none, none] : List (Option Value))) e1) ?_
          exact ih
        · skip
          refine mx_in_1 d_Mo_forlorn_93 ?_
          refine mx_il2 d_Mo_forlorn_94 ?_
          refine mx_ishl d_Mo_forlorn_95 ?_
          refine mx_goto 100 d_Mo_forlorn_96 (by decide) ?_
          refine mx_ior d_Mo_forlorn_100 ?_
          refine mx_is1 d_Mo_forlorn_101 ?_
          refine mx_iN2 d_Mo_forlorn_102 ?_
          refine mx_goto 9 d_Mo_forlorn_105 (by decide) ?_
          refine mx_dn3 ?_
          refine mx_dn4 ?_
          have e1 : ((vs_forlorn m G h) ||| (nI (1) <<< (nI (h) &&& 31))) = (vs_forlorn m G (h + 1)) := by rw [vs_forlorn_s]; first | (rw [if_pos (Or.inl g0)]; done) | (rw [if_pos (Or.inr (by simpa using c_90))]; simp [mx_lit]; done) | rw [if_neg (fun h9 => h9.elim g0 (by simpa using c_90))]
          refine mx_lsc (congrArg (fun z9 => ([some (.ref (mo)), some (.int (z9)), some (.int (nI (h + 1))), none, none, none] : List (Option Value))) e1) ?_
          exact ih
  · try dsimp only
    refine mx_il2 d_Mo_forlorn_9 ?_
    refine mx_al0 d_Mo_forlorn_10 ?_
    refine mx_getR d_Mo_forlorn_11 fl_Mo_7 (by assumption) (by assumption) ?_
    refine mx_in_3 d_Mo_forlorn_14 ?_
    refine mx_iald d_Mo_forlorn_15 (by assumption) (nI_inb (by omega) (by omega)) ?_
    refine mx_ti (y := (mx_up I (mo) 0 (nI (0))) (mo + 1) (3)) (by rw [nI_clamp (by omega)]) ?_
    refine mx_ti (y := nI (H)) ((congrFun (vs_hm hm) 3).trans hH) ?_
    refine mx_icN_ge 108 d_Mo_forlorn_16 (by decide) (by omega) (by omega) (fun c_16 => ?_) (fun c_16 => absurd c_16 (by omega))
    refine mx_il1 d_Mo_forlorn_108 ?_
    exact mx_iret d_Mo_forlorn_109 rfl (mx_ri_of2 (by first | rfl | rw [vs_fl0 m g0, vs_fl0 m g0]) rfl)
def vs_alk (m : Nat → Int32) (G a b : Nat) : Nat := if !(vs_any (vs_alikeNe m a b) G) && decide (m (11 + 4 * a + 1) = m (11 + 4 * b + 1)) then 1 else 0
theorem vs_alk_c (m : Nat → Int32) (G a b : Nat) : vs_alk m G a b = vs_alk m G b a := by
  unfold vs_alk
  rw [vs_any_congr (q := vs_alikeNe m b a) (fun g _ => by simp [vs_alikeNe, eq_comm]), show decide (m (11 + 4 * a + 1) = m (11 + 4 * b + 1)) = decide (m (11 + 4 * b + 1) = m (11 + 4 * a + 1)) by simp [eq_comm]]
def vs_alP (m : Nat → Int32) (G a n : Nat) (s : Nat) : Nat := vf n (fun b s => s + vs_alk m G a b) s
def vs_alk1 (m : Nat → Int32) (G n : Nat) : Nat := vf n (fun a s => vs_alP m G a a s) 0
def vs_alQ (m : Nat → Int32) (G a n : Nat) (s : Nat) : Nat := vf n (fun j s => s + vs_alk m G a (a + 1 + j)) s
def vs_alk2 (m : Nat → Int32) (G H n : Nat) : Nat := vf n (fun a s => vs_alQ m G a (H - (a + 1)) s) 0
theorem vs_alk_le (m : Nat → Int32) (G a b : Nat) : vs_alk m G a b ≤ 1 := by unfold vs_alk; split <;> omega
theorem vs_alk_eq (m : Nat → Int32) (G : Nat) {H : Nat} (hH : H ≤ 8) : vs_alk1 m G H = vs_alk2 m G H H := by
  have c := vs_alk_c m G
  have c10 := c 1 0; have c20 := c 2 0; have c21 := c 2 1; have c30 := c 3 0; have c31 := c 3 1; have c32 := c 3 2
  have c40 := c 4 0; have c41 := c 4 1; have c42 := c 4 2; have c43 := c 4 3; have c50 := c 5 0; have c51 := c 5 1; have c52 := c 5 2; have c53 := c 5 3; have c54 := c 5 4
  have c60 := c 6 0; have c61 := c 6 1; have c62 := c 6 2; have c63 := c 6 3; have c64 := c 6 4; have c65 := c 6 5
  have c70 := c 7 0; have c71 := c 7 1; have c72 := c 7 2; have c73 := c 7 3; have c74 := c 7 4; have c75 := c 7 5; have c76 := c 7 6
  have h9 : H = 0 ∨ H = 1 ∨ H = 2 ∨ H = 3 ∨ H = 4 ∨ H = 5 ∨ H = 6 ∨ H = 7 ∨ H = 8 := by omega
  rcases h9 with rfl | rfl | rfl | rfl | rfl | rfl | rfl | rfl | rfl <;> simp only [vs_alk1, vs_alk2, vs_alP, vs_alQ, vf, Nat.reduceAdd, Nat.reduceSub] <;> omega
theorem c_Vh_alike (hV : vh_ok S P x) (hSt : st_ok S P (x + 23)) (hSr : st_rel I (x + 23) m) (hH : m 3 = nI H) (hH8 : H ≤ 8) (hG : m 4 = nI G) (hG8 : G ≤ 8)  : mx_C l E M_Vh_alike 5 0 0 [.ref (x)] (t, S, I, P, J) (mx_ri (nI (vs_alk1 m G H)) (t, S, I, P, J)) := by
  obtain ⟨hV0, hVp0, hVp1, hVp2, hVp3, hVp4, hVp5, hVp7, hVp8, hVp9, hVp10, hVp11, hVp12, hVs15, hVs16, hVs68⟩ := id hV
  obtain ⟨hC0, hC1, hC2, hC3, hC4, hC5, hC6, hD1, hD2, hD3, hD4, hPe, hLo⟩ := id hSt
  obtain ⟨hPr, u0, u1, u2, u3, u4, u5, u6, u7, u8⟩ := id hSr
  obtain ⟨hA0, hA1, hA2, hA3, hA4, hA5, hA6, hA7, hB1, hB2, hB3, hB4, hB5, hB6, hB7⟩ := id hPe
  obtain ⟨r0, r1, r2, r3, r4, r5, r6, r7, r8⟩ := id hPr
  refine mx_C_of (ls0 := [some (.ref (x)), none, none, none]) (by decide +kernel) rfl rfl (Nat.le_of_ble_eq_true rfl) rfl ?_
  refine mx_in_0 d_Vh_alike_0 ?_
  refine mx_is1 d_Vh_alike_1 ?_
  refine mx_in_0 d_Vh_alike_2 ?_
  refine mx_is2 d_Vh_alike_3 ?_
  refine mx_loop (N := H) (ls := fun a => [some (.ref (x)), some (.int (nI (vs_alk1 m G a))), some (.int (nI (a))), none]) (X := fun a => (t, S, I, P, J)) (fun a ha ih => ?_) ?_
  · try dsimp only
    refine mx_il2 d_Vh_alike_4 ?_
    refine mx_al0 d_Vh_alike_5 ?_
    refine mx_getR d_Vh_alike_6 fl_Vh_51 (by assumption) (by assumption) ?_
    refine mx_getR d_Vh_alike_9 fl_Vh_162 (by assumption) (by assumption) ?_
    refine mx_getI d_Vh_alike_12 fl_Vh_290 (by assumption) ?_
    refine mx_ti (y := nI (H)) (r0.trans hH) ?_
    refine mx_icN_ge 55 d_Vh_alike_15 (by decide) (by omega) (by omega) (fun c_15 => absurd c_15 (by omega)) (fun c_15 => ?_)
    refine mx_in_0 d_Vh_alike_18 ?_
    refine mx_is3 d_Vh_alike_19 ?_
    have ih4 := ih
    refine mx_loop (N := a) (ls := fun b => [some (.ref (x)), some (.int (nI (vs_alP m G a b (vs_alk1 m G a)))), some (.int (nI (a))), some (.int (nI (b)))]) (X := fun b => (t, S, I, P, J)) (fun b hb ih => ?_) ?_
    · try dsimp only
      refine mx_il3 d_Vh_alike_20 ?_
      refine mx_il2 d_Vh_alike_21 ?_
      refine mx_icN_ge 49 d_Vh_alike_22 (by decide) (by omega) (by omega) (fun c_22 => absurd c_22 (by omega)) (fun c_22 => ?_)
      refine mx_al0 d_Vh_alike_25 ?_
      refine mx_getR d_Vh_alike_26 fl_Vh_51 (by assumption) (by assumption) ?_
      refine mx_getR d_Vh_alike_29 fl_Vh_162 (by assumption) (by assumption) ?_
      refine mx_il2 d_Vh_alike_32 ?_
      refine mx_il3 d_Vh_alike_33 ?_
      refine mx_cV2i d_Vh_alike_34 (c_Pe_areAlike hPe hPr hG hG8 (a := a) (b := b) (by omega) (by omega)) ok_Pe_areAlike ml_Vh_412 (by assumption) ⟨rfl, rfl⟩ (by decide) (Nat.le_of_ble_eq_true rfl) ?_
      refine mx_ifB_eq 43 d_Vh_alike_37 (by decide) (fun c_37 => ?_) (fun c_37 => ?_)
      · skip
        have k0 : vs_alk m G a b = 0 := by unfold vs_alk; rw [c_37]; rfl
        refine mx_iN3 d_Vh_alike_43 ?_
        refine mx_goto 20 d_Vh_alike_46 (by decide) ?_
        have e1 : nI (vs_alP m G a b (vs_alk1 m G a)) = nI (vs_alP m G a (b + 1) (vs_alk1 m G a)) := by (show nI _ = nI (_ + vs_alk _ _ _ _); rw [k0]; rfl)
        refine mx_lsc (congrArg (fun z9 => ([some (.ref (x)), some (.int (z9)), some (.int (nI (a))), some (.int (nI (b + 1)))] : List (Option Value))) e1) ?_
        exact ih
      · skip
        have k0 : vs_alk m G a b = 1 := by unfold vs_alk; rw [c_37]; rfl
        refine mx_iN1 d_Vh_alike_40 ?_
        refine mx_iN3 d_Vh_alike_43 ?_
        refine mx_goto 20 d_Vh_alike_46 (by decide) ?_
        have e1 : nI (vs_alP m G a b (vs_alk1 m G a) + 1) = nI (vs_alP m G a (b + 1) (vs_alk1 m G a)) := by (show nI _ = nI (_ + vs_alk _ _ _ _); rw [k0]; rfl)
        refine mx_lsc (congrArg (fun z9 => ([some (.ref (x)), some (.int (z9)), some (.int (nI (a))), some (.int (nI (b + 1)))] : List (Option Value))) e1) ?_
        exact ih
    · try dsimp only
      refine mx_il3 d_Vh_alike_20 ?_
      refine mx_il2 d_Vh_alike_21 ?_
      refine mx_icN_ge 49 d_Vh_alike_22 (by decide) (by omega) (by omega) (fun c_22 => ?_) (fun c_22 => absurd c_22 (by omega))
      refine mx_iN2 d_Vh_alike_49 ?_
      refine mx_goto 4 d_Vh_alike_52 (by decide) ?_
      refine mx_dn3 ?_
      have e1 : nI (vs_alP m G a a (vs_alk1 m G a)) = nI (vs_alk1 m G (a + 1)) := by rfl
      refine mx_lsc (congrArg (fun z9 => ([some (.ref (x)), some (.int (z9)), some (.int (nI (a + 1))), none] : List (Option Value))) e1) ?_
      exact ih
  · try dsimp only
    refine mx_il2 d_Vh_alike_4 ?_
    refine mx_al0 d_Vh_alike_5 ?_
    refine mx_getR d_Vh_alike_6 fl_Vh_51 (by assumption) (by assumption) ?_
    refine mx_getR d_Vh_alike_9 fl_Vh_162 (by assumption) (by assumption) ?_
    refine mx_getI d_Vh_alike_12 fl_Vh_290 (by assumption) ?_
    refine mx_ti (y := nI (H)) (r0.trans hH) ?_
    refine mx_icN_ge 55 d_Vh_alike_15 (by decide) (by omega) (by omega) (fun c_15 => ?_) (fun c_15 => absurd c_15 (by omega))
    refine mx_il1 d_Vh_alike_55 ?_
    exact mx_iret d_Vh_alike_56 rfl (mx_ri_of rfl)
theorem vs_alx {m : Nat → Int32} {a b g : Nat} {r : Bool} (hc : (!(vs_any (vs_alikeNe m a b) g) && r) = false) (hg : g ≤ G) : bI (!(vs_any (vs_alikeNe m a b) g) && r) = bI (!(vs_any (vs_alikeNe m a b) G) && r) := by
  rw [hc]
  cases r
  · simp
  · simp only [Bool.and_true, Bool.not_eq_false'] at hc ⊢
    rw [vs_any_mono hg hc]; rfl
theorem vs_andA {a b : Bool} : (!a && b) = (b && !a) := by cases a <;> cases b <;> rfl
theorem c_Mo_areAlike (hM : mo_ok S P mo) (hm : I (mo + 1) = m) (hG : m 4 = nI G) (hG8 : G ≤ 8) {a b : Nat} (ha : a < 8) (hb : b < 8) : mx_C l E M_Mo_areAlike 2 0 0 [.ref (mo), .int (nI (a)), .int (nI (b))] (t, S, I, P, J) (mx_ri (bI (!(vs_any (vs_alikeNe m a b) G) && decide (m (11 + 4 * a + 1) = m (11 + 4 * b + 1)))) (t, S, I, P, J)) := by
  obtain ⟨hM0, hMp1, hMp2, hMp4, hMp5, hMp7, hMp14, hMp21, hMp22, hMp23, hMp24, hMp25, hMp26, hMp27, hMs1, hMs2, hMs3, hMs4, hMs5, hMs6, hMs7, hMs8, hMs9, hMs10, hMs11, hMs12, hMs13⟩ := id hM
  refine mx_C_of (ls0 := [some (.ref (mo)), some (.int (nI (a))), some (.int (nI (b))), none, none]) (by decide +kernel) rfl rfl (Nat.le_of_ble_eq_true rfl) rfl ?_
  refine mx_al0 d_Mo_areAlike_0 ?_
  refine mx_il1 d_Mo_areAlike_1 ?_
  refine mx_in_1 d_Mo_areAlike_2 ?_
  refine mx_cV2i d_Mo_areAlike_3 (cm_of hM hm (h := a) (k := 1) (by omega) (by omega)) ok_Mo_of ml_Mo_68 (by assumption) ⟨rfl, rfl⟩ (by decide) (Nat.le_of_ble_eq_true rfl) ?_
  refine mx_al0 d_Mo_areAlike_6 ?_
  refine mx_il2 d_Mo_areAlike_7 ?_
  refine mx_in_1 d_Mo_areAlike_8 ?_
  refine mx_cV2i d_Mo_areAlike_9 (cm_of hM hm (h := b) (k := 1) (by omega) (by omega)) ok_Mo_of ml_Mo_68 (by assumption) ⟨rfl, rfl⟩ (by decide) (Nat.le_of_ble_eq_true rfl) ?_
  refine mx_icmp_ne 19 d_Mo_areAlike_12 (by decide) (fun c_12 => ?_) (fun c_12 => ?_)
  · skip
    have w0 : nI 0 = bI (!(vs_any (vs_alikeNe m a b) 0) && decide (m (11 + 4 * a + 1) = m (11 + 4 * b + 1))) := by simp [vs_any_0, bI, c_12]
    refine mx_in_0 d_Mo_areAlike_19 ?_
    rw [w0]
    refine mx_is3 d_Mo_areAlike_20 ?_
    refine mx_in_0 d_Mo_areAlike_21 ?_
    refine mx_is4 d_Mo_areAlike_22 ?_
    refine mx_loop (N := G) (ls := fun g => [some (.ref (mo)), some (.int (nI (a))), some (.int (nI (b))), some (.int (bI (!(vs_any (vs_alikeNe m a b) g) && decide (m (11 + 4 * a + 1) = m (11 + 4 * b + 1))))), some (.int (nI (g)))]) (X := fun g => (t, S, I, P, J)) (fun g hg ih => ?_) ?_
    · try dsimp only
      refine mx_il4 d_Mo_areAlike_24 ?_
      refine mx_al0 d_Mo_areAlike_26 ?_
      refine mx_getR d_Mo_areAlike_27 fl_Mo_7 (by assumption) (by assumption) ?_
      refine mx_in_4 d_Mo_areAlike_30 ?_
      refine mx_iald d_Mo_areAlike_31 (by assumption) (nI_inb (by omega) (by omega)) ?_
      refine mx_ti (y := I (mo + 1) (4)) (by rw [nI_clamp (by omega)]) ?_
      refine mx_ti (y := nI (G)) ((congrFun hm 4).trans hG) ?_
      refine mx_icN_ge 68 d_Mo_areAlike_32 (by decide) (by omega) (by omega) (fun c_32 => absurd c_32 (by omega)) (fun c_32 => ?_)
      refine mx_il3 d_Mo_areAlike_35 ?_
      refine mx_ifB_eq 68 d_Mo_areAlike_36 (by decide) (fun c_36 => ?_) (fun c_36 => ?_)
      · skip
        refine mx_il3 d_Mo_areAlike_68 ?_
        exact mx_zret d_Mo_areAlike_69 rfl (bI_01 _) (mx_ri_of (by first | rfl | exact vs_alx c_36 (by omega)))
      · skip
        refine mx_al0 d_Mo_areAlike_39 ?_
        refine mx_il1 d_Mo_areAlike_40 ?_
        refine mx_il4 d_Mo_areAlike_41 ?_
        refine mx_cV2i d_Mo_areAlike_43 (cm_rankOf hM hm (h := a) (g := g) (by omega) (by omega)) ok_Mo_rankOf ml_Mo_61 (by assumption) ⟨rfl, rfl⟩ (by decide) (Nat.le_of_ble_eq_true rfl) ?_
        refine mx_al0 d_Mo_areAlike_46 ?_
        refine mx_il2 d_Mo_areAlike_47 ?_
        refine mx_il4 d_Mo_areAlike_48 ?_
        refine mx_cV2i d_Mo_areAlike_50 (cm_rankOf hM hm (h := b) (g := g) (by omega) (by omega)) ok_Mo_rankOf ml_Mo_61 (by assumption) ⟨rfl, rfl⟩ (by decide) (Nat.le_of_ble_eq_true rfl) ?_
        refine mx_icmp_ne 60 d_Mo_areAlike_53 (by decide) (fun c_53 => ?_) (fun c_53 => ?_)
        · skip
          refine mx_in_0 d_Mo_areAlike_60 ?_
          refine mx_is3 d_Mo_areAlike_61 ?_
          refine mx_iN4 d_Mo_areAlike_62 ?_
          refine mx_goto 24 d_Mo_areAlike_65 (by decide) ?_
          have e3 : nI (0) = bI (!(vs_any (vs_alikeNe m a b) (g + 1)) && decide (m (11 + 4 * a + 1) = m (11 + 4 * b + 1))) := by simp_all [vs_any_s, vs_alikeNe, bI]
          refine mx_lsc (congrArg (fun z9 => ([some (.ref (mo)), some (.int (nI (a))), some (.int (nI (b))), some (.int (z9)), some (.int (nI (g + 1)))] : List (Option Value))) e3) ?_
          exact ih
        · skip
          refine mx_in_1 d_Mo_areAlike_56 ?_
          refine mx_goto 61 d_Mo_areAlike_57 (by decide) ?_
          refine mx_is3 d_Mo_areAlike_61 ?_
          refine mx_iN4 d_Mo_areAlike_62 ?_
          refine mx_goto 24 d_Mo_areAlike_65 (by decide) ?_
          have e3 : nI (1) = bI (!(vs_any (vs_alikeNe m a b) (g + 1)) && decide (m (11 + 4 * a + 1) = m (11 + 4 * b + 1))) := by simp_all [vs_any_s, vs_alikeNe, bI]
          refine mx_lsc (congrArg (fun z9 => ([some (.ref (mo)), some (.int (nI (a))), some (.int (nI (b))), some (.int (z9)), some (.int (nI (g + 1)))] : List (Option Value))) e3) ?_
          exact ih
    · try dsimp only
      refine mx_il4 d_Mo_areAlike_24 ?_
      refine mx_al0 d_Mo_areAlike_26 ?_
      refine mx_getR d_Mo_areAlike_27 fl_Mo_7 (by assumption) (by assumption) ?_
      refine mx_in_4 d_Mo_areAlike_30 ?_
      refine mx_iald d_Mo_areAlike_31 (by assumption) (nI_inb (by omega) (by omega)) ?_
      refine mx_ti (y := I (mo + 1) (4)) (by rw [nI_clamp (by omega)]) ?_
      refine mx_ti (y := nI (G)) ((congrFun hm 4).trans hG) ?_
      refine mx_icN_ge 68 d_Mo_areAlike_32 (by decide) (by omega) (by omega) (fun c_32 => ?_) (fun c_32 => absurd c_32 (by omega))
      refine mx_il3 d_Mo_areAlike_68 ?_
      exact mx_zret d_Mo_areAlike_69 rfl (bI_01 _) (mx_ri_of (by first | rfl | exact vs_alx c_36 (by omega)))
  · skip
    have w0 : nI 1 = bI (!(vs_any (vs_alikeNe m a b) 0) && decide (m (11 + 4 * a + 1) = m (11 + 4 * b + 1))) := by simp [vs_any_0, bI, c_12]
    refine mx_in_1 d_Mo_areAlike_15 ?_
    refine mx_goto 20 d_Mo_areAlike_16 (by decide) ?_
    rw [w0]
    refine mx_is3 d_Mo_areAlike_20 ?_
    refine mx_in_0 d_Mo_areAlike_21 ?_
    refine mx_is4 d_Mo_areAlike_22 ?_
    refine mx_loop (N := G) (ls := fun g => [some (.ref (mo)), some (.int (nI (a))), some (.int (nI (b))), some (.int (bI (!(vs_any (vs_alikeNe m a b) g) && decide (m (11 + 4 * a + 1) = m (11 + 4 * b + 1))))), some (.int (nI (g)))]) (X := fun g => (t, S, I, P, J)) (fun g hg ih => ?_) ?_
    · try dsimp only
      refine mx_il4 d_Mo_areAlike_24 ?_
      refine mx_al0 d_Mo_areAlike_26 ?_
      refine mx_getR d_Mo_areAlike_27 fl_Mo_7 (by assumption) (by assumption) ?_
      refine mx_in_4 d_Mo_areAlike_30 ?_
      refine mx_iald d_Mo_areAlike_31 (by assumption) (nI_inb (by omega) (by omega)) ?_
      refine mx_ti (y := I (mo + 1) (4)) (by rw [nI_clamp (by omega)]) ?_
      refine mx_ti (y := nI (G)) ((congrFun hm 4).trans hG) ?_
      refine mx_icN_ge 68 d_Mo_areAlike_32 (by decide) (by omega) (by omega) (fun c_32 => absurd c_32 (by omega)) (fun c_32 => ?_)
      refine mx_il3 d_Mo_areAlike_35 ?_
      refine mx_ifB_eq 68 d_Mo_areAlike_36 (by decide) (fun c_36 => ?_) (fun c_36 => ?_)
      · skip
        refine mx_il3 d_Mo_areAlike_68 ?_
        exact mx_zret d_Mo_areAlike_69 rfl (bI_01 _) (mx_ri_of (by first | rfl | exact vs_alx c_36 (by omega)))
      · skip
        refine mx_al0 d_Mo_areAlike_39 ?_
        refine mx_il1 d_Mo_areAlike_40 ?_
        refine mx_il4 d_Mo_areAlike_41 ?_
        refine mx_cV2i d_Mo_areAlike_43 (cm_rankOf hM hm (h := a) (g := g) (by omega) (by omega)) ok_Mo_rankOf ml_Mo_61 (by assumption) ⟨rfl, rfl⟩ (by decide) (Nat.le_of_ble_eq_true rfl) ?_
        refine mx_al0 d_Mo_areAlike_46 ?_
        refine mx_il2 d_Mo_areAlike_47 ?_
        refine mx_il4 d_Mo_areAlike_48 ?_
        refine mx_cV2i d_Mo_areAlike_50 (cm_rankOf hM hm (h := b) (g := g) (by omega) (by omega)) ok_Mo_rankOf ml_Mo_61 (by assumption) ⟨rfl, rfl⟩ (by decide) (Nat.le_of_ble_eq_true rfl) ?_
        refine mx_icmp_ne 60 d_Mo_areAlike_53 (by decide) (fun c_53 => ?_) (fun c_53 => ?_)
        · skip
          refine mx_in_0 d_Mo_areAlike_60 ?_
          refine mx_is3 d_Mo_areAlike_61 ?_
          refine mx_iN4 d_Mo_areAlike_62 ?_
          refine mx_goto 24 d_Mo_areAlike_65 (by decide) ?_
          have e3 : nI (0) = bI (!(vs_any (vs_alikeNe m a b) (g + 1)) && decide (m (11 + 4 * a + 1) = m (11 + 4 * b + 1))) := by simp_all [vs_any_s, vs_alikeNe, bI]
          refine mx_lsc (congrArg (fun z9 => ([some (.ref (mo)), some (.int (nI (a))), some (.int (nI (b))), some (.int (z9)), some (.int (nI (g + 1)))] : List (Option Value))) e3) ?_
          exact ih
        · skip
          refine mx_in_1 d_Mo_areAlike_56 ?_
          refine mx_goto 61 d_Mo_areAlike_57 (by decide) ?_
          refine mx_is3 d_Mo_areAlike_61 ?_
          refine mx_iN4 d_Mo_areAlike_62 ?_
          refine mx_goto 24 d_Mo_areAlike_65 (by decide) ?_
          have e3 : nI (1) = bI (!(vs_any (vs_alikeNe m a b) (g + 1)) && decide (m (11 + 4 * a + 1) = m (11 + 4 * b + 1))) := by simp_all [vs_any_s, vs_alikeNe, bI]
          refine mx_lsc (congrArg (fun z9 => ([some (.ref (mo)), some (.int (nI (a))), some (.int (nI (b))), some (.int (z9)), some (.int (nI (g + 1)))] : List (Option Value))) e3) ?_
          exact ih
    · try dsimp only
      refine mx_il4 d_Mo_areAlike_24 ?_
      refine mx_al0 d_Mo_areAlike_26 ?_
      refine mx_getR d_Mo_areAlike_27 fl_Mo_7 (by assumption) (by assumption) ?_
      refine mx_in_4 d_Mo_areAlike_30 ?_
      refine mx_iald d_Mo_areAlike_31 (by assumption) (nI_inb (by omega) (by omega)) ?_
      refine mx_ti (y := I (mo + 1) (4)) (by rw [nI_clamp (by omega)]) ?_
      refine mx_ti (y := nI (G)) ((congrFun hm 4).trans hG) ?_
      refine mx_icN_ge 68 d_Mo_areAlike_32 (by decide) (by omega) (by omega) (fun c_32 => ?_) (fun c_32 => absurd c_32 (by omega))
      refine mx_il3 d_Mo_areAlike_68 ?_
      exact mx_zret d_Mo_areAlike_69 rfl (bI_01 _) (mx_ri_of (by first | rfl | exact vs_alx c_36 (by omega)))
end H16
