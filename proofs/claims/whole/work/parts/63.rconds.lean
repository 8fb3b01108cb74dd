/-! THE REFERENCE READS THE LAW: sums and conditions, and what they come to -/
section AV63
variable {l : Launch} {E : mx_Env} {t : Nat} {S : mx_S} {I K K2 K3 I0 : mx_I} {P : mx_P} {J : mx_G} {mo L a e c n i dp u u2 tt k sep np : Nat} {f : Nat → Nat} {w : List Nat} {b : Bool} {v v2 : Int32} {fc : Nat → Int32} {A : Nat → gq_R}
theorem mc_out.ok {r : gq_R} (h : mc_out I K mo f L dp u fc v r) (hf : K mo 12 = -1) (hL : L ≤ 400) : ∃ q, r = .inr q ∧ mc_s I K mo f L q.2 dp ∧ v = gr_v fc q.1 := by
  cases r with
  | inl e => exact absurd hf (mc_bad.f1 h hL)
  | inr q => exact ⟨q, rfl, h.1, h.2⟩
theorem mc_out.no {r : gq_R} (h : mc_out I K mo f L dp u fc v r) (hf : ¬ K mo 12 = -1) : ∃ e, r = .inl e ∧ mc_bad I K mo f L e u := by
  cases r with
  | inl e => exact ⟨e, rfl, h⟩
  | inr q => exact absurd h.1.2.1 hf
theorem mc_out.tr {r : gq_R} {c2 d2 : Nat} (h0 : mc_s I K mo f L c2 d2) (h : mc_out K K2 mo f L dp u fc v r) : mc_out I K2 mo f L dp u fc v r := by
  cases r with
  | inl e => exact h0.trb h
  | inr q => exact ⟨h0.tr h.1, h.2⟩
/-- where the reader of a chain stands: behind k more of its kind -/
def mlp (I K : mx_I) (mo : Nat) (f : Nat → Nat) (L dp u : Nat) (fc : Nat → Int32) (np : Nat) (A : Nat → gq_R) (sep c k : Nat) (v : Int32) : Prop := (∃ e, gq_lp (tK f L) A sep 400 true [] c = .inl e ∧ mc_bad I K mo f L e u) ∨ (∃ tt d, mc_s I K mo f L tt dp ∧ v = gr_v fc d ∧ gr_pu fc np d ∧ k + 1 + c ≤ tt ∧ gq_lp (tK f L) A sep 400 true [] c = if tK f L tt = sep then gq_lp (tK f L) A sep (399 - k) false d (tt + 1) else .inr (d, tt))
theorem mlp_0 (h : mc_out I K mo f L dp u fc v (A c)) (hg : gq_go (tq_n f L) A) (hp : gr_go fc np A) : mlp I K mo f L dp u fc np A sep c 0 v := by
  have e0 : gq_lp (tK f L) A sep 400 true [] c = match A c with
    | .inl e => .inl e
    | .inr q => if tK f L q.2 = sep then gq_lp (tK f L) A sep 399 false ([] ++ (q.1 ++ if true = true then [] else [-nI sep])) (q.2 + 1) else .inr ([] ++ (q.1 ++ if true = true then [] else [-nI sep]), q.2) := by
    rw [show (400 : Nat) = 399 + 1 from rfl, gq_lp_s]
    cases A c <;> rfl
  cases hr : A c with
  | inl e =>
    rw [hr] at h e0
    exact Or.inl ⟨e, e0, h⟩
  | inr q =>
    rw [hr] at h e0
    have g := hg.2.1 c q hr
    refine Or.inr ⟨q.2, q.1, h.1, h.2, hp c q hr, by omega, ?_⟩
    rw [e0]
    simp
theorem mlp.ok (h : mlp I K mo f L dp u fc np A sep c k v) (hf : K mo 12 = -1) (hL : L ≤ 400) : ∃ tt d, mc_s I K mo f L tt dp ∧ v = gr_v fc d ∧ gr_pu fc np d ∧ k + 1 + c ≤ tt ∧ gq_lp (tK f L) A sep 400 true [] c = if tK f L tt = sep then gq_lp (tK f L) A sep (399 - k) false d (tt + 1) else .inr (d, tt) := by
  rcases h with ⟨e, -, h⟩ | h
  · exact absurd hf (h.f1 hL)
  · exact h
theorem mlp.no (h : mlp I K mo f L dp u fc np A sep c k v) (hf : ¬ K mo 12 = -1) : mc_out I K mo f L dp u fc v (gq_lp (tK f L) A sep 400 true [] c) := by
  rcases h with ⟨e, h1, h⟩ | ⟨tt, d, h, -⟩
  · rw [h1]; exact h
  · exact absurd h.2.1 hf
theorem mlp_s {d : List Int32} (hv : v = gr_v fc d) (hd : gr_pu fc (np + 1) d) (hk : k + 1 + c ≤ tt) (htT : tt < tq_n f L) (hL : L ≤ 400) (he : gq_lp (tK f L) A sep 400 true [] c = gq_lp (tK f L) A sep (399 - k) false d (tt + 1)) (h : mc_out I K mo f L dp u fc v2 (A (tt + 1))) (hg : gq_go (tq_n f L) A) (hp : gr_go fc np A) (h1 : 1 ≤ np) (hn : np ≤ 62) (h35 : ¬ (-nI sep) = -35) (hps : ¬ lw_psh (-nI sep)) {v3 : Int32} (hv3 : (∃ q, A (tt + 1) = .inr q) → v3 = lw_join (nI sep) v v2) : mlp I K mo f L dp u fc (np + 1) A sep c (k + 1) v3 := by
  have hT := tq_n_le f L
  have e0 : gq_lp (tK f L) A sep 400 true [] c = match A (tt + 1) with
    | .inl e => .inl e
    | .inr q => if tK f L q.2 = sep then gq_lp (tK f L) A sep (399 - (k + 1)) false (d ++ (q.1 ++ if false = true then [] else [-nI sep])) (q.2 + 1) else .inr (d ++ (q.1 ++ if false = true then [] else [-nI sep]), q.2) := by
    rw [he, show 399 - k = (399 - (k + 1)) + 1 by omega, gq_lp_s]
    cases A (tt + 1) <;> rfl
  cases hr : A (tt + 1) with
  | inl e =>
    rw [hr] at h e0
    exact Or.inl ⟨e, e0, h⟩
  | inr q =>
    rw [hr] at h e0
    have g := hg.2.1 _ q hr
    have gb := gr_bin h35 hps hd (hp _ q hr) (by omega) (by omega) (by omega) h1
    rw [Int32.neg_neg] at gb
    refine Or.inr ⟨q.2, d ++ (q.1 ++ [-nI sep]), h.1, ?_, gb.1, by omega, ?_⟩
    · rw [gb.2, ← hv, ← h.2]; exact hv3 ⟨q, hr⟩
    · rw [e0]; simp
theorem mlp_end {d : List Int32} (hs : mc_s I K mo f L tt dp) (hv : v = gr_v fc d) (hk : ¬ tK f L tt = sep) (he : gq_lp (tK f L) A sep 400 true [] c = if tK f L tt = sep then gq_lp (tK f L) A sep (399 - k) false d (tt + 1) else .inr (d, tt)) : mc_out I K mo f L dp u fc v (gq_lp (tK f L) A sep 400 true [] c) := by
  rw [he, if_neg hk]
  exact ⟨hs, hv⟩
/-- a sign is taken -/
theorem mc_s.sg {x : Nat} (h : mc_s I K mo f L c dp) (hk : tK f L c = x) (h0 : 0 < x) (h9 : x < 9) (h2 : ¬ x = 2) : mc_s I (mx_up K mo 11 (nI (tq_b f L c + 1))) mo f L (c + 1) dp := h.up (tK_lt hk h0) (tq_ks_en (show 0 < tK f L c by omega) (show tK f L c < 9 by omega) (show ¬ tK f L c = 2 by omega)).symm
theorem mlp.big (h : mlp I K mo f L dp u fc np A sep c 400 v) (hL : L ≤ 400) : ¬ K mo 12 = -1 := fun hf => by
  obtain ⟨tt, d, h1, -, -, h2, -⟩ := h.ok hf hL
  have := h1.cu.choose_spec.2.2.2
  have := tq_n_le f L
  omega
theorem c_Mo_sum (hM : mo_ok S P mo) (hx : mt_tx I mo f L) (hs0 : mc_s I I mo f L c dp) (hmf : mf_ok I mo fc)  : mx_C l E M_Mo_sum 6 0 0 [.ref (mo)] (t, S, I, P, J) (mx_vR t S P J (fun v K => mc_out I K mo f L dp 500 fc v (gq_sum (tK f L) (tV f L) c))) := by
  obtain ⟨hM0, hMp1, hMp2, hMp4, hMp5, hMp7, hMp14, hMp21, hMp22, hMp23, hMp24, hMp25, hMp26, hMp27, hMs1, hMs2, hMs3, hMs4, hMs5, hMs6, hMs7, hMs8, hMs9, hMs10, hMs11, hMs12, hMs13⟩ := id hM
  have hL := hx.2.1
  refine mx_C_of (ls0 := [some (.ref (mo)), none]) (by decide +kernel) rfl rfl (Nat.le_of_ble_eq_true rfl) rfl ?_
  refine mx_al0 d_Mo_sum_0 ?_
  refine mx_cV0y d_Mo_sum_1 (c_Mo_part hM hx hs0 hmf) ok_Mo_part ml_Mo_216 (by assumption) ⟨rfl, rfl⟩ (by decide) (Nat.le_of_ble_eq_true rfl) (fun v1 K1 hK1 => ?_)
  refine mx_is1 d_Mo_sum_4 ?_
  refine mx_loopX (α := (mx_I × Int32)) (N := 400) (a0 := (K1, v1)) (fun k9 z9 => mlp I z9.1 mo f L dp 500 fc 2 (gq_part (tK f L) (tV f L)) 8 c k9 z9.2) (ls := fun k9 z9 => [some (.ref (mo)), some (.int (z9.2))]) (X := fun k9 z9 => (t, S, z9.1, P, J)) (mlp_0 hK1 (gq_go_part (tK0 rfl)) (fun t q h => (gr_part (fc := fc) tV1 t q h).le (by omega))) (fun k9 hk9 z9 hinv ih => ?_) (fun z9 hinv => ?_)
  · skip
    obtain ⟨K, v⟩ := z9
    try dsimp only at hinv ih ⊢
    refine mx_al0 d_Mo_sum_5 ?_
    refine mx_getI d_Mo_sum_6 fl_Mo_25 (by assumption) ?_
    refine mx_ic_m1 d_Mo_sum_9 ?_
    refine mx_icmp_ne 42 d_Mo_sum_10 (by decide) (fun c_10 => ?_) (fun c_10 => ?_)
    · skip
      refine mx_il1 d_Mo_sum_42 ?_
      exact mx_iret d_Mo_sum_43 rfl (mx_vR_i (hinv.no c_10))
    · skip
      obtain ⟨tt, d, hs, hv, hd, hkk, he⟩ := hinv.ok c_10 hL
      have hTT := hs.cu.choose_spec.2.2.2
      refine mx_al0 d_Mo_sum_13 ?_
      refine mx_bip 43 d_Mo_sum_14 (by decide) ?_
      refine mx_cV1iR d_Mo_sum_16 (c_Mo_sign_43 hM (hs.tx hx) hs) ok_Mo_isSign ml_Mo_188 (by assumption) ⟨rfl, rfl⟩ (by decide) (Nat.le_of_ble_eq_true rfl) (fun K2 hK2 => ?_)
      have ha := hK2.2
      have hs := hK2.1
      refine mx_ifB_eq 42 d_Mo_sum_19 (by decide) (fun c_19 => ?_) (fun c_19 => ?_)
      · skip
        have hk8 := of_decide_eq_false c_19
        refine mx_il1 d_Mo_sum_42 ?_
        exact mx_iret d_Mo_sum_43 rfl (mx_vR_i (mlp_end hs hv hk8 he))
      · skip
        have hk8 := of_decide_eq_true c_19
        have he2 := he.trans (if_pos hk8)
        have htT := tK_lt hk8 (by omega)
        refine mx_al0 d_Mo_sum_22 ?_
        refine mx_dup d_Mo_sum_23 rfl ?_
        refine mx_getI d_Mo_sum_24 fl_Mo_87 (by assumption) ?_
        refine mx_ti (y := nI (tq_b f L tt)) (ha) ?_
        refine mx_in_1 d_Mo_sum_27 ?_
        refine mx_iaddN d_Mo_sum_28 ?_
        refine mx_putI d_Mo_sum_29 fl_Mo_87 (by assumption) ?_
        have hs := hs.sg hk8 (by omega) (by omega) (by omega)
        refine mx_il1 d_Mo_sum_32 ?_
        refine mx_al0 d_Mo_sum_33 ?_
        refine mx_cV0y d_Mo_sum_34 (c_Mo_part hM (hs.tx hx) hs.self (hs.1.mf hmf)) ok_Mo_part ml_Mo_216 (by assumption) ⟨rfl, rfl⟩ (by decide) (Nat.le_of_ble_eq_true rfl) (fun v2 K3 hK3 => ?_)
        have hK3 := hs0.self.tr hs |>.self |> fun _ => mc_out.tr hs hK3
        refine mx_iadd d_Mo_sum_37 ?_
        refine mx_is1 d_Mo_sum_38 ?_
        refine mx_goto 5 d_Mo_sum_39 (by decide) ?_
        exact ih (K3, (v + v2)) (mlp_s hv hd hkk htT hL he2 hK3 (gq_go_part (tK0 rfl)) (gr_part tV1) (by omega) (by omega) (by decide) (by decide) (fun _ => rfl))
  · skip
    obtain ⟨K, v⟩ := z9
    try dsimp only at hinv ⊢
    have hbig := hinv.big hL
    refine mx_al0 d_Mo_sum_5 ?_
    refine mx_getI d_Mo_sum_6 fl_Mo_25 (by assumption) ?_
    refine mx_ic_m1 d_Mo_sum_9 ?_
    refine mx_icmp_ne 42 d_Mo_sum_10 (by decide) (fun c_10 => ?_) (fun c_10 => absurd c_10 (fun z => hbig z))
    refine mx_il1 d_Mo_sum_42 ?_
    exact mx_iret d_Mo_sum_43 rfl (mx_vR_i (hinv.no c_10))
theorem mc_bad.up {x : Int32} {k : Nat} (h : mc_bad I K mo f L e u) (hk : k = 13) : mc_bad I (mx_up K mo k x) mo f L e u := by
  obtain ⟨h1, h2, a, h3, h4⟩ := h
  exact ⟨h1.uu (by omega), by rw [← h2]; simp [mx_up, hk], a, by rw [← h3]; simp [mx_up, hk], h4⟩
theorem mc_bad.at (h : mc_bad I K mo f L e u) (ha : K mo 11 = nI a) (hu : a + 1 ≤ u2) : mc_bad I (mx_up K mo 11 (nI (a + 1))) mo f L e u2 := ⟨h.1.uu (by omega), by rw [← h.2.1]; simp [mx_up], a + 1, mu_e, hu⟩
theorem pln_end {q : List Int32 × Nat} {k : Nat} (hnm : ¬ (tK f L c = 17 ∨ tK f L c = 18)) (h1 : gq_sum (tK f L) (tV f L) c = .inr q) (hk : tK f L q.2 = k) (hk67 : k = 6 ∨ k = 7) (hv : v = gr_v fc q.1) (h : mc_out I K mo f L dp 500 fc v2 (gq_sum (tK f L) (tV f L) (q.2 + 1))) {v3 : Int32} (hv3 : v3 = lw_join (nI k) v v2) : mc_out I K mo f L dp 500 fc v3 (gq_pln (tK f L) (tV f L) c) := by
  cases hr : gq_sum (tK f L) (tV f L) (q.2 + 1) with
  | inl e =>
    rw [hr] at h
    rw [gq_pln_3 hnm h1 (by omega) hr]
    exact h
  | inr r =>
    rw [hr] at h
    rw [gq_pln_4 hnm h1 (by omega) hr, hk, List.append_assoc]
    refine ⟨h.1, ?_⟩
    have g1 := gr_sum (fc := fc) tV1 _ _ h1
    have g2 := gr_sum (fc := fc) tV1 _ _ hr
    rcases hk67 with z | z <;> subst z
    · have gb := gr_bin (w := -nI 6) (by decide) (by decide) g1 g2 (by omega) (by omega) (by omega) (by omega)
      rw [gb.2, ← hv, ← h.2, Int32.neg_neg]; exact hv3
    · have gb := gr_bin (w := -nI 7) (by decide) (by decide) g1 g2 (by omega) (by omega) (by omega) (by omega)
      rw [gb.2, ← hv, ← h.2, Int32.neg_neg]; exact hv3
theorem lj6 {x y : Int32} : lw_join (nI 6) x y = bI (decide (x < y)) := if_pos rfl
theorem lj7 {x y : Int32} : lw_join (nI 7) x y = bI (decide (y < x)) := (if_neg (by decide)).trans (if_pos rfl)
theorem an01 (x : Int32) : x &&& 1 = 0 ∨ x &&& 1 = 1 := by
  obtain ⟨j, hj, e⟩ := pk_andE x (m := 1) 1 (by decide)
  have e : x &&& 1 = nI j := e
  rw [e]
  have : j = 0 ∨ j = 1 := by omega
  rcases this with rfl | rfl
  · exact Or.inl rfl
  · exact Or.inr rfl
/-- a truth given back, as the machine cuts it (the proof follows that of W.zret) -/
theorem mx_zretN {M : mx_M} {d k n pc nx : Nat} {ls : List (Option Value)} {Q : mx_R → mx_H → Prop} {X : mx_H} {x : Int32} (hd : mx_d M pc .ireturn 1 nx) (hr : mx_rt M = some .boolean) (hq : Q (.inl (some (.int (x &&& 1)))) X) : mx_E l E M d k n pc ls [.int x] X Q := by
  obtain ⟨hdg, -⟩ := hd
  intro p e R s m args below meth c9 H locs cells slots mc ms A F h1 h2 h3 h4 hP hS hl
  refine W.widen (k := mc) (n := ms) (by omega) (by omega) (vx_ret ?_)
  intro T hT X1
  have hb : c9.code = mx_cc M := F.2.1
  have hexec := F.1
  have hrt : meth.sig.returnType = some .boolean := F.2.2.2.2.2.1.trans hr
  have hn : narrow .boolean (.int x) = .int (x &&& 1) := rfl
  obtain ⟨fs, hret, hrun, hended, hW, hframe⟩ := X1.leave (v := some (.int (x &&& 1))) (hlocks := F.2.2.2.2.2.2.1) (fun h => by rw [hrt] at h; cases h)
  have hmeth' : T.vm.method? m = some meth := X1.method'
  refine ⟨T.setFrames fs, ?_, .returned (some (.int (x &&& 1))), hrun, hended, ⟨⟨_, X, rfl, hq, by rw [show (T.setFrames fs).heap = H from hT]; exact hP.2⟩, hS.F hT⟩, locs, ⟨⟨_, rfl⟩, hW, hframe⟩, fun q h => hS.2.2 q h⟩
  jvm_step X1.here [X1.here.top, hexec, hb, hdg, hmeth', hrt, hn]
  (try refine ⟨rfl, ?_⟩); (try refine ⟨rfl, ?_⟩)
  first | (intro acts; rw [hret _ acts rfl rfl rfl]) | rw [hret _ _ rfl rfl rfl]
  exact Steps.refl _
theorem b01 : (nI 0 = 0 ∨ nI 0 = (1 : Int32)) ∧ (nI 1 = 0 ∨ nI 1 = (1 : Int32)) := ⟨Or.inl rfl, Or.inr rfl⟩
theorem c_Mo_plain (hM : mo_ok S P mo) (hx : mt_tx I mo f L) (hs0 : mc_s I I mo f L c dp) (hmf : mf_ok I mo fc)  : mx_C l E M_Mo_plain 7 0 0 [.ref (mo)] (t, S, I, P, J) (mx_vR t S P J (fun v K => (v = 0 ∨ v = 1) ∧ mc_out I K mo f L dp 500 fc v (gq_pln (tK f L) (tV f L) c))) := by
  obtain ⟨hM0, hMp1, hMp2, hMp4, hMp5, hMp7, hMp14, hMp21, hMp22, hMp23, hMp24, hMp25, hMp26, hMp27, hMs1, hMs2, hMs3, hMs4, hMs5, hMs6, hMs7, hMs8, hMs9, hMs10, hMs11, hMs12, hMs13⟩ := id hM
  have hL := hx.2.1
  refine mx_C_of (ls0 := [some (.ref (mo)), none, none, none]) (by decide +kernel) rfl rfl (Nat.le_of_ble_eq_true rfl) rfl ?_
  refine mx_al0 d_Mo_plain_0 ?_
  refine mx_ldcS (i := 48) d_Mo_plain_1 rfl rfl ?_
  refine mx_cV1iR d_Mo_plain_3 (c_Mo_has_48 hM (hs0.tx hx) hs0) ok_Mo_has ml_Mo_117 (by assumption) ⟨rfl, rfl⟩ (by decide) (Nat.le_of_ble_eq_true rfl) (fun K1 hK1 => ?_)
  refine mx_ifB_eq 14 d_Mo_plain_6 (by decide) (fun c_6 => ?_) (fun c_6 => ?_)
  · skip
    have hk17 : ¬ tK f L (c) = 17 := of_decide_eq_false c_6
    rw [if_neg hk17] at hK1
    have ha := hK1.2 hk17
    have hs := hK1.1
    refine mx_al0 d_Mo_plain_14 ?_
    refine mx_ldcS (i := 49) d_Mo_plain_15 rfl rfl ?_
    refine mx_cV1iR d_Mo_plain_17 (c_Mo_has_49 hM (hs.tx hx) hs) ok_Mo_has ml_Mo_117 (by assumption) ⟨rfl, rfl⟩ (by decide) (Nat.le_of_ble_eq_true rfl) (fun K2 hK2 => ?_)
    refine mx_ifB_eq 28 d_Mo_plain_20 (by decide) (fun c_20 => ?_) (fun c_20 => ?_)
    · skip
      have hk18 : ¬ tK f L (c) = 18 := of_decide_eq_false c_20
      rw [if_neg hk18] at hK2
      have ha := hK2.2 hk18
      have hs := hK2.1
      refine mx_al0 d_Mo_plain_28 ?_
      refine mx_cV0y d_Mo_plain_29 (c_Mo_sum hM (hs.tx hx) hs.self (hs.1.mf hmf)) ok_Mo_sum ml_Mo_230 (by assumption) ⟨rfl, rfl⟩ (by decide) (Nat.le_of_ble_eq_true rfl) (fun v1 K3 hK3 => ?_)
      have hK3 := mc_out.tr hs hK3
      refine mx_is1 d_Mo_plain_32 ?_
      refine mx_al0 d_Mo_plain_33 ?_
      refine mx_getI d_Mo_plain_34 fl_Mo_25 (by assumption) ?_
      refine mx_ic_m1 d_Mo_plain_37 ?_
      refine mx_icmp_eq 43 d_Mo_plain_38 (by decide) (fun c_38 => ?_) (fun c_38 => ?_)
      · skip
        obtain ⟨q, hq, hs, hv⟩ := hK3.ok c_38 hL
        have hnm : ¬ (tK f L c = 17 ∨ tK f L c = 18) := fun z => z.elim hk17 hk18
        refine mx_al0 d_Mo_plain_43 ?_
        refine mx_bip 60 d_Mo_plain_44 (by decide) ?_
        refine mx_cV1iR d_Mo_plain_46 (c_Mo_sign_60 hM (hs.tx hx) hs) ok_Mo_isSign ml_Mo_188 (by assumption) ⟨rfl, rfl⟩ (by decide) (Nat.le_of_ble_eq_true rfl) (fun K4 hK4 => ?_)
        have ha := hK4.2
        have hs := hK4.1
        refine mx_is2 d_Mo_plain_49 ?_
        refine mx_il2 d_Mo_plain_50 ?_
        refine mx_ifB_ne 73 d_Mo_plain_51 (by decide) (fun c_51 => ?_) (fun c_51 => ?_)
        · skip
          have hk6 : tK f L q.2 = 6 := of_decide_eq_true c_51
          refine mx_al0 d_Mo_plain_73 ?_
          refine mx_dup d_Mo_plain_74 rfl ?_
          refine mx_getI d_Mo_plain_75 fl_Mo_87 (by assumption) ?_
          refine mx_ti (y := nI (tq_b f L q.2)) (ha) ?_
          refine mx_in_1 d_Mo_plain_78 ?_
          refine mx_iaddN d_Mo_plain_79 ?_
          refine mx_putI d_Mo_plain_80 fl_Mo_87 (by assumption) ?_
          have hs := hs.sg hk6 (by omega) (by omega) (by omega)
          refine mx_al0 d_Mo_plain_83 ?_
          refine mx_cV0y d_Mo_plain_84 (c_Mo_sum hM (hs.tx hx) hs.self (hs.1.mf hmf)) ok_Mo_sum ml_Mo_230 (by assumption) ⟨rfl, rfl⟩ (by decide) (Nat.le_of_ble_eq_true rfl) (fun v2 K6 hK6 => ?_)
          have hK6 := mc_out.tr hs hK6
          refine mx_is3 d_Mo_plain_87 ?_
          refine mx_il2 d_Mo_plain_88 ?_
          refine mx_ifB_eq 105 d_Mo_plain_89 (by decide) (fun c_89 => absurd c_89 (by rw [c_51]; decide)) (fun c_89 => ?_)
          refine mx_il1 d_Mo_plain_92 ?_
          refine mx_il3 d_Mo_plain_93 ?_
          refine mx_icmp_ge 101 d_Mo_plain_94 (by decide) (fun c_94 => ?_) (fun c_94 => ?_)
          · skip
            refine mx_in_0 d_Mo_plain_101 ?_
            refine mx_goto 115 d_Mo_plain_102 (by decide) ?_
            exact mx_zret d_Mo_plain_115 rfl (by first | exact Or.inl rfl | exact Or.inr rfl) (mx_vR_i ⟨by first | exact Or.inl rfl | exact Or.inr rfl, pln_end hnm hq hk6 (by omega) hv hK6 (lj6.trans (by first | (rw [decide_eq_true (by first | exact c_94 | exact Int32.not_le.mp c_94)]; rfl) | (rw [decide_eq_false (by first | exact c_94 | exact Int32.not_lt.mpr c_94)]; rfl))).symm⟩)
          · skip
            refine mx_in_1 d_Mo_plain_97 ?_
            refine mx_goto 115 d_Mo_plain_98 (by decide) ?_
            exact mx_zret d_Mo_plain_115 rfl (by first | exact Or.inl rfl | exact Or.inr rfl) (mx_vR_i ⟨by first | exact Or.inl rfl | exact Or.inr rfl, pln_end hnm hq hk6 (by omega) hv hK6 (lj6.trans (by first | (rw [decide_eq_true (by first | exact c_94 | exact Int32.not_le.mp c_94)]; rfl) | (rw [decide_eq_false (by first | exact c_94 | exact Int32.not_lt.mpr c_94)]; rfl))).symm⟩)
        · skip
          have hk6 : ¬ tK f L q.2 = 6 := of_decide_eq_false c_51
          refine mx_al0 d_Mo_plain_54 ?_
          refine mx_bip 62 d_Mo_plain_55 (by decide) ?_
          refine mx_cV1iR d_Mo_plain_57 (c_Mo_sign_62 hM (hs.tx hx) hs) ok_Mo_isSign ml_Mo_188 (by assumption) ⟨rfl, rfl⟩ (by decide) (Nat.le_of_ble_eq_true rfl) (fun K5 hK5 => ?_)
          have ha := hK5.2
          have hs := hK5.1
          refine mx_ifB_ne 73 d_Mo_plain_60 (by decide) (fun c_60 => ?_) (fun c_60 => ?_)
          · skip
            have hk7 : tK f L q.2 = 7 := of_decide_eq_true c_60
            refine mx_al0 d_Mo_plain_73 ?_
            refine mx_dup d_Mo_plain_74 rfl ?_
            refine mx_getI d_Mo_plain_75 fl_Mo_87 (by assumption) ?_
            refine mx_ti (y := nI (tq_b f L q.2)) (ha) ?_
            refine mx_in_1 d_Mo_plain_78 ?_
            refine mx_iaddN d_Mo_plain_79 ?_
            refine mx_putI d_Mo_plain_80 fl_Mo_87 (by assumption) ?_
            have hs := hs.sg hk7 (by omega) (by omega) (by omega)
            refine mx_al0 d_Mo_plain_83 ?_
            refine mx_cV0y d_Mo_plain_84 (c_Mo_sum hM (hs.tx hx) hs.self (hs.1.mf hmf)) ok_Mo_sum ml_Mo_230 (by assumption) ⟨rfl, rfl⟩ (by decide) (Nat.le_of_ble_eq_true rfl) (fun v2 K6 hK6 => ?_)
            have hK6 := mc_out.tr hs hK6
            refine mx_is3 d_Mo_plain_87 ?_
            refine mx_il2 d_Mo_plain_88 ?_
            refine mx_ifB_eq 105 d_Mo_plain_89 (by decide) (fun c_89 => ?_) (fun c_89 => absurd c_89 (by rw [c_51]; decide))
            refine mx_il1 d_Mo_plain_105 ?_
            refine mx_il3 d_Mo_plain_106 ?_
            refine mx_icmp_le 114 d_Mo_plain_107 (by decide) (fun c_107 => ?_) (fun c_107 => ?_)
            · skip
              refine mx_in_0 d_Mo_plain_114 ?_
              exact mx_zret d_Mo_plain_115 rfl (by first | exact Or.inl rfl | exact Or.inr rfl) (mx_vR_i ⟨by first | exact Or.inl rfl | exact Or.inr rfl, pln_end hnm hq hk7 (by omega) hv hK6 (lj7.trans (by first | (rw [decide_eq_true (by first | exact c_107 | exact Int32.not_le.mp c_107)]; rfl) | (rw [decide_eq_false (by first | exact c_107 | exact Int32.not_lt.mpr c_107)]; rfl))).symm⟩)
            · skip
              refine mx_in_1 d_Mo_plain_110 ?_
              refine mx_goto 115 d_Mo_plain_111 (by decide) ?_
              exact mx_zret d_Mo_plain_115 rfl (by first | exact Or.inl rfl | exact Or.inr rfl) (mx_vR_i ⟨by first | exact Or.inl rfl | exact Or.inr rfl, pln_end hnm hq hk7 (by omega) hv hK6 (lj7.trans (by first | (rw [decide_eq_true (by first | exact c_107 | exact Int32.not_le.mp c_107)]; rfl) | (rw [decide_eq_false (by first | exact c_107 | exact Int32.not_lt.mpr c_107)]; rfl))).symm⟩)
          · skip
            have hk7 : ¬ tK f L q.2 = 7 := of_decide_eq_false c_60
            refine mx_al0 d_Mo_plain_63 ?_
            refine mx_al0 d_Mo_plain_64 ?_
            refine mx_getI d_Mo_plain_65 fl_Mo_87 (by assumption) ?_
            refine mx_ti (y := nI (tq_b f L q.2)) (ha) ?_
            refine mx_cV1vR d_Mo_plain_68 (c_Mo_wrongS hM hs ha (u := 500) (by omega) hL) ok_Mo_wrong ml_Mo_113 (by assumption) ⟨rfl, rfl⟩ (by decide) (Nat.le_of_ble_eq_true rfl) (fun K6 hK6 => ?_)
            refine mx_in_0 d_Mo_plain_71 ?_
            exact mx_zret d_Mo_plain_72 rfl (by first | exact Or.inl rfl | exact Or.inr rfl) (mx_vR_i ⟨Or.inl rfl, by rw [gq_pln_2 hnm hq (fun z => z.elim hk6 hk7)]; exact hK6⟩)
      · skip
        obtain ⟨e, hq, hb⟩ := hK3.no c_38
        have hnm : ¬ (tK f L c = 17 ∨ tK f L c = 18) := fun z => z.elim hk17 hk18
        refine mx_in_0 d_Mo_plain_41 ?_
        exact mx_zret d_Mo_plain_42 rfl (by first | exact Or.inl rfl | exact Or.inr rfl) (mx_vR_i ⟨Or.inl rfl, by rw [gq_pln_1 hnm hq]; exact hb⟩)
    · skip
      have hk18 : tK f L (c) = 18 := of_decide_eq_true c_20
      rw [if_pos hk18] at hK2
      have hs := hK2.1
      refine mx_al0 d_Mo_plain_23 ?_
      refine mx_getI d_Mo_plain_24 fl_Mo_227 (by assumption) ?_
      exact mx_zretN d_Mo_plain_27 rfl (mx_vR_i ⟨an01 _, by rw [gq_pln_0 (Or.inr hk18), hk18]; exact ⟨hs, ((hs.1.mf hmf).2.2).trans pv_fact.2.2.2.2.2.2.2.2.symm⟩⟩)
  · skip
    have hk17 : tK f L (c) = 17 := of_decide_eq_true c_6
    rw [if_pos hk17] at hK1
    have hs := hK1.1
    refine mx_al0 d_Mo_plain_9 ?_
    refine mx_getI d_Mo_plain_10 fl_Mo_221 (by assumption) ?_
    exact mx_zretN d_Mo_plain_13 rfl (mx_vR_i ⟨an01 _, by rw [gq_pln_0 (Or.inl hk17), hk17]; exact ⟨hs, ((hs.1.mf hmf).2.1).trans pv_fact.2.2.2.2.2.2.2.1.symm⟩⟩)
def ms_A (l : Launch) (E : mx_Env) (t : Nat) (S : mx_S) (P : mx_P) (J : mx_G) (mo : Nat) (f : Nat → Nat) (L : Nat) (fc : Nat → Int32) (e d : Nat) : Prop := ∀ (I : mx_I) (c : Nat), mt_tx I mo f L → mc_s I I mo f L c (6 - e) → mf_ok I mo fc → mx_C l E M_Mo_atom d 0 0 [.ref (mo)] (t, S, I, P, J) (mx_vR t S P J (fun v K => (v = 0 ∨ v = 1) ∧ mc_out I K mo f L (6 - e) (500 + e) fc v (gq_atm (tK f L) (tV f L) e c)))
def ms_O (l : Launch) (E : mx_Env) (t : Nat) (S : mx_S) (P : mx_P) (J : mx_G) (mo : Nat) (f : Nat → Nat) (L : Nat) (fc : Nat → Int32) (e d : Nat) : Prop := ∀ (I : mx_I) (c : Nat), mt_tx I mo f L → mc_s I I mo f L c (6 - e) → mf_ok I mo fc → mx_C l E M_Mo_some d 0 0 [.ref (mo)] (t, S, I, P, J) (mx_vR t S P J (fun v K => (v = 0 ∨ v = 1) ∧ mc_out I K mo f L (6 - e) (500 + e) fc v (gq_som (tK f L) (gq_atm (tK f L) (tV f L) e) c)))
theorem mc_out.le {r : gq_R} (h : mc_out I K mo f L dp u fc v r) (hu : u ≤ u2) : mc_out I K mo f L dp u2 fc v r := by
  cases r with
  | inl e => exact mc_bad.le h hu
  | inr q => exact h
theorem gq_atm_p {K : Nat → Nat} {V : Nat → Option Nat} {e c : Nat} (h35 : ¬ K c = 35) (h4 : ¬ K c = 4) : gq_atm K V e c = gq_pln K V c := by
  cases e with
  | zero => exact if_neg (fun z => z.elim h35 h4)
  | succ e => exact (if_neg h35).trans (if_neg h4)
theorem gq_atm_z {K : Nat → Nat} {V : Nat → Option Nat} {c : Nat} (h : K c = 35 ∨ K c = 4) : gq_atm K V 0 c = .inl c := if_pos h
theorem mc_s.dd {d2 : Nat} (h : mc_s I K mo f L c dp) : mc_s I (mx_up K mo 13 (nI d2)) mo f L c d2 := ⟨h.1.uu (by omega), by rw [← h.2.1]; simp [mx_up], by obtain ⟨a, h1, h2⟩ := h.2.2.1; exact ⟨a, by rw [← h1]; simp [mx_up], h2⟩, mu_e⟩
theorem c_Mo_wrongC {c2 : Nat} (hM : mo_ok S P mo) (hs : mc_s I0 I mo f L c2 dp) (hu : 400 ≤ u) (hL : L ≤ 400) : mx_C l E M_Mo_wrong 0 0 0 [.ref (mo), .int (nI (tq_b f L c))] (t, S, I, P, J) (mx_sR none t S P J (fun K => mc_bad I0 K mo f L c u)) :=
  mx_C_mono (c_Mo_wrong0 hM hs.f0) (mx_rv_sR (by
    obtain ⟨a, h1, h2, -⟩ := hs.cu
    exact ⟨hs.1.uu (by omega), mu_e, a, by rw [← h1]; simp [mx_up], by omega⟩))
theorem nI_sub1 {n : Nat} (h : 1 ≤ n) : nI n - nI 1 = nI (n - 1) := nI_sub h
/-- behind a not -/
theorem atm_not {I1 : mx_I} {e2 : Nat} (he : e = e2 + 1) (he6 : e ≤ 6) (hk : tK f L c = 35) (h0 : mc_s I I1 mo f L (c + 1) (6 - e2)) (h : mc_out I1 K mo f L (6 - e2) (500 + e2) fc v (gq_atm (tK f L) (tV f L) e2 (c + 1))) : mc_out I (mx_up K mo 13 (K mo 13 - nI 1)) mo f L (6 - e) (500 + e) fc (nI 1 - v) (gq_atm (tK f L) (tV f L) e c) := by
  subst he
  have h := mc_out.tr h0 h
  have ea : gq_atm (tK f L) (tV f L) (e2 + 1) c = match gq_atm (tK f L) (tV f L) e2 (c + 1) with | .inl b => .inl b | .inr q => .inr (q.1 ++ [-nI 35], q.2) := by
    refine Eq.trans (if_pos hk) ?_
    cases gq_atm (tK f L) (tV f L) e2 (c + 1) <;> rfl
  cases hr : gq_atm (tK f L) (tV f L) e2 (c + 1) with
  | inl b =>
    rw [hr] at h ea
    rw [ea]
    exact mc_bad.le (mc_bad.up h rfl) (by omega)
  | inr q =>
    rw [hr] at h ea
    rw [ea]
    have h13 : K mo 13 - nI 1 = nI (6 - (e2 + 1)) := by rw [h.1.2.2.2, nI_sub1 (by omega)]; congr 1
    rw [h13]
    refine ⟨mc_s.dd h.1, ?_⟩
    have g := gr_atm (fc := fc) tV1 e2 (by omega) _ _ hr
    rw [(gr_not g (by omega) (by omega)).2, ← h.2]
/-- behind ( -/
theorem atm_par {I1 : mx_I} {e2 : Nat} (he : e = e2 + 1) (h35 : ¬ tK f L c = 35) (hk : tK f L c = 4) (h0 : mc_s I I1 mo f L (c + 1) (6 - e2)) (h : mc_out I1 K mo f L (6 - e2) (500 + e2) fc v (gq_som (tK f L) (gq_atm (tK f L) (tV f L) e2) (c + 1))) : (∀ b, gq_som (tK f L) (gq_atm (tK f L) (tV f L) e2) (c + 1) = .inl b → gq_atm (tK f L) (tV f L) e c = .inl b) ∧ (∀ q, gq_som (tK f L) (gq_atm (tK f L) (tV f L) e2) (c + 1) = .inr q → gq_atm (tK f L) (tV f L) e c = if tK f L q.2 = 5 then .inr (q.1, q.2 + 1) else .inl q.2) ∧ mc_out I K mo f L (6 - e2) (500 + e2) fc v (gq_som (tK f L) (gq_atm (tK f L) (tV f L) e2) (c + 1)) := by
  subst he
  have ea : gq_atm (tK f L) (tV f L) (e2 + 1) c = match gq_som (tK f L) (gq_atm (tK f L) (tV f L) e2) (c + 1) with | .inl b => .inl b | .inr q => if tK f L q.2 = 5 then .inr (q.1, q.2 + 1) else .inl q.2 := by
    refine Eq.trans (Eq.trans (if_neg h35) (if_pos hk)) ?_
    cases gq_som (tK f L) (gq_atm (tK f L) (tV f L) e2) (c + 1) <;> rfl
  refine ⟨fun b hb => by rw [ea, hb], fun q hq => by rw [ea, hq], mc_out.tr h0 h⟩
theorem mc_bad.fin {x : Int32} {e2 : Nat} (h : mc_bad I K mo f L c (500 + e2)) (ha : K mo 11 = nI a) (hu : a ≤ 500 + e2) (he : e = e2 + 1) : mc_bad I (mx_up (mx_up K mo 11 (nI (a + 1))) mo 13 x) mo f L c (500 + e) := (h.at ha (by omega)).up rfl
theorem mc_s.fin {e2 : Nat} (h : mc_s I K mo f L c (6 - e2)) (hk : tK f L c = 5) (he : e = e2 + 1) (he6 : e ≤ 6) : mc_s I (mx_up (mx_up K mo 11 (nI (tq_b f L c + 1))) mo 13 ((mx_up K mo 11 (nI (tq_b f L c + 1))) mo 13 - nI 1)) mo f L (c + 1) (6 - e) := by
  have h2 := h.sg hk (by omega) (by omega) (by omega)
  rw [h2.2.2.2, nI_sub1 (by omega), show 6 - e2 - 1 = 6 - e by omega]
  exact h2.dd
theorem v01 {x : Int32} (h : x = 0 ∨ x = 1) : nI 1 - x = if x = 0 then nI 1 else nI 0 := by rcases h with rfl | rfl <;> decide
theorem c_Mo_atomE (hM : mo_ok S P mo) (hx : mt_tx I mo f L) (he6 : e ≤ 6) (hs0 : mc_s I I mo f L c (6 - e)) (hmf : mf_ok I mo fc) (hA : ∀ e2, e = e2 + 1 → ms_A l E t S P J mo f L fc e2 (8 + 3 * e2)) (hO : ∀ e2, e = e2 + 1 → ms_O l E t S P J mo f L fc e2 (10 + 3 * e2))  : mx_C l E M_Mo_atom (8 + 3 * e) 0 0 [.ref (mo)] (t, S, I, P, J) (mx_vR t S P J (fun v K => (v = 0 ∨ v = 1) ∧ mc_out I K mo f L (6 - e) (500 + e) fc v (gq_atm (tK f L) (tV f L) e c))) := by
  obtain ⟨hM0, hMp1, hMp2, hMp4, hMp5, hMp7, hMp14, hMp21, hMp22, hMp23, hMp24, hMp25, hMp26, hMp27, hMs1, hMs2, hMs3, hMs4, hMs5, hMs6, hMs7, hMs8, hMs9, hMs10, hMs11, hMs12, hMs13⟩ := id hM
  have hL := hx.2.1
  refine mx_C_of (ls0 := [some (.ref (mo)), none, none, none]) (by decide +kernel) rfl rfl (Nat.le_of_ble_eq_true rfl) rfl ?_
  refine mx_al0 d_Mo_atom_0 ?_
  refine mx_getI d_Mo_atom_1 fl_Mo_25 (by assumption) ?_
  refine mx_ti (y := (-1)) (hs0.f0) ?_
  refine mx_ic_m1 d_Mo_atom_4 ?_
  refine mx_icmp_eq 10 d_Mo_atom_5 (by decide) (fun c_5 => ?_) (fun c_5 => absurd c_5 (fun z => z rfl))
  refine mx_al0 d_Mo_atom_10 ?_
  refine mx_cV0iR d_Mo_atom_11 (c_Mo_hereS hM hx hs0) ok_Mo_here ml_Mo_110 (by assumption) ⟨rfl, rfl⟩ (by omega) (Nat.le_of_ble_eq_true rfl) (fun K0 hK0 => ?_)
  have hs := hK0.1
  refine mx_is1 d_Mo_atom_14 ?_
  refine mx_al0 d_Mo_atom_15 ?_
  refine mx_ldcS (i := 47) d_Mo_atom_16 rfl rfl ?_
  refine mx_cV1iR d_Mo_atom_18 (c_Mo_has_47 hM (hs.tx hx) hs) ok_Mo_has ml_Mo_117 (by assumption) ⟨rfl, rfl⟩ (by omega) (Nat.le_of_ble_eq_true rfl) (fun K1 hK1 => ?_)
  refine mx_is2 d_Mo_atom_21 ?_
  refine mx_il2 d_Mo_atom_22 ?_
  refine mx_ifB_ne 40 d_Mo_atom_23 (by decide) (fun c_23 => ?_) (fun c_23 => ?_)
  · skip
    have hk35 : tK f L c = 35 := of_decide_eq_true c_23
    rw [if_pos hk35] at hK1
    have hs := hK1.1
    refine mx_al0 d_Mo_atom_40 ?_
    refine mx_getI d_Mo_atom_41 fl_Mo_179 (by assumption) ?_
    refine mx_ti (y := nI (6 - e)) (hs.2.2.2) ?_
    refine mx_bip 6 d_Mo_atom_44 (by decide) ?_
    refine mx_icN_ne 56 d_Mo_atom_46 (by decide) (by omega) (by omega) (fun c_46 => ?_) (fun c_46 => ?_)
    · skip
      obtain ⟨e2, he2⟩ : ∃ e2, e = e2 + 1 := ⟨e - 1, by omega⟩
      have e9 : 6 - e + 1 = 6 - e2 := by omega
      refine mx_al0 d_Mo_atom_56 ?_
      refine mx_dup d_Mo_atom_57 rfl ?_
      refine mx_getI d_Mo_atom_58 fl_Mo_179 (by assumption) ?_
      refine mx_ti (y := nI (6 - e)) (hs.2.2.2) ?_
      refine mx_in_1 d_Mo_atom_61 ?_
      refine mx_iaddN d_Mo_atom_62 ?_
      refine mx_putI d_Mo_atom_63 fl_Mo_179 (by assumption) ?_
      rw [e9]
      have hs := hs.dd (d2 := 6 - e2)
      refine mx_in_0 d_Mo_atom_66 ?_
      refine mx_is3 d_Mo_atom_67 ?_
      refine mx_il2 d_Mo_atom_68 ?_
      refine mx_ifB_eq 88 d_Mo_atom_69 (by decide) (fun c_69 => absurd c_69 (by rw [c_23]; decide)) (fun c_69 => ?_)
      refine mx_al0 d_Mo_atom_72 ?_
      refine mx_cV0y d_Mo_atom_73 (hA e2 he2 _ _ (hs.tx hx) hs.self (hs.1.mf hmf)) ok_Mo_atom ml_Mo_239 (by assumption) ⟨rfl, rfl⟩ (by omega) (Nat.le_of_ble_eq_true rfl) (fun v5 K5 hK5 => ?_)
      refine mx_if_ne 83 d_Mo_atom_76 (by decide) (fun c_76 => ?_) (fun c_76 => ?_)
      · skip
        refine mx_in_0 d_Mo_atom_83 ?_
        refine mx_is3 d_Mo_atom_84 ?_
        refine mx_goto 138 d_Mo_atom_85 (by decide) ?_
        refine mx_al0 d_Mo_atom_138 ?_
        refine mx_dup d_Mo_atom_139 rfl ?_
        refine mx_getI d_Mo_atom_140 fl_Mo_179 (by assumption) ?_
        refine mx_in_1 d_Mo_atom_143 ?_
        refine mx_isub d_Mo_atom_144 ?_
        refine mx_putI d_Mo_atom_145 fl_Mo_179 (by assumption) ?_
        refine mx_il3 d_Mo_atom_148 ?_
        exact mx_zret d_Mo_atom_149 rfl (by first | exact Or.inl rfl | exact Or.inr rfl) (mx_vR_i ⟨by first | exact Or.inl rfl | exact Or.inr rfl, (by have z := atm_not he2 he6 hk35 hs hK5.2; rw [v01 hK5.1] at z; first | (rw [if_pos c_76] at z; exact z) | (rw [if_neg c_76] at z; exact z))⟩)
      · skip
        refine mx_in_1 d_Mo_atom_79 ?_
        refine mx_goto 84 d_Mo_atom_80 (by decide) ?_
        refine mx_is3 d_Mo_atom_84 ?_
        refine mx_goto 138 d_Mo_atom_85 (by decide) ?_
        refine mx_al0 d_Mo_atom_138 ?_
        refine mx_dup d_Mo_atom_139 rfl ?_
        refine mx_getI d_Mo_atom_140 fl_Mo_179 (by assumption) ?_
        refine mx_in_1 d_Mo_atom_143 ?_
        refine mx_isub d_Mo_atom_144 ?_
        refine mx_putI d_Mo_atom_145 fl_Mo_179 (by assumption) ?_
        refine mx_il3 d_Mo_atom_148 ?_
        exact mx_zret d_Mo_atom_149 rfl (by first | exact Or.inl rfl | exact Or.inr rfl) (mx_vR_i ⟨by first | exact Or.inl rfl | exact Or.inr rfl, (by have z := atm_not he2 he6 hk35 hs hK5.2; rw [v01 hK5.1] at z; first | (rw [if_pos c_76] at z; exact z) | (rw [if_neg c_76] at z; exact z))⟩)
    · skip
      refine mx_al0 d_Mo_atom_49 ?_
      refine mx_il1 d_Mo_atom_50 ?_
      refine mx_cV1vR d_Mo_atom_51 (c_Mo_wrongC hM hs (u := 500 + e) (by omega) hL) ok_Mo_wrong ml_Mo_113 (by assumption) ⟨rfl, rfl⟩ (by omega) (Nat.le_of_ble_eq_true rfl) (fun K3 hK3 => ?_)
      refine mx_in_0 d_Mo_atom_54 ?_
      exact mx_zret d_Mo_atom_55 rfl (by first | exact Or.inl rfl | exact Or.inr rfl) (mx_vR_i ⟨Or.inl rfl, by obtain rfl : e = 0 := (by omega); rw [gq_atm_z (Or.inl hk35)]; exact hK3⟩)
  · skip
    have hk35 : ¬ tK f L c = 35 := of_decide_eq_false c_23
    rw [if_neg hk35] at hK1
    have hs := hK1.1
    refine mx_al0 d_Mo_atom_26 ?_
    refine mx_bip 40 d_Mo_atom_27 (by decide) ?_
    refine mx_cV1iR d_Mo_atom_29 (c_Mo_sign_40 hM (hs.tx hx) hs) ok_Mo_isSign ml_Mo_188 (by assumption) ⟨rfl, rfl⟩ (by omega) (Nat.le_of_ble_eq_true rfl) (fun K2 hK2 => ?_)
    have ha := hK2.2
    have hs := hK2.1
    refine mx_ifB_ne 40 d_Mo_atom_32 (by decide) (fun c_32 => ?_) (fun c_32 => ?_)
    · skip
      have hk4 : tK f L c = 4 := of_decide_eq_true c_32
      refine mx_al0 d_Mo_atom_40 ?_
      refine mx_getI d_Mo_atom_41 fl_Mo_179 (by assumption) ?_
      refine mx_ti (y := nI (6 - e)) (hs.2.2.2) ?_
      refine mx_bip 6 d_Mo_atom_44 (by decide) ?_
      refine mx_icN_ne 56 d_Mo_atom_46 (by decide) (by omega) (by omega) (fun c_46 => ?_) (fun c_46 => ?_)
      · skip
        obtain ⟨e2, he2⟩ : ∃ e2, e = e2 + 1 := ⟨e - 1, by omega⟩
        have e9 : 6 - e + 1 = 6 - e2 := by omega
        refine mx_al0 d_Mo_atom_56 ?_
        refine mx_dup d_Mo_atom_57 rfl ?_
        refine mx_getI d_Mo_atom_58 fl_Mo_179 (by assumption) ?_
        refine mx_ti (y := nI (6 - e)) (hs.2.2.2) ?_
        refine mx_in_1 d_Mo_atom_61 ?_
        refine mx_iaddN d_Mo_atom_62 ?_
        refine mx_putI d_Mo_atom_63 fl_Mo_179 (by assumption) ?_
        rw [e9]
        have hs := hs.dd (d2 := 6 - e2)
        refine mx_in_0 d_Mo_atom_66 ?_
        refine mx_is3 d_Mo_atom_67 ?_
        refine mx_il2 d_Mo_atom_68 ?_
        refine mx_ifB_eq 88 d_Mo_atom_69 (by decide) (fun c_69 => ?_) (fun c_69 => absurd c_69 (by rw [c_23]; decide))
        refine mx_al0 d_Mo_atom_88 ?_
        refine mx_dup d_Mo_atom_89 rfl ?_
        refine mx_getI d_Mo_atom_90 fl_Mo_87 (by assumption) ?_
        refine mx_ti (y := nI (tq_b f L c)) ((by simp [mx_up, ha])) ?_
        refine mx_in_1 d_Mo_atom_93 ?_
        refine mx_iaddN d_Mo_atom_94 ?_
        refine mx_putI d_Mo_atom_95 fl_Mo_87 (by assumption) ?_
        have hs := hs.sg hk4 (by omega) (by omega) (by omega)
        refine mx_al0 d_Mo_atom_98 ?_
        refine mx_cV0y d_Mo_atom_99 (hO e2 he2 _ _ (hs.tx hx) hs.self (hs.1.mf hmf)) ok_Mo_some ml_Mo_242 (by assumption) ⟨rfl, rfl⟩ (by omega) (Nat.le_of_ble_eq_true rfl) (fun v5 K5 hK5 => ?_)
        have hp := atm_par he2 hk35 hk4 hs hK5.2
        refine mx_is3 d_Mo_atom_102 ?_
        refine mx_al0 d_Mo_atom_103 ?_
        refine mx_getI d_Mo_atom_104 fl_Mo_25 (by assumption) ?_
        refine mx_ic_m1 d_Mo_atom_107 ?_
        refine mx_icmp_ne 128 d_Mo_atom_108 (by decide) (fun c_108 => ?_) (fun c_108 => ?_)
        · skip
          obtain ⟨e3, hq, hb⟩ := hp.2.2.no c_108
          obtain ⟨-, -, a8, ha8, hu8⟩ := id hb
          refine mx_al0 d_Mo_atom_128 ?_
          refine mx_dup d_Mo_atom_129 rfl ?_
          refine mx_getI d_Mo_atom_130 fl_Mo_87 (by assumption) ?_
          refine mx_ti (y := nI (a8)) (ha8) ?_
          refine mx_in_1 d_Mo_atom_133 ?_
          refine mx_iaddN d_Mo_atom_134 ?_
          refine mx_putI d_Mo_atom_135 fl_Mo_87 (by assumption) ?_
          refine mx_al0 d_Mo_atom_138 ?_
          refine mx_dup d_Mo_atom_139 rfl ?_
          refine mx_getI d_Mo_atom_140 fl_Mo_179 (by assumption) ?_
          refine mx_in_1 d_Mo_atom_143 ?_
          refine mx_isub d_Mo_atom_144 ?_
          refine mx_putI d_Mo_atom_145 fl_Mo_179 (by assumption) ?_
          refine mx_il3 d_Mo_atom_148 ?_
          exact mx_zret d_Mo_atom_149 rfl (hK5.1) (mx_vR_i ⟨hK5.1, by rw [hp.1 _ hq]; exact mc_bad.fin hb ha8 hu8 he2⟩)
        · skip
          obtain ⟨q, hq, hs, hv⟩ := hp.2.2.ok c_108 hL
          refine mx_al0 d_Mo_atom_111 ?_
          refine mx_bip 41 d_Mo_atom_112 (by decide) ?_
          refine mx_cV1iR d_Mo_atom_114 (c_Mo_sign_41 hM (hs.tx hx) hs) ok_Mo_isSign ml_Mo_188 (by assumption) ⟨rfl, rfl⟩ (by omega) (Nat.le_of_ble_eq_true rfl) (fun K6 hK6 => ?_)
          have ha := hK6.2
          have hs := hK6.1
          refine mx_ifB_ne 128 d_Mo_atom_117 (by decide) (fun c_117 => ?_) (fun c_117 => ?_)
          · skip
            have hk5 : tK f L q.2 = 5 := of_decide_eq_true c_117
            refine mx_al0 d_Mo_atom_128 ?_
            refine mx_dup d_Mo_atom_129 rfl ?_
            refine mx_getI d_Mo_atom_130 fl_Mo_87 (by assumption) ?_
            refine mx_ti (y := nI (tq_b f L q.2)) (ha) ?_
            refine mx_in_1 d_Mo_atom_133 ?_
            refine mx_iaddN d_Mo_atom_134 ?_
            refine mx_putI d_Mo_atom_135 fl_Mo_87 (by assumption) ?_
            refine mx_al0 d_Mo_atom_138 ?_
            refine mx_dup d_Mo_atom_139 rfl ?_
            refine mx_getI d_Mo_atom_140 fl_Mo_179 (by assumption) ?_
            refine mx_in_1 d_Mo_atom_143 ?_
            refine mx_isub d_Mo_atom_144 ?_
            refine mx_putI d_Mo_atom_145 fl_Mo_179 (by assumption) ?_
            refine mx_il3 d_Mo_atom_148 ?_
            exact mx_zret d_Mo_atom_149 rfl (hK5.1) (mx_vR_i ⟨hK5.1, by rw [hp.2.1 _ hq, if_pos hk5]; exact ⟨mc_s.fin hs hk5 he2 he6, hv⟩⟩)
          · skip
            have hk5 : ¬ tK f L q.2 = 5 := of_decide_eq_false c_117
            refine mx_al0 d_Mo_atom_120 ?_
            refine mx_al0 d_Mo_atom_121 ?_
            refine mx_getI d_Mo_atom_122 fl_Mo_87 (by assumption) ?_
            refine mx_ti (y := nI (tq_b f L q.2)) (ha) ?_
            refine mx_cV1vR d_Mo_atom_125 (c_Mo_wrongS hM hs ha (u := 500 + e2) (by omega) hL) ok_Mo_wrong ml_Mo_113 (by assumption) ⟨rfl, rfl⟩ (by omega) (Nat.le_of_ble_eq_true rfl) (fun K7 hK7 => ?_)
            have hb := hK7
            obtain ⟨-, -, a8, ha8, hu8⟩ := id hb
            refine mx_al0 d_Mo_atom_128 ?_
            refine mx_dup d_Mo_atom_129 rfl ?_
            refine mx_getI d_Mo_atom_130 fl_Mo_87 (by assumption) ?_
            refine mx_ti (y := nI (a8)) (ha8) ?_
            refine mx_in_1 d_Mo_atom_133 ?_
            refine mx_iaddN d_Mo_atom_134 ?_
            refine mx_putI d_Mo_atom_135 fl_Mo_87 (by assumption) ?_
            refine mx_al0 d_Mo_atom_138 ?_
            refine mx_dup d_Mo_atom_139 rfl ?_
            refine mx_getI d_Mo_atom_140 fl_Mo_179 (by assumption) ?_
            refine mx_in_1 d_Mo_atom_143 ?_
            refine mx_isub d_Mo_atom_144 ?_
            refine mx_putI d_Mo_atom_145 fl_Mo_179 (by assumption) ?_
            refine mx_il3 d_Mo_atom_148 ?_
            exact mx_zret d_Mo_atom_149 rfl (hK5.1) (mx_vR_i ⟨hK5.1, by rw [hp.2.1 _ hq, if_neg hk5]; exact mc_bad.fin hb ha8 hu8 he2⟩)
      · skip
        refine mx_al0 d_Mo_atom_49 ?_
        refine mx_il1 d_Mo_atom_50 ?_
        refine mx_cV1vR d_Mo_atom_51 (c_Mo_wrongC hM hs (u := 500 + e) (by omega) hL) ok_Mo_wrong ml_Mo_113 (by assumption) ⟨rfl, rfl⟩ (by omega) (Nat.le_of_ble_eq_true rfl) (fun K3 hK3 => ?_)
        refine mx_in_0 d_Mo_atom_54 ?_
        exact mx_zret d_Mo_atom_55 rfl (by first | exact Or.inl rfl | exact Or.inr rfl) (mx_vR_i ⟨Or.inl rfl, by obtain rfl : e = 0 := (by omega); rw [gq_atm_z (Or.inr hk4)]; exact hK3⟩)
    · skip
      have hk4 : ¬ tK f L c = 4 := of_decide_eq_false c_32
      refine mx_al0 d_Mo_atom_35 ?_
      refine mx_cV0y d_Mo_atom_36 (c_Mo_plain hM (hs.tx hx) hs.self (hs.1.mf hmf)) ok_Mo_plain ml_Mo_235 (by assumption) ⟨rfl, rfl⟩ (by omega) (Nat.le_of_ble_eq_true rfl) (fun v5 K5 hK5 => ?_)
      exact mx_zret d_Mo_atom_39 rfl (hK5.1) (mx_vR_i ⟨hK5.1, by rw [gq_atm_p hk35 hk4]; exact (mc_out.tr hs hK5.2).le (by omega)⟩)
theorem lj34 {x y : Int32} : lw_join (nI 34) x y = x &&& y := (if_neg (by decide)).trans ((if_neg (by decide)).trans ((if_neg (by decide)).trans (if_pos rfl)))
theorem lj33 {x y : Int32} : lw_join (nI 33) x y = x ||| y := (if_neg (by decide)).trans ((if_neg (by decide)).trans ((if_neg (by decide)).trans (if_neg (by decide))))
theorem an0 {x y : Int32} (h : x = 0) (hy : y = 0 ∨ y = 1) : nI 0 = x &&& y := by subst h; rcases hy with rfl | rfl <;> decide
theorem an1 {x y : Int32} (h : y = 0) (hx : x = 0 ∨ x = 1) : nI 0 = x &&& y := by subst h; rcases hx with rfl | rfl <;> decide
theorem an2 {x y : Int32} (h : ¬ x = 0) (hx : x = 0 ∨ x = 1) (h2 : ¬ y = 0) (hy : y = 0 ∨ y = 1) : nI 1 = x &&& y := by rw [hx.resolve_left h, hy.resolve_left h2]; decide
theorem or0 {x y : Int32} (h : ¬ x = 0) (hx : x = 0 ∨ x = 1) (hy : y = 0 ∨ y = 1) : nI 1 = x ||| y := by rw [hx.resolve_left h]; rcases hy with rfl | rfl <;> decide
theorem or1 {x y : Int32} (h : ¬ y = 0) (hx : x = 0 ∨ x = 1) (hy : y = 0 ∨ y = 1) : nI 1 = x ||| y := by rw [hy.resolve_left h]; rcases hx with rfl | rfl <;> decide
theorem or2 {x y : Int32} (h : x = 0) (h2 : y = 0) : nI 0 = x ||| y := by subst h; subst h2; decide
theorem c_Mo_everyE (hM : mo_ok S P mo) (hx : mt_tx I mo f L) (he6 : e ≤ 6) (hs0 : mc_s I I mo f L c (6 - e)) (hmf : mf_ok I mo fc) (hA1 : ∀ (I : mx_I) (c : Nat), mt_tx I mo f L → mc_s I I mo f L c (6 - e) → mf_ok I mo fc → mx_C l E M_Mo_atom (8 + 3 * e) 0 0 [.ref (mo)] (t, S, I, P, J) (mx_vR t S P J (fun v K => (v = 0 ∨ v = 1) ∧ mc_out I K mo f L (6 - e) (500 + e) fc v ((gq_atm (tK f L) (tV f L) e) c))))  : mx_C l E M_Mo_every (9 + 3 * e) 0 0 [.ref (mo)] (t, S, I, P, J) (mx_vR t S P J (fun v K => (v = 0 ∨ v = 1) ∧ mc_out I K mo f L (6 - e) (500 + e) fc v (gq_lp (tK f L) (gq_atm (tK f L) (tV f L) e) 34 400 true [] c))) := by
  obtain ⟨hM0, hMp1, hMp2, hMp4, hMp5, hMp7, hMp14, hMp21, hMp22, hMp23, hMp24, hMp25, hMp26, hMp27, hMs1, hMs2, hMs3, hMs4, hMs5, hMs6, hMs7, hMs8, hMs9, hMs10, hMs11, hMs12, hMs13⟩ := id hM
  have hL := hx.2.1
  have hgo : gq_go (tq_n f L) (gq_atm (tK f L) (tV f L) e) := gq_go_atm (tK0 rfl) e
  have hpu : gr_go fc (3 + 2 * e) (gq_atm (tK f L) (tV f L) e) := gr_atm tV1 e he6
  refine mx_C_of (ls0 := [some (.ref (mo)), none, none]) (by decide +kernel) rfl rfl (Nat.le_of_ble_eq_true rfl) rfl ?_
  refine mx_al0 d_Mo_every_0 ?_
  refine mx_cV0y d_Mo_every_1 (hA1 _ _ hx hs0 hmf) ok_Mo_atom ml_Mo_239 (by assumption) ⟨rfl, rfl⟩ (by omega) (Nat.le_of_ble_eq_true rfl) (fun v1 K1 hK1 => ?_)
  refine mx_is1 d_Mo_every_4 ?_
  refine mx_loopX (α := (mx_I × Int32)) (N := 400) (a0 := (K1, v1)) (fun k9 z9 => (z9.2 = 0 ∨ z9.2 = 1) ∧ mlp I z9.1 mo f L (6 - e) (500 + e) fc (3 + 2 * e + 1) (gq_atm (tK f L) (tV f L) e) 34 c k9 z9.2) (ls := fun k9 z9 => [some (.ref (mo)), some (.int (z9.2)), none]) (X := fun k9 z9 => (t, S, z9.1, P, J)) (⟨hK1.1, mlp_0 hK1.2 hgo (fun t q h => (hpu t q h).le (by omega))⟩) (fun k9 hk9 z9 hinv ih => ?_) (fun z9 hinv => ?_)
  · skip
    obtain ⟨K, v⟩ := z9
    try dsimp only at hinv ih ⊢
    refine mx_al0 d_Mo_every_5 ?_
    refine mx_getI d_Mo_every_6 fl_Mo_25 (by assumption) ?_
    refine mx_ic_m1 d_Mo_every_9 ?_
    refine mx_icmp_ne 44 d_Mo_every_10 (by decide) (fun c_10 => ?_) (fun c_10 => ?_)
    · skip
      refine mx_il1 d_Mo_every_44 ?_
      exact mx_zret d_Mo_every_45 rfl (hinv.1) (mx_vR_i ⟨hinv.1, hinv.2.no c_10⟩)
    · skip
      obtain ⟨tt, d, hs, hv, hd, hkk, he⟩ := hinv.2.ok c_10 hL
      have hTT := hs.cu.choose_spec.2.2.2
      refine mx_al0 d_Mo_every_13 ?_
      refine mx_ldcS (i := 57) d_Mo_every_14 rfl rfl ?_
      refine mx_cV1iR d_Mo_every_16 (c_Mo_has_57 hM (hs.tx hx) hs) ok_Mo_has ml_Mo_117 (by assumption) ⟨rfl, rfl⟩ (by omega) (Nat.le_of_ble_eq_true rfl) (fun K2 hK2 => ?_)
      refine mx_ifB_eq 44 d_Mo_every_19 (by decide) (fun c_19 => ?_) (fun c_19 => ?_)
      · skip
        have hk8 := of_decide_eq_false c_19
        rw [if_neg hk8] at hK2
        have hs := hK2.1
        refine mx_il1 d_Mo_every_44 ?_
        exact mx_zret d_Mo_every_45 rfl (hinv.1) (mx_vR_i ⟨hinv.1, mlp_end hs hv hk8 he⟩)
      · skip
        have hk8 := of_decide_eq_true c_19
        rw [if_pos hk8] at hK2
        have hs := hK2.1
        have he2 := he.trans (if_pos hk8)
        have htT := tK_lt hk8 (by omega)
        refine mx_al0 d_Mo_every_22 ?_
        refine mx_cV0y d_Mo_every_23 (hA1 _ _ (hs.tx hx) hs.self (hs.1.mf hmf)) ok_Mo_atom ml_Mo_239 (by assumption) ⟨rfl, rfl⟩ (by omega) (Nat.le_of_ble_eq_true rfl) (fun v2 K3 hK3 => ?_)
        have hK4 := mc_out.tr hs hK3.2
        refine mx_is2 d_Mo_every_26 ?_
        refine mx_il1 d_Mo_every_27 ?_
        refine mx_if_eq 39 d_Mo_every_28 (by decide) (fun c_28 => ?_) (fun c_28 => ?_)
        · skip
          refine mx_in_0 d_Mo_every_39 ?_
          refine mx_is1 d_Mo_every_40 ?_
          refine mx_goto 5 d_Mo_every_41 (by decide) ?_
          refine mx_dn2 ?_
          exact ih (K3, nI (0)) (⟨by first | exact Or.inl rfl | exact Or.inr rfl, mlp_s hv hd hkk htT hL he2 hK4 hgo hpu (by omega) (by omega) (by decide) (by decide) (fun _ => by rw [lj34]; first | exact an0 c_28 hK3.1 | exact an1 c_32 hinv.1 | exact an2 c_28 hinv.1 c_32 hK3.1)⟩)
        · skip
          refine mx_il2 d_Mo_every_31 ?_
          refine mx_if_eq 39 d_Mo_every_32 (by decide) (fun c_32 => ?_) (fun c_32 => ?_)
          · skip
            refine mx_in_0 d_Mo_every_39 ?_
            refine mx_is1 d_Mo_every_40 ?_
            refine mx_goto 5 d_Mo_every_41 (by decide) ?_
            refine mx_dn2 ?_
            exact ih (K3, nI (0)) (⟨by first | exact Or.inl rfl | exact Or.inr rfl, mlp_s hv hd hkk htT hL he2 hK4 hgo hpu (by omega) (by omega) (by decide) (by decide) (fun _ => by rw [lj34]; first | exact an0 c_28 hK3.1 | exact an1 c_32 hinv.1 | exact an2 c_28 hinv.1 c_32 hK3.1)⟩)
          · skip
            refine mx_in_1 d_Mo_every_35 ?_
            refine mx_goto 40 d_Mo_every_36 (by decide) ?_
            refine mx_is1 d_Mo_every_40 ?_
            refine mx_goto 5 d_Mo_every_41 (by decide) ?_
            refine mx_dn2 ?_
            exact ih (K3, nI (1)) (⟨by first | exact Or.inl rfl | exact Or.inr rfl, mlp_s hv hd hkk htT hL he2 hK4 hgo hpu (by omega) (by omega) (by decide) (by decide) (fun _ => by rw [lj34]; first | exact an0 c_28 hK3.1 | exact an1 c_32 hinv.1 | exact an2 c_28 hinv.1 c_32 hK3.1)⟩)
  · skip
    obtain ⟨K, v⟩ := z9
    try dsimp only at hinv ⊢
    have hbig := hinv.2.big hL
    refine mx_al0 d_Mo_every_5 ?_
    refine mx_getI d_Mo_every_6 fl_Mo_25 (by assumption) ?_
    refine mx_ic_m1 d_Mo_every_9 ?_
    refine mx_icmp_ne 44 d_Mo_every_10 (by decide) (fun c_10 => ?_) (fun c_10 => absurd c_10 (fun z => hbig z))
    refine mx_il1 d_Mo_every_44 ?_
    exact mx_zret d_Mo_every_45 rfl (hinv.1) (mx_vR_i ⟨hinv.1, hinv.2.no c_10⟩)
theorem c_Mo_someE (hM : mo_ok S P mo) (hx : mt_tx I mo f L) (he6 : e ≤ 6) (hs0 : mc_s I I mo f L c (6 - e)) (hmf : mf_ok I mo fc) (hE1 : ∀ (I : mx_I) (c : Nat), mt_tx I mo f L → mc_s I I mo f L c (6 - e) → mf_ok I mo fc → mx_C l E M_Mo_every (9 + 3 * e) 0 0 [.ref (mo)] (t, S, I, P, J) (mx_vR t S P J (fun v K => (v = 0 ∨ v = 1) ∧ mc_out I K mo f L (6 - e) (500 + e) fc v ((gq_evy (tK f L) (gq_atm (tK f L) (tV f L) e)) c))))  : mx_C l E M_Mo_some (10 + 3 * e) 0 0 [.ref (mo)] (t, S, I, P, J) (mx_vR t S P J (fun v K => (v = 0 ∨ v = 1) ∧ mc_out I K mo f L (6 - e) (500 + e) fc v (gq_lp (tK f L) (gq_evy (tK f L) (gq_atm (tK f L) (tV f L) e)) 33 400 true [] c))) := by
  obtain ⟨hM0, hMp1, hMp2, hMp4, hMp5, hMp7, hMp14, hMp21, hMp22, hMp23, hMp24, hMp25, hMp26, hMp27, hMs1, hMs2, hMs3, hMs4, hMs5, hMs6, hMs7, hMs8, hMs9, hMs10, hMs11, hMs12, hMs13⟩ := id hM
  have hL := hx.2.1
  have hgo : gq_go (tq_n f L) (gq_evy (tK f L) (gq_atm (tK f L) (tV f L) e)) := gq_go_lp (gq_go_atm (tK0 rfl) e) (tK0 rfl) (by omega) 400
  have hpu : gr_go fc (3 + 2 * e + 1) (gq_evy (tK f L) (gq_atm (tK f L) (tV f L) e)) := gr_evy (gr_atm tV1 e he6) (by omega) (by omega)
  refine mx_C_of (ls0 := [some (.ref (mo)), none, none]) (by decide +kernel) rfl rfl (Nat.le_of_ble_eq_true rfl) rfl ?_
  refine mx_al0 d_Mo_some_0 ?_
  refine mx_cV0y d_Mo_some_1 (hE1 _ _ hx hs0 hmf) ok_Mo_every ml_Mo_247 (by assumption) ⟨rfl, rfl⟩ (by omega) (Nat.le_of_ble_eq_true rfl) (fun v1 K1 hK1 => ?_)
  refine mx_is1 d_Mo_some_4 ?_
  refine mx_loopX (α := (mx_I × Int32)) (N := 400) (a0 := (K1, v1)) (fun k9 z9 => (z9.2 = 0 ∨ z9.2 = 1) ∧ mlp I z9.1 mo f L (6 - e) (500 + e) fc (3 + 2 * e + 1 + 1) (gq_evy (tK f L) (gq_atm (tK f L) (tV f L) e)) 33 c k9 z9.2) (ls := fun k9 z9 => [some (.ref (mo)), some (.int (z9.2)), none]) (X := fun k9 z9 => (t, S, z9.1, P, J)) (⟨hK1.1, mlp_0 hK1.2 hgo (fun t q h => (hpu t q h).le (by omega))⟩) (fun k9 hk9 z9 hinv ih => ?_) (fun z9 hinv => ?_)
  · skip
    obtain ⟨K, v⟩ := z9
    try dsimp only at hinv ih ⊢
    refine mx_al0 d_Mo_some_5 ?_
    refine mx_getI d_Mo_some_6 fl_Mo_25 (by assumption) ?_
    refine mx_ic_m1 d_Mo_some_9 ?_
    refine mx_icmp_ne 44 d_Mo_some_10 (by decide) (fun c_10 => ?_) (fun c_10 => ?_)
    · skip
      refine mx_il1 d_Mo_some_44 ?_
      exact mx_zret d_Mo_some_45 rfl (hinv.1) (mx_vR_i ⟨hinv.1, hinv.2.no c_10⟩)
    · skip
      obtain ⟨tt, d, hs, hv, hd, hkk, he⟩ := hinv.2.ok c_10 hL
      have hTT := hs.cu.choose_spec.2.2.2
      refine mx_al0 d_Mo_some_13 ?_
      refine mx_ldcS (i := 58) d_Mo_some_14 rfl rfl ?_
      refine mx_cV1iR d_Mo_some_16 (c_Mo_has_58 hM (hs.tx hx) hs) ok_Mo_has ml_Mo_117 (by assumption) ⟨rfl, rfl⟩ (by omega) (Nat.le_of_ble_eq_true rfl) (fun K2 hK2 => ?_)
      refine mx_ifB_eq 44 d_Mo_some_19 (by decide) (fun c_19 => ?_) (fun c_19 => ?_)
      · skip
        have hk8 := of_decide_eq_false c_19
        rw [if_neg hk8] at hK2
        have hs := hK2.1
        refine mx_il1 d_Mo_some_44 ?_
        exact mx_zret d_Mo_some_45 rfl (hinv.1) (mx_vR_i ⟨hinv.1, mlp_end hs hv hk8 he⟩)
      · skip
        have hk8 := of_decide_eq_true c_19
        rw [if_pos hk8] at hK2
        have hs := hK2.1
        have he2 := he.trans (if_pos hk8)
        have htT := tK_lt hk8 (by omega)
        refine mx_al0 d_Mo_some_22 ?_
        refine mx_cV0y d_Mo_some_23 (hE1 _ _ (hs.tx hx) hs.self (hs.1.mf hmf)) ok_Mo_every ml_Mo_247 (by assumption) ⟨rfl, rfl⟩ (by omega) (Nat.le_of_ble_eq_true rfl) (fun v2 K3 hK3 => ?_)
        have hK4 := mc_out.tr hs hK3.2
        refine mx_is2 d_Mo_some_26 ?_
        refine mx_il1 d_Mo_some_27 ?_
        refine mx_if_ne 35 d_Mo_some_28 (by decide) (fun c_28 => ?_) (fun c_28 => ?_)
        · skip
          refine mx_in_1 d_Mo_some_35 ?_
          refine mx_goto 40 d_Mo_some_36 (by decide) ?_
          refine mx_is1 d_Mo_some_40 ?_
          refine mx_goto 5 d_Mo_some_41 (by decide) ?_
          refine mx_dn2 ?_
          exact ih (K3, nI (1)) (⟨by first | exact Or.inl rfl | exact Or.inr rfl, mlp_s hv hd hkk htT hL he2 hK4 hgo hpu (by omega) (by omega) (by decide) (by decide) (fun _ => by rw [lj33]; first | exact or0 c_28 hinv.1 hK3.1 | exact or1 c_32 hinv.1 hK3.1 | exact or2 c_28 c_32)⟩)
        · skip
          refine mx_il2 d_Mo_some_31 ?_
          refine mx_if_eq 39 d_Mo_some_32 (by decide) (fun c_32 => ?_) (fun c_32 => ?_)
          · skip
            refine mx_in_0 d_Mo_some_39 ?_
            refine mx_is1 d_Mo_some_40 ?_
            refine mx_goto 5 d_Mo_some_41 (by decide) ?_
            refine mx_dn2 ?_
            exact ih (K3, nI (0)) (⟨by first | exact Or.inl rfl | exact Or.inr rfl, mlp_s hv hd hkk htT hL he2 hK4 hgo hpu (by omega) (by omega) (by decide) (by decide) (fun _ => by rw [lj33]; first | exact or0 c_28 hinv.1 hK3.1 | exact or1 c_32 hinv.1 hK3.1 | exact or2 c_28 c_32)⟩)
          · skip
            refine mx_in_1 d_Mo_some_35 ?_
            refine mx_goto 40 d_Mo_some_36 (by decide) ?_
            refine mx_is1 d_Mo_some_40 ?_
            refine mx_goto 5 d_Mo_some_41 (by decide) ?_
            refine mx_dn2 ?_
            exact ih (K3, nI (1)) (⟨by first | exact Or.inl rfl | exact Or.inr rfl, mlp_s hv hd hkk htT hL he2 hK4 hgo hpu (by omega) (by omega) (by decide) (by decide) (fun _ => by rw [lj33]; first | exact or0 c_28 hinv.1 hK3.1 | exact or1 c_32 hinv.1 hK3.1 | exact or2 c_28 c_32)⟩)
  · skip
    obtain ⟨K, v⟩ := z9
    try dsimp only at hinv ⊢
    have hbig := hinv.2.big hL
    refine mx_al0 d_Mo_some_5 ?_
    refine mx_getI d_Mo_some_6 fl_Mo_25 (by assumption) ?_
    refine mx_ic_m1 d_Mo_some_9 ?_
    refine mx_icmp_ne 44 d_Mo_some_10 (by decide) (fun c_10 => ?_) (fun c_10 => absurd c_10 (fun z => hbig z))
    refine mx_il1 d_Mo_some_44 ?_
    exact mx_zret d_Mo_some_45 rfl (hinv.1) (mx_vR_i ⟨hinv.1, hinv.2.no c_10⟩)
/-- all conditions, within 6 more of not and ( -/
theorem c_Mo_AO (hM : mo_ok S P mo) : ∀ e, e ≤ 6 → ms_A l E t S P J mo f L fc e (8 + 3 * e) ∧ ms_O l E t S P J mo f L fc e (10 + 3 * e) := by
  intro e
  induction e with
  | zero =>
    intro he
    have hA : ms_A l E t S P J mo f L fc 0 (8 + 3 * 0) := fun I c hx hs hmf => c_Mo_atomE hM hx he hs hmf (fun e2 h => absurd h (by omega)) (fun e2 h => absurd h (by omega))
    exact ⟨hA, fun I c hx hs hmf => c_Mo_someE hM hx he hs hmf (fun I c hx hs hmf => c_Mo_everyE hM hx he hs hmf hA)⟩
  | succ e ih =>
    intro he
    obtain ⟨i1, i2⟩ := ih (by omega)
    have hA : ms_A l E t S P J mo f L fc (e + 1) (8 + 3 * (e + 1)) := fun I c hx hs hmf => c_Mo_atomE hM hx he hs hmf (fun e2 h => by cases h; exact i1) (fun e2 h => by cases h; exact i2)
    exact ⟨hA, fun I c hx hs hmf => c_Mo_someE hM hx he hs hmf (fun I c hx hs hmf => c_Mo_everyE hM hx he hs hmf hA)⟩
end AV63
