/-! WEEKS, LAW AND GROUND -/
section CM98
variable {l : Launch} {E : mx_Env} {x t t2 la : Nat} {S S2 : mx_S} {I K : mx_I} {P P2 : mx_P} {J : mx_G} {D : lwD} {v : Int32}
theorem op_weeks (htr : l.stackTraces = false) : al_op l E x 1 false M_Vh_weeks M_Mo_weeks [.int v] [.int v] (fun _ => "java/lang/IllegalArgumentException") 7 1 6 36 := by
  intro t S I P J h
  obtain ⟨h1, hsh, ⟨la, D, ha, ⟨s1, ⟨N, zl, s2⟩, s3, s4, s5, s6⟩, hp⟩, -, -, h6⟩ := id h
  obtain ⟨c1, c2, c3, c4, c5, c6, c7, c8, c9, c10, c11, c12, c13, c14⟩ := id hsh
  obtain ⟨H, G, T, g1, g2, g3, g4, g5, g6, g7, g8, g9, g10, g11⟩ := id s5
  obtain ⟨gH, gG, gH8, gG8, g12⟩ := id g3
  replace gH8 : H ≤ 8 := gH8
  replace gG8 : G ≤ 8 := gG8
  replace gH : I (x + 278) 3 = nI H := gH
  replace gG : I (x + 278) 4 = nI G := gG
  have hd : la + 6 ≤ x + 23 ∨ x + 292 ≤ la := by have := ha.1; omega
  obtain ⟨A, z, a1, a2, a3, a4, a5⟩ := hp.fl
  have hcl : ∀ m m2, tx_law D m → tx_eq m m2 → tx_law D m2 := fun m m2 a b => a.cg (b 1 (by omega)) (b 2 (by omega)) (fun k hk => b k (by omega))
  have hs01 : (sp_weeks D (I (x + 278)) H v).1 = 0 ∨ (sp_weeks D (I (x + 278)) H v).1 = 1 := by
    unfold sp_weeks
    split
    · exact Or.inl rfl
    · exact Or.inr rfl
  refine ⟨(sp_weeks D (I (x + 278)) H v).1, 7, (sp_weeks D (I (x + 278)) H v).2, _, ⟨by omega, fun h => by cases h⟩, Nat.le_refl _, mx_C_mono (c_Vh_weeks htr c1 c5 s1 c8 s3 a2 a5 a1 a4 s4 hd ⟨N, zl, s2⟩ ⟨gH, g6, g8⟩ gH8 gG8) (fun r X q => mx_pkR_pg q), fun X1 hX => ?_⟩
  rcases hX with ⟨k0, K, rfl, hK, hW⟩ | ⟨k0, t', ht', rfl⟩
  · have c13' : mo_ok S (mx_upP P (x + 68 + 2 + 15 * z) 2 (some la)) (x + 277) := (hsh.slot (la := la) a5).2.2.2.2.2.2.2.2.2.2.2.2.1
    have e9 : ∀ c, (x + 277 ≤ c ∧ c ≤ x + 278) → K c = I c := fun c hc => by rw [hK c (by unfold wz; have := ha.1; omega), vs_keep_o a5 (by omega)]
    have q := fun J' => c_Mo_weeks (l := l) (E := E) (J := J') (t := t) (mo := x + 277) (m := I (x + 278)) (A := A) c13' (e9 _ (by omega)) (TX := tx_law D) (dd := 31) s6.1 (fun m I h g q a b c d e => c_Mo_asks c13' b a c d e) hcl (by omega) ⟨gH, g6, g8⟩ gH8 gG8 (by rw [e9 _ (by omega)]; exact a3) a4 (v := v)
    refine ⟨t, S, K, _, rfl, Nat.le_refl _, h.out, fun J' => ⟨(sp_weeks D (I (x + 278)) H v).2, mx_C_mono (q J') (mx_sR_mono (fun K' hK' => ?_)), fun _ => rfl⟩⟩
    rcases hK' with ⟨-, b1, b2, b3, b4⟩ | ⟨k1, -⟩
    · have ew : wq H G (I (x + 278)) (w_ah D true H (I (x + 278)) v).1 := by
        unfold w_ah
        exact wq_ws (z := (I (x + 278), nI 0, 0)) s4.bd (wq.rf g4 g8 g6) gG8 gH8
      have et : tx_eq (I (x + 278)) (w_ah D true H (I (x + 278)) v).1 := by
        unfold w_ah
        exact tx_ws (z := (I (x + 278), nI 0, 0)) gH8
      have b3 : K' (x + 278) = (w_ah D true H (I (x + 278)) v).1 := b3
      refine ⟨al_keep2 (K1 := K) h s3 a1 a4 a2 a5 (fun c a b => hK c (by unfold wz; omega)) (fun c a b d => b1 c a b (by omega)) (fun k hk => b2 k (by omega)) (fun j hj => by rw [b3]; exact et j (by omega)) (by rw [b3]; exact hW.1) (by rw [b3]; exact hW.2) (by rw [b3]; exact s5.wq gH gH8 gG gG8 ew), ?_⟩
      rw [b2 0 (by omega), k0]
      unfold vs_rem
      split
      · rw [mu_n (by omega), vs_cq_ne (by omega), mu_n (by omega), vs_cq_ne (by omega)]; exact mu_e
      · rw [mu_n (by omega), vs_cq_ne (by omega)]; exact mu_e
    · rw [k0] at k1; exact absurd k1 (by omega)
  · have q := fun J' => c_Mo_weeks (l := l) (E := E) (J := J') (t := t') (mo := x + 277) (m := I (x + 278)) (A := A) c13 rfl (TX := tx_law D) (dd := 31) s6.1 (fun m I h g q a b c d e => c_Mo_asks c13 b a c d e) hcl (by omega) ⟨gH, g6, g8⟩ gH8 gG8 a3 a4 (v := v)
    refine ⟨t', S, I, P, rfl, ht', h.out, fun J' => ⟨(sp_weeks D (I (x + 278)) H v).2, mx_C_mono (q J') (mx_sR_mono (fun K' hK' => ?_)), fun _ => rfl⟩⟩
    rcases hK' with ⟨k1, -⟩ | ⟨k1, rfl⟩
    · exact absurd k1 k0
    · exact ⟨h.mo0 ht', by rw [k1]; exact mu_e⟩
/-- all but the State and the past, which is forgotten -/
theorem al_fresh (h : al_ok t S I P x) (ht : t ≤ t2) (hsh : al_sh S2 P2 x) (ha : al_at x t2 la) (hs : sa_ok S2 K P2 (x + 23) (K (x + 278)) la D) (e1 : K (x + 68) 1 = nI 0) (e2 : K (x + 68) 2 = I (x + 68) 2) (e3 : K (x + 277) 6 = nI 0) (e4 : K x 6 = I x 6) (e5 : K (x + 277) 3 = I (x + 277) 3) (e6 : ∀ c, (x + 53 ≤ c ∧ c < x + 67) ∨ c = x + 279 → K c = I c) (e7 : P2 (x + 53) 2 = P (x + 53) 2) (e8 : ∀ la2 D2, al_at x t la2 → la_is S P I la2 D2 → la_is S2 P2 K la2 D2) (hx : ∃ f L, te_tx K (x + 250) f L ∧ mp_tx K (x + 277) f L) (ef : K (x + 250) 2 = K (x + 277) 12) : al_ok t2 S2 K P2 x := by
  obtain ⟨h1, h2, ⟨la0, D0, ha0, hs0, hp⟩, ⟨b, hb1, hb2, hb3⟩, -, -⟩ := h
  obtain ⟨A, z, a1, a2, a3, a4, a5⟩ := hp.fl
  refine ⟨by omega, hsh, ⟨la, D, ha, hs, ps_ok.no e1 ⟨z, a5, e2.trans a2⟩ e3⟩, ⟨b, e4.trans hb1, e5.trans hb2, fun hb => ?_⟩, hx, ef⟩
  obtain ⟨la2, D2, ha2, hs2⟩ := hb3 hb
  refine ⟨la2, D2, ⟨ha2.1, by have := ha2.2; omega⟩, ?_⟩
  rw [e6 (x + 279) (by omega)]
  exact hs2.cg (fun c a b => e6 c (by omega)) e7 (e8 _ _ ha2 hs2.2.2.2.1)
theorem al_sh.sm (h : al_sh S P x) (e : ∀ c, x ≤ c → c < x + 292 → S2 c = S c ∧ P2 c = P c) : al_sh S2 P2 x := by
  obtain ⟨h1, h2, h3, h4, h5, h6, h7, h8, h9, h10, h11, h12, h13, h14⟩ := h
  have m : ∀ u v, x ≤ u → v ≤ x + 292 → mx_sm u v S S2 (fun _ _ => 0) (fun _ _ => 0) P P2 := fun u v a b c hc hd => ⟨(e c (by omega) (by omega)).1, rfl, (e c (by omega) (by omega)).2⟩
  refine ⟨?_, h2.sm (m _ _ (by omega) (by omega)), h3.sm (m _ _ (by omega) (by omega)), h4.sm (m _ _ (by omega) (by omega)), h5.sm (m _ _ (by omega) (by omega)), h6.sm (m _ _ (by omega) (by omega)), h7.sm (m _ _ (by omega) (by omega)), h8.sm (m _ _ (by omega) (by omega)), h9.sm (m _ _ (by omega) (by omega)), h10.sm (m _ _ (by omega) (by omega)), h11.sm (m _ _ (by omega) (by omega)), h12.sm (m _ _ (by omega) (by omega)), ?_, (e _ (by omega) (by omega)).1.trans h14⟩
  · unfold vh_ok at h1 ⊢
    rw [(e x (by omega) (by omega)).1, (e x (by omega) (by omega)).2, (e (x + 15) (by omega) (by omega)).1, (e (x + 16) (by omega) (by omega)).1, (e (x + 68) (by omega) (by omega)).1]
    exact h1
  · unfold mo_ok at h13 ⊢
    rw [(e (x + 277) (by omega) (by omega)).1, (e (x + 277) (by omega) (by omega)).2, (e (x + 277 + 1) (by omega) (by omega)).1, (e (x + 277 + 2) (by omega) (by omega)).1, (e (x + 277 + 3) (by omega) (by omega)).1, (e (x + 277 + 4) (by omega) (by omega)).1, (e (x + 277 + 5) (by omega) (by omega)).1, (e (x + 277 + 6) (by omega) (by omega)).1, (e (x + 277 + 7) (by omega) (by omega)).1, (e (x + 277 + 8) (by omega) (by omega)).1, (e (x + 277 + 9) (by omega) (by omega)).1, (e (x + 277 + 10) (by omega) (by omega)).1, (e (x + 277 + 11) (by omega) (by omega)).1, (e (x + 277 + 12) (by omega) (by omega)).1, (e (x + 277 + 13) (by omega) (by omega)).1]
    exact h13
theorem rw_ok.by' {m : Nat → Int32} (h : rw_ok m) : by_ok m := by
  obtain ⟨H, G, T, -, -, -, -, -, -, -, -, -, -, h8⟩ := h
  exact h8
theorem rw_ok.lx {m : Nat → Int32} {f : Nat → Nat} {L : Nat} {v w : Int32} (h : rw_ok m) (hL : L ≤ 400) (hf : ∀ k, k < 400 → f k < 256) : rw_ok (lx_row (updI (updI m 1 v) 2 w) f L) := by
  have e : ∀ k, k ≠ 1 → k ≠ 2 → k < 619 → lx_row (updI (updI m 1 v) 2 w) f L k = m k := fun k a b c => by
    unfold lx_row; rw [if_neg (by omega), updI_n b, updI_n a]
  obtain ⟨H, G, T, h1, h2, ⟨g1, g2, g3, g4, g5⟩, a1, a2, a3, a4, a5, ⟨r, r1, r2⟩, a7, a8⟩ := h
  have g3 : H ≤ 8 := g3
  have g4 : G ≤ 8 := g4
  refine ⟨H, G, T, (e 0 (by omega) (by omega) (by omega)).trans h1, h2, ⟨(e 3 (by omega) (by omega) (by omega)).trans g1, (e 4 (by omega) (by omega) (by omega)).trans g2, g3, g4, fun h b1 b2 => ⟨(e _ (by omega) (by omega) (by omega)).trans (g5 h b1 b2).1, (e _ (by omega) (by omega) (by omega)).trans (g5 h b1 b2).2⟩⟩, fun h hh => ?_, fun h hh => ?_, fun h g hh hg => ?_, fun h q b1 b2 b3 => (e _ (by omega) (by omega) (by omega)).trans (a4 h q b1 b2 b3), fun h q hh hq => ?_, ⟨r, r1, (e 5 (by omega) (by omega) (by omega)).trans r2⟩, fun g hg => ?_, a8.lx hf⟩
  · rw [e _ (by omega) (by omega) (by omega)]; exact a1 h hh
  · rw [e _ (by omega) (by omega) (by omega)]; exact a2 h hh
  · rw [e _ (by omega) (by omega) (by omega), e _ (by omega) (by omega) (by omega)]; exact a3 h g hh hg
  · rw [e _ (by omega) (by omega) (by omega)]; exact a5 h q hh hq
  · rw [e _ (by omega) (by omega) (by omega)]; exact a7 g hg
theorem op_law (htr : l.stackTraces = false) : al_op l E x 1 false M_Vh_law M_Mo_law [] [] (fun _ => "java/lang/IllegalArgumentException") 20 6 600 32 := by
  intro t S I P J h
  obtain ⟨h1, hsh, ⟨la, D, ha, hs, hp⟩, -, ⟨fx, Lx, hf, hg⟩, h6⟩ := id h
  obtain ⟨s1, ⟨N, zl, s2⟩, s3, s4, s5, s6⟩ := id hs
  obtain ⟨c1, c2, c3, c4, c5, c6, c7, c8, c9, c10, c11, c12, c13, c14⟩ := id hsh
  refine ⟨vl_cd (gq_law (tK fx Lx) (tV fx Lx)), 20, vl_an (gq_law (tK fx Lx) (tV fx Lx)), _, ⟨by unfold vl_cd; split <;> omega, fun h => by cases h⟩, Nat.le_refl _, mx_C_mono (c_Vh_law htr c1 c5 c9 c12 hf (by omega)) (fun r X q => vlo_pg q), fun X1 hX => ?_⟩
  obtain ⟨r, hX⟩ := hX
  have hla5 : ∀ c, (x + 22 < c ∧ c < x + 297) → c ≠ la + 5 := fun c hc => by have := ha.1; omega
  have kx : ∀ K : mx_I, lx_off I K (x + 272) (x + 250) → ∀ c, (c < x + 250 ∨ x + 256 ≤ c) → (c < x + 272 ∨ x + 277 ≤ c) → K c = I c := fun K hK c a b => hK.1 c a b
  unfold vlo at hX
  cases hq : gq_law (tK fx Lx) (tV fx Lx) with
  | inl e =>
    rw [hq] at hX
    obtain ⟨-, K, t', ht', rfl, hK, hK2⟩ := hX
    have k1 := kx K hK
    refine ⟨t', S, _, P, rfl, ht', h.out, fun J' => ?_⟩
    have q := c_Mo_law (l := l) (E := E) (t := t') (S := S) (P := P) (J := J') (I := mx_up K (x + 250) 1 (nI 0)) (mo := x + 277) (f := fx) (L := Lx) c13 ⟨by rw [mx_up_ne (by omega), k1 _ (by omega) (by omega)]; exact hg.1, hg.2.1, hg.2.2.1, fun k hk => by rw [mx_up_ne (by omega), k1 _ (by omega) (by omega)]; exact hg.2.2.2 k hk⟩
    rw [hq] at q
    refine ⟨_, mx_C_mono q (mx_sR_mono (fun K' hK' => ?_)), fun z => absurd z (by show ¬ ((1 : Nat) = 0); omega)⟩
    obtain ⟨r1, r2, r3, r4, r5, r6, r7⟩ := hK'
    have ec : ∀ c, (c < x + 250 ∨ x + 256 ≤ c) → (c < x + 272 ∨ x + 277 < c) → K' c = I c := fun c a b => by
      by_cases d : c = x + 278
      · subst d
        rw [show x + 278 = x + 277 + 1 by omega, r6, mx_up_ne (by omega), k1 _ (by omega) (by omega)]
      · rw [r1 c (by omega) d, mx_up_ne (by omega), k1 c a (by omega)]
    have em : ∀ k, k = 3 → K' (x + 277) k = I (x + 277) k := fun k hk => by rw [r2 k (by omega) (by omega) (by omega) (by omega) (by omega) (by omega) (by omega) (by omega) (by omega) (by omega) (by omega), mx_up_ne (by omega), k1 _ (by omega) (by omega)]
    have e250 : K' (x + 250) = mx_up K (x + 250) 1 (nI 0) (x + 250) := r1 _ (by omega) (by omega)
    refine ⟨h.sc s3 ht' (Or.inl rfl) ⟨fun c a b => ec c (by unfold al_d at a; omega) (by unfold al_d at a; omega), by rw [ec x (by omega) (by omega)], by rw [ec _ (by omega) (by omega)], by rw [ec _ (by omega) (by omega)], em 3 rfl, by rw [r7, mx_up_ne (by omega), k1 _ (by omega) (by omega)]⟩ ⟨fx, 0, ⟨fun k hk => ?_, by rw [e250]; exact mu_e, by omega⟩, ⟨r3, by omega, hg.2.2.1, fun k hk => by rw [ec _ (by omega) (by omega)]; exact hg.2.2.2 k hk⟩⟩ ?_, r4⟩
    · rw [r1 (x + 250 + 1) (by omega) (by omega), mx_up_ne (by omega), hK.2.1]; exact hf.1 k hk
    · rw [e250, mu_n (by omega), hK2, r5]
  | inr s =>
    rw [hq] at hX
    obtain ⟨-, K, rfl, hK, hK2, hKr⟩ := hX
    have k1 := kx K hK
    have sl : ∀ c, c < t → lwm_S S t s.length (gq_co s).length c = S c := fun c hc => lwm_S_lt hc
    have pl : ∀ c, c < t → c ≠ x + 23 → mx_upP (lwm_P P t) (x + 23) 2 (some t) c = P c := fun c hc hd => by rw [mx_upP_ne hd, lwm_P_lt hc]
    have il : ∀ c, c < t → c ≠ x + 68 → c ≠ x + 250 → (mx_up (lwm_I (mx_up K (x + 250) 1 (nI 0)) t (x + 272) s.length (gq_co s).length) (x + 68) 1 (nI 0)) c = K c := fun c hc hd he => by rw [mx_up_ne hd, lwm_I_lt hc, mx_up_ne he]
    have hsh1 : al_sh (lwm_S S t s.length (gq_co s).length) (lwm_P P t) x := hsh.sm (fun c a b => ⟨sl c (by omega), lwm_P_lt (by omega)⟩)
    have hsh2 := hsh1.law (la := t) (r := x + 23) (by omega)
    have c13' : mo_ok (lwm_S S t s.length (gq_co s).length) (mx_upP (lwm_P P t) (x + 23) 2 (some t)) (x + 277) := hsh2.2.2.2.2.2.2.2.2.2.2.2.2.1
    refine ⟨t + 6, _, _, _, rfl, by omega, ⟨hsh2.2.2.2.2.2.2.2.2.2.2.2.2.2, c13'.1⟩, fun J' => ?_⟩
    have q := c_Mo_law (l := l) (E := E) (t := t + 6) (J := J') (I := mx_up (lwm_I (mx_up K (x + 250) 1 (nI 0)) t (x + 272) s.length (gq_co s).length) (x + 68) 1 (nI 0)) (mo := x + 277) (f := fx) (L := Lx) c13' ⟨by rw [il _ (by omega) (by omega) (by omega), k1 _ (by omega) (by omega)]; exact hg.1, hg.2.1, hg.2.2.1, fun k hk => by rw [il _ (by omega) (by omega) (by omega), k1 _ (by omega) (by omega)]; exact hg.2.2.2 k hk⟩
    rw [hq] at q
    refine ⟨_, mx_C_mono q (mx_sR_mono (fun K' hK' => ?_)), fun _ => rfl⟩
    obtain ⟨r1, r2, r3, r4, r5, r6, r7⟩ := hK'
    have ec : ∀ c, c < t → c ≠ x + 68 → (c < x + 250 ∨ x + 256 ≤ c) → (c < x + 272 ∨ x + 278 < c) → K' c = I c := fun c g a b d => by
      rw [r1 c (by omega) (by omega), il c g (by omega) (by omega), k1 c (by omega) (by omega)]
    have e68 : K' (x + 68) = mx_up (lwm_I (mx_up K (x + 250) 1 (nI 0)) t (x + 272) s.length (gq_co s).length) (x + 68) 1 (nI 0) (x + 68) := r1 _ (by omega) (by omega)
    have e68b : lwm_I (mx_up K (x + 250) 1 (nI 0)) t (x + 272) s.length (gq_co s).length (x + 68) = I (x + 68) := by
      rw [lwm_I_lt (by omega), mx_up_ne (by omega), k1 _ (by omega) (by omega)]
    have e250 : K' (x + 250) = mx_up K (x + 250) 1 (nI 0) (x + 250) := by rw [r1 _ (by omega) (by omega), mx_up_ne (by omega), lwm_I_lt (by omega)]
    have er : K' (x + 278) = lx_row (updI (updI (I (x + 278)) 1 (nI s.length)) 2 (nI Lx)) fx Lx := by
      rw [show x + 278 = x + 277 + 1 by omega, r6, il _ (by omega) (by omega) (by omega), k1 _ (by omega) (by omega)]
    have hL := hf.2.2
    have ek : ∀ k, k ≠ 1 → k ≠ 2 → k < 619 → K' (x + 278) k = I (x + 278) k := fun k a b c => by
      rw [er]; unfold lx_row; rw [if_neg (by omega), updI_n b, updI_n a]
    have ll : ∀ c, t ≤ c → K' c = lwm_I (mx_up K (x + 250) 1 (nI 0)) t (x + 272) s.length (gq_co s).length c := fun c hc => by rw [r1 c (by omega) (by omega), mx_up_ne (by omega)]
    have hnew := lw_made (S := S) (P := P) (t := t) (lr := x + 272) (I := mx_up K (x + 250) 1 (nI 0)) (f := fx) (L := Lx) (s := s) (by omega) (by
      unfold ll_rows at hKr ⊢
      rw [mx_up_ne (by omega), mx_up_ne (by omega), mx_up_ne (by omega), mx_up_ne (by omega), mx_up_ne (by omega)]; exact hKr) hq hL
    have hnew2 : la_is (lwm_S S t s.length (gq_co s).length) (mx_upP (lwm_P P t) (x + 23) 2 (some t)) K' t (gq_D s) := (la_ne hnew (by omega)).sm (fun c a b => ⟨rfl, ll c a, rfl⟩)
    obtain ⟨b1, b2, b3, b4, b5, b6, b7, b8, b9, b10⟩ := id s1
    refine ⟨al_fresh (D := gq_D s) (la := t) h (by omega) hsh2 ⟨Or.inr h1, by omega⟩ ⟨?_, ⟨N, zl, ?_⟩, by simp [mx_upP], hnew2, ?_, ⟨by rw [er]; exact tx_law.new s5.by' hL hg.2.2.1 hq, ?_⟩⟩ (by rw [e68]; exact mu_e) (by rw [e68, mu_n (by omega), e68b]) r7 (by rw [ec x (by omega) (by omega) (by omega) (by omega)]) ?_ (fun c hc => ec c (by omega) (by omega) (by omega) (by omega)) (by rw [pl _ (by omega) (by omega)]) (fun la2 D2 ha2 hl2 => hl2.sm (fun c a b => ⟨sl c (by have := ha2.2; omega), ec c (by have := ha2.2; omega) (by have := ha2.1; omega) (by have := ha2.1; omega) (by have := ha2.1; omega), pl c (by have := ha2.2; omega) (by have := ha2.1; omega)⟩)) ⟨fx, 0, ⟨fun k hk => ?_, by rw [e250]; exact mu_e, by omega⟩, ⟨r3, by omega, hg.2.2.1, fun k hk => by rw [ec _ (by omega) (by omega) (by omega) (by omega)]; exact hg.2.2.2 k hk⟩⟩ ?_, r4⟩
    · have e23 : ∀ k, K' (x + 23) k = I (x + 23) k := fun k => by rw [ec _ (by omega) (by omega) (by omega) (by omega)]
      exact s1.own (fun c a b => ec c (by omega) (by omega) (by omega) (by omega)) (fun k hk => by
        rcases hk with rfl | rfl | hk
        · exact ek 3 (by omega) (by omega) (by omega)
        · exact ek 4 (by omega) (by omega) (by omega)
        · exact ek _ (by omega) (by omega) (by omega)) ((e23 3).trans (b2.trans (ek _ (by omega) (by omega) (by omega)).symm)) ((e23 4).trans (b3.trans (ek _ (by omega) (by omega) (by omega)).symm)) ((e23 5).trans (b4.trans (ek _ (by omega) (by omega) (by omega)).symm)) ((e23 6).trans (b5.trans (ek _ (by omega) (by omega) (by omega)).symm)) ((e23 7).trans (b6.trans (ek _ (by omega) (by omega) (by omega)).symm)) ((e23 8).trans (b7.trans (ek _ (by omega) (by omega) (by omega)).symm))
    · exact (s2.cgr (ec _ (by omega) (by omega) (by omega) (by omega)) (ec _ (by omega) (by omega) (by omega) (by omega))).cmo (fun k hk => ek k (by omega) (by omega) (by omega))
    · rw [er]; exact s5.lx hL hg.2.2.1
    · rw [er]; unfold lx_row; rw [if_neg (by omega), updI_n (by omega), updI_e]; rfl
    · rw [r2 3 (by omega) (by omega) (by omega) (by omega) (by omega) (by omega) (by omega) (by omega) (by omega) (by omega) (by omega), il _ (by omega) (by omega) (by omega), k1 _ (by omega) (by omega)]
    · rw [r1 (x + 250 + 1) (by omega) (by omega), il _ (by omega) (by omega) (by omega), hK.2.1]; exact hf.1 k hk
    · rw [e250, mu_n (by omega), hK2, r5]
theorem op_ground (htr : l.stackTraces = false) : al_op l E x 2 false M_Vh_ground M_Mo_ground [] [] (fun c => if c = 1 then "java/lang/IllegalArgumentException" else "java/lang/UnsupportedOperationException") 10 1 6 10 := by
  intro t S I P J h
  obtain ⟨h1, hsh, ⟨la, D, ha, hs, hp⟩, -, ⟨fx, Lx, hf, hg⟩, h6⟩ := id h
  obtain ⟨s1, ⟨N, zl, s2⟩, s3, s4, s5, s6⟩ := id hs
  obtain ⟨c1, c2, c3, c4, c5, c6, c7, c8, c9, c10, c11, c12, c13, c14⟩ := id hsh
  obtain ⟨H, G, T, g1, g2, g3, g4, g5, g6, g7, g8, g9, g10, g11⟩ := id s5
  obtain ⟨gH, gG, gH8, gG8, g12⟩ := id g3
  replace gH8 : H ≤ 8 := gH8
  replace gG8 : G ≤ 8 := gG8
  replace gH : I (x + 278) 3 = nI H := gH
  replace gG : I (x + 278) 4 = nI G := gG
  have c13' : mo_ok S (mx_upP P (x + 257) 2 (some la)) (x + 277) := (hsh.law (la := la) (r := x + 257) (by omega)).2.2.2.2.2.2.2.2.2.2.2.2.1
  refine ⟨(sp_ground (gg_read fx Lx (H, G, I (x + 278))) T).1, 10, (sp_ground (gg_read fx Lx (H, G, I (x + 278))) T).2, _, ⟨?_, fun h => by cases h⟩, Nat.le_refl _, mx_C_mono (c_Vh_ground htr c1 c5 c11 c9 c10 s3 s1 gH gG g1 g2 gH8 gG8 hf) (fun r X q => mx_pR_pg q), fun X1 hX => ?_⟩
  · unfold sp_ground gg_cd
    dsimp only
    split
    · omega
    · split <;> omega
  obtain ⟨K, t', ht', rfl, K1, ⟨hK1, hK2⟩, hK⟩ := hX
  have k1 : ∀ c, (c < x + 250 ∨ x + 256 ≤ c) → (c < x + 257 ∨ x + 271 ≤ c) → K1 c = I c := fun c a b => hK1.1 c a (by omega)
  have hKe : ∀ c, (x + 38 ≤ c) → (c < x + 250 ∨ x + 256 ≤ c) → (c < x + 257 ∨ x + 271 ≤ c) → c ≠ x + 68 → K c = I c := fun c a b d e => by
    rw [hK]
    split
    · rw [mx_up_ne e, mx_up_ne (by omega), vs_stT_o (by omega), mx_up_ne (by omega), k1 c b d]
    · rw [mx_up_ne (by omega), k1 c b d]
  have eK : K (x + 277 + 1) = I (x + 278) := hKe _ (by omega) (by omega) (by omega) (by omega)
  have q := fun J' => c_Mo_ground (l := l) (E := E) (t := t') (S := S) (J := J') (I := K) (mo := x + 277) (f := fx) (L := Lx) (Hn := H) (Gn := G) (T := T) c13' ⟨by rw [hKe _ (by omega) (by omega) (by omega) (by omega)]; exact hg.1, hg.2.1, hg.2.2.1, fun k hk => by rw [hKe _ (by omega) (by omega) (by omega) (by omega)]; exact hg.2.2.2 k hk⟩ (by rw [eK]; exact g1) g2 (by rw [eK]; exact g3)
  rw [eK] at q
  refine ⟨t', S, K, _, rfl, ht', h.out, fun J' => ⟨_, mx_C_mono (q J') (mx_sR_mono (fun K' hK' => ?_)), fun _ => rfl⟩⟩
  obtain ⟨r1, r2, r3, r4, r5⟩ := hK'
  refine ⟨?_, r3⟩
  have r251 : K' (x + 250 + 1) = I (x + 250 + 1) := by
    rw [r1 _ (by omega) (by omega) (by omega), hK]
    split
    · rw [mx_up_ne (by omega), mx_up_ne (by omega), vs_stT_o (by omega), mx_up_ne (by omega), hK1.2.1]
    · rw [mx_up_ne (by omega), hK1.2.1]
  have r250 : K' (x + 250) = mx_up K1 (x + 250) 1 (nI 0) (x + 250) := by
    rw [r1 _ (by omega) (by omega) (by omega), hK]
    split
    · rw [mx_up_ne (by omega), mx_up_ne (by omega), vs_stT_o (by omega)]
    · rfl
  have em3 : K' (x + 277) 3 = I (x + 277) 3 := by rw [r2 3 (by omega) (by omega) (by omega) (by omega) (by omega) (by omega) (by omega) (by omega), hKe _ (by omega) (by omega) (by omega) (by omega)]
  have htape : ∃ f L, te_tx K' (x + 250) f L ∧ mp_tx K' (x + 277) f L := ⟨fx, 0, ⟨fun k hk => by rw [r251]; exact hf.1 k hk, by rw [r250]; exact mu_e, by omega⟩, ⟨r4, by omega, hg.2.2.1, fun k hk => by rw [r1 _ (by omega) (by omega) (by omega), hKe _ (by omega) (by omega) (by omega) (by omega)]; exact hg.2.2.2 k hk⟩⟩
  -- nothing was taken
  have no : K = mx_up K1 (x + 250) 1 (nI 0) → K' (x + 277 + 1) = K (x + 277 + 1) → K' (x + 277) 6 = K (x + 277) 6 → K' (x + 250) 2 = K' (x + 277) 12 → al_ok t' S K' (mx_upP P (x + 257) 2 (some la)) x := fun n1 n2 n3 n4 => by
    have ec : ∀ c, (c < x + 250 ∨ x + 256 ≤ c) → (c < x + 257 ∨ x + 271 ≤ c) → c ≠ x + 277 → c ≠ x + 280 → K' c = I c := fun c a b d e => by
      by_cases g : c = x + 278
      · subst g
        exact n2.trans eK
      · rw [r1 c d g e, n1, mx_up_ne (by omega), k1 c a b]
    exact h.sc s3 ht' (Or.inr (Or.inr rfl)) ⟨fun c a b => ec c (by unfold al_d at a; omega) (by unfold al_d at a; omega) (by unfold al_d at a; omega) (by unfold al_d at a; omega), by rw [ec x (by omega) (by omega) (by omega) (by omega)], by rw [ec _ (by omega) (by omega) (by omega) (by omega)], by rw [ec _ (by omega) (by omega) (by omega) (by omega)], em3, by rw [n3, hKe _ (by omega) (by omega) (by omega) (by omega)]⟩ htape n4
  have e2 : K' (x + 250) 2 = K1 (x + 250) 2 := by rw [r250, mu_n (by omega)]
  cases hr : gg_read fx Lx (H, G, I (x + 278)) with
  | inl e =>
    rw [hr] at hK hK2 r5
    exact no (by rw [hK]; exact if_neg (by show ¬ ((1 : Nat) = 0); omega)) r5.2.1 r5.2.2 (by rw [e2, hK2, r5.1])
  | inr s =>
    rw [hr] at hK hK2 r5
    obtain ⟨r5, r6, r7⟩ := r5
    obtain ⟨k2, k3, k4, k5, k6, k7, k8⟩ := hK2
    by_cases hT : T = 12
    · exact no (by rw [hK]; exact if_neg (by show ¬ ((if T = 12 then 2 else 0) = 0); rw [if_pos hT]; omega)) (r6 hT).1 (r6 hT).2 (by rw [e2, k2, r5])
    · obtain ⟨r7, r8, r9, r10⟩ := r7 hT
      rw [if_pos (by show (if T = 12 then 2 else 0) = 0; rw [if_neg hT])] at hK
      have r7 : K' (x + 278) = updI s.2.2 0 (nI (T + 1)) := r7
      have r10 : ∀ k, (k < 3 ∨ k = 9 ∨ k = 10 ∨ 195 ≤ k) → s.2.2 k = I (x + 278) k := fun k hk => by rw [r10 k hk]; exact congrFun eK k
      have hsh2 := hsh.law (la := la) (r := x + 257) (by omega)
      have eo : ∀ c, (c < x + 23 ∨ x + 37 ≤ c) → c ≠ x + 68 → (c < x + 250 ∨ x + 256 ≤ c) → (c < x + 257 ∨ x + 271 ≤ c) → c ≠ x + 277 → c ≠ x + 278 → c ≠ x + 280 → K' c = I c := fun c a b d e g i j => by
        rw [r1 c g i j, hK, mx_up_ne b, mx_up_ne (by omega), vs_stT_o (by omega), mx_up_ne (by omega), k1 c d e]
      have ln : ∀ la2 D2, al_at x t la2 → la_is S P I la2 D2 → la_is S (mx_upP P (x + 257) 2 (some la)) K' la2 D2 := fun la2 D2 ha2 hl2 => la_ne (hl2.sm (fun c a b => ⟨rfl, eo c (by have := ha2.1; omega) (by have := ha2.1; omega) (by have := ha2.1; omega) (by have := ha2.1; omega) (by have := ha2.1; omega) (by have := ha2.1; omega) (by have := ha2.1; omega), rfl⟩)) (by have := ha2.1; omega)
      have e68 : K' (x + 68) = mx_up (mx_up (vs_stT (mx_up K1 (x + 250) 1 (nI 0)) (x + 23) (x + 257)) (x + 23) 3 (nI (T + 1))) (x + 68) 1 (nI 0) (x + 68) := by rw [r1 _ (by omega) (by omega) (by omega), hK]
      have st0 : st_rel (vs_stT (mx_up K1 (x + 250) 1 (nI 0)) (x + 23) (x + 257)) (x + 23) s.2.2 := vs_stT_rel (s := x + 23) (r := x + 257) (by omega) (k3.c14 (fun c a b => mx_up_ne (by omega)))
      have lo0 : lo_rel (vs_stT (mx_up K1 (x + 250) 1 (nI 0)) (x + 23) (x + 257)) (x + 23 + 9) (I (x + 278)) N zl := vs_stT_log (s := x + 23) (r := x + 257) (by omega) ((k8 _ _ _ s2).cgr (mx_up_ne (by omega)) (mx_up_ne (by omega)))
      have ek : ∀ c, x + 23 ≤ c → c < x + 37 → K' c = mx_up (vs_stT (mx_up K1 (x + 250) 1 (nI 0)) (x + 23) (x + 257)) (x + 23) 3 (nI (T + 1)) c := fun c a b => by rw [r1 c (by omega) (by omega) (by omega), hK, mx_up_ne (by omega)]
      obtain ⟨b1, b2, b3, b4, b5, b6, b7, b8, b9, b10⟩ := id st0
      have eu : ∀ k, k ≠ 0 → K' (x + 278) k = s.2.2 k := fun k hk => by rw [r7, updI_n hk]
      have es : ∀ k, k ≠ 3 → K' (x + 23) k = vs_stT (mx_up K1 (x + 250) 1 (nI 0)) (x + 23) (x + 257) (x + 23) k := fun k hk => by rw [ek _ (by omega) (by omega), mu_n hk]
      refine al_fresh (D := D) (la := la) h ht' hsh2 ⟨ha.1, by have := ha.2; omega⟩ ⟨?_, ⟨N, zl, ?_⟩, by rw [mx_upP_ne (by omega)]; exact s3, ln _ _ ha s4, ?_, ?_⟩ (by rw [e68]; exact mu_e) ?_ r8 (by rw [eo x (by omega) (by omega) (by omega) (by omega) (by omega) (by omega) (by omega)]) em3 (fun c hc => eo c (by omega) (by omega) (by omega) (by omega) (by omega) (by omega) (by omega)) (by rw [mx_upP_ne (by omega)]) ln htape (by rw [e2, k2, r5])
      · refine st0.own (fun c a b => by rw [ek c (by omega) (by omega), mx_up_ne (by omega)]) (fun k hk => eu k (by omega)) ?_ ((es 4 (by omega)).trans (b3.trans (eu _ (by omega)).symm)) ((es 5 (by omega)).trans (b4.trans (eu _ (by omega)).symm)) ((es 6 (by omega)).trans (b5.trans (eu _ (by omega)).symm)) ((es 7 (by omega)).trans (b6.trans (eu _ (by omega)).symm)) ((es 8 (by omega)).trans (b7.trans (eu _ (by omega)).symm))
        rw [ek _ (by omega) (by omega), mu_e, r7, updI_e]
      · exact (lo0.cgr ((ek _ (by omega) (by omega)).trans (mx_up_ne (by omega))) ((ek _ (by omega) (by omega)).trans (mx_up_ne (by omega)))).cmo (fun k hk => by rw [eu k (by omega)]; exact r10 k (by omega))
      · rw [r7]
        exact rw_ground (s := (H, G, I (x + 278))) (by omega) ⟨g3, g4, g5, g6, g7, g8, g9, g10, g11⟩ hr
      · exact s6.cg (by rw [eu 1 (by omega)]; exact r10 1 (by omega)) (by rw [eu 2 (by omega)]; exact r10 2 (by omega)) (fun k hk => by rw [eu k (by omega)]; exact r10 k (by omega))
      · rw [e68, mu_n (by omega), mx_up_ne (by omega), vs_stT_o (by omega), mx_up_ne (by omega), k1 _ (by omega) (by omega)]
end CM98
