/-! AN ACT THAT IS KEPT: the law's stack may be touched, and any part of the State -/
section CI98
variable {l : Launch} {E : mx_Env} {t x la A z n dv kv nv dm mo s h q c j wk : Nat} {S : mx_S} {I K K1 : mx_I} {P : mx_P} {J : mx_G} {D : lwD} {m m2 : Nat → Int32} {v w : Int32} {bz : Bool} {Mv Mm : mx_M} {as bs : List Value} {f : Nat → String} {sp : Nat × Int32}
theorem rem_4 (h4 : K (mo + 4) = I (mo + 4)) (h1 : K (mo + 1) = I (mo + 1)) : vs_rem K mo A (mo + 4) = vs_rem I mo A (mo + 4) := by
  unfold vs_rem
  split
  · rw [mx_up_ne (by omega), mx_up_ne (by omega)]
    funext i
    unfold vs_cq
    simp only [mx_up_ne (show mo + 4 ≠ mo by omega), mx_up_ne (show mo + 1 ≠ mo by omega)]
    simp only [h4, h1]
  · rw [mx_up_ne (by omega), mx_up_ne (by omega)]
    funext i
    unfold vs_cq
    simp only [h4, h1]
theorem al_keep2 (h : al_ok t S I P x) (hla : P (x + 23) 2 = some la) (hA : I (x + 68) 1 = nI A) (hA12 : A ≤ 12) (hz : I (x + 68) 2 = nI z) (hz12 : z < 12)
    (k1 : ∀ c, c ≠ la + 5 → (c < x + 23 ∨ x + 37 < c) → K1 c = vs_keep I (x + 68) (x + 23) z A c)
    (k2 : ∀ c, c ≠ x + 277 → c ≠ x + 278 → (c < x + 283 ∨ x + 291 ≤ c) → K c = vs_rem (mx_up K1 (x + 277) 0 (nI 0)) (x + 277) A c)
    (k2f : ∀ k, (k = 3 ∨ k = 6 ∨ k = 8 ∨ k = 12) → K (x + 277) k = vs_rem (mx_up K1 (x + 277) 0 (nI 0)) (x + 277) A (x + 277) k)
    (k3 : ∀ j, (j = 1 ∨ j = 2 ∨ 619 ≤ j) → K (x + 278) j = I (x + 278) j)
    (hn : st_rel K1 (x + 23) (K (x + 278))) (hlo : ∃ N z, lo_rel K1 (x + 23 + 9) (K (x + 278)) N z) (hrw : rw_ok (K (x + 278))) : al_ok t S K (mx_upP P (x + 70 + 15 * z) 2 (some la)) x := by
  have h0 := h
  obtain ⟨h1, -, ⟨la0, D, ha, hs, -⟩, -, ⟨f, L, hf, hg⟩, h6⟩ := h0
  have e0 : la0 = la := Option.some.inj (hs.2.2.1.symm.trans hla)
  subst e0
  have hne : ∀ c, c < x + 22 ∨ (x + 22 < c ∧ c < x + 297) → c ≠ la0 + 5 := fun c hc => by have := ha.1; omega
  have eR : ∀ c, c ≠ x + 277 → c ≠ x + 278 → c ≠ x + 281 → (c < x + 283 ∨ x + 291 ≤ c) → K c = K1 c := fun c a b d g => by rw [k2 c a b g, vs_rem_o a (by omega), mx_up_ne a]
  have eK : ∀ c, c ≠ la0 + 5 → (c < x + 23 ∨ x + 37 < c) → c ≠ x + 68 → K1 c = vs_stT I (x + 70 + 15 * z) (x + 23) c := fun c a b d => by
    rw [k1 c a b]; unfold vs_keep; rw [mx_up_ne d, mx_up_ne d, show x + 68 + 2 + 15 * z = x + 70 + 15 * z by omega]
  have eO : ∀ c, c ≠ la0 + 5 → (c < x + 23 ∨ x + 37 < c) → c ≠ x + 68 → (c < x + 70 ∨ x + 250 ≤ c) → K1 c = I c := fun c a b d g => by rw [eK c a b d, vs_stT_o (by omega)]
  have e277 : K1 (x + 277) = I (x + 277) := eO _ (hne _ (by omega)) (by omega) (by omega) (by omega)
  have e278 : K1 (x + 278) = I (x + 278) := eO _ (hne _ (by omega)) (by omega) (by omega) (by omega)
  have e281 : K1 (x + 281) = I (x + 281) := eO _ (hne _ (by omega)) (by omega) (by omega) (by omega)
  have e250 : K (x + 250) = I (x + 250) := (eR _ (by omega) (by omega) (by omega) (by omega)).trans (eO _ (hne _ (by omega)) (by omega) (by omega) (by omega))
  have r0 : K x = I x := (eR x (by omega) (by omega) (by omega) (by omega)).trans (eO x (hne x (by omega)) (by omega) (by omega) (by omega))
  have r4 : K (x + 281) = vs_rem I (x + 277) A (x + 281) := by
    rw [k2 (x + 281) (by omega) (by omega) (by omega)]
    exact rem_4 (mo := x + 277) (by rw [mx_up_ne (by omega)]; exact e281) (by rw [mx_up_ne (by omega)]; exact e278)
  have mf : ∀ k, k = 3 ∨ k = 8 ∨ k = 12 → K (x + 277) k = I (x + 277) k := fun k hk => by
    rw [k2f k (by omega)]
    unfold vs_rem
    split
    · rw [mu_n (by omega), vs_cq_ne (by omega), mu_n (by omega), vs_cq_ne (by omega), mu_n (by omega), e277]
    · rw [mu_n (by omega), vs_cq_ne (by omega), mu_n (by omega), e277]
  have r251 : K (x + 251) = I (x + 251) := (eR _ (by omega) (by omega) (by omega) (by omega)).trans (eO _ (hne _ (by omega)) (by omega) (by omega) (by omega))
  have r279 : K (x + 279) = I (x + 279) := (eR _ (by omega) (by omega) (by omega) (by omega)).trans (eO _ (hne _ (by omega)) (by omega) (by omega) (by omega))
  have r282 : K (x + 282) = I (x + 282) := (eR _ (by omega) (by omega) (by omega) (by omega)).trans (eO _ (hne _ (by omega)) (by omega) (by omega) (by omega))
  have r68 : K (x + 68) 2 = nI (vs_nx z) ∧ K (x + 68) 1 = nI (vs_mn A) := by
    rw [eR (x + 68) (by omega) (by omega) (by omega) (by omega), k1 (x + 68) (hne _ (by omega)) (by omega)]
    unfold vs_keep
    exact ⟨by rw [mu_n (by omega)]; exact mu_e, mu_e⟩
  have rk : ∀ c, c ≠ la0 + 5 → al_kc x c → K c = I c := fun c a b => by
    by_cases d1 : c = x + 279
    · subst d1; exact r279
    · by_cases d2 : c = x + 282
      · subst d2; exact r282
      · by_cases d3 : c = x + 251
        · subst d3; exact r251
        · exact (eR c (by unfold al_kc at b; omega) (by unfold al_kc at b; omega) (by unfold al_kc at b; omega) (by unfold al_kc at b; omega)).trans (eO c a (by unfold al_kc at b; omega) (by unfold al_kc at b; omega) (by unfold al_kc at b; omega))
  obtain ⟨K2, hK2⟩ : ∃ K2 : mx_I, K2 = fun c => if c = la0 + 5 then I c else K c := ⟨_, rfl⟩
  have kq : ∀ c, c ≠ la0 + 5 → K2 c = K c := fun c hc => by rw [hK2]; exact if_neg hc
  have kl : K2 (la0 + 5) = I (la0 + 5) := by rw [hK2]; exact if_pos rfl
  have q278 := kq (x + 278) (hne _ (by omega))
  have q277 := kq (x + 277) (hne _ (by omega))
  have q250 := kq (x + 250) (hne _ (by omega))
  have q68 := kq (x + 68) (hne _ (by omega))
  have q0 := kq x (hne _ (by omega))
  have a1 : al_ok t S K2 (mx_upP P (x + 70 + 15 * z) 2 (some la0)) x := by
    obtain ⟨N, zz, hlo⟩ := hlo
    refine al_keep h hla hA hA12 hz hz12 (fun c a b => ?_) (by rw [q68]; exact r68.2) (by rw [q68]; exact r68.1) ?_ (by rw [kq (x + 281) (hne _ (by omega))]; exact r4) (fun j hj => by rw [q278]; exact k3 j hj) (fun c hc => ?_) (by rw [q0, r0]) (by rw [q250, e250]) (by rw [q277]; exact mf 3 (by omega)) (by rw [q277]; exact mf 8 (by omega)) (by rw [q250, q277, e250, mf 12 (by omega)]; exact h6) ?_ ⟨N, zz, ?_⟩ (by rw [q278]; exact hrw)
    · rw [kq c (hne c (by omega)), eR c (by omega) (by omega) (by omega) (by omega), eK c (hne c (by omega)) (by omega) (by omega)]
    · rw [q277, k2f 6 (by omega), rem_6]
    · by_cases d : c = la0 + 5
      · subst d; exact kl
      · rw [kq c d]; exact rk c d hc
    · rw [q278]
      exact hn.c14 (fun c a b => by rw [kq c (hne c (by omega)), eR c (by omega) (by omega) (by omega) (by omega)])
    · rw [q278]
      exact hlo.cgr (by rw [kq _ (hne _ (by omega)), eR _ (by omega) (by omega) (by omega) (by omega)]) (by rw [kq _ (hne _ (by omega)), eR _ (by omega) (by omega) (by omega) (by omega)])
  refine a1.sc (by rw [mx_upP_ne (by omega)]; exact hla) (Nat.le_refl _) (Or.inl rfl) ⟨fun c a b => (kq c b).symm, by rw [q0], by rw [q68], by rw [q68], by rw [q277], by rw [q277]⟩ ⟨f, L, ⟨fun k hk => ?_, ?_, hf.2.2⟩, ⟨(mf 8 (by omega)).trans hg.1, hg.2.1, hg.2.2.1, fun k hk => ?_⟩⟩ (by rw [e250, mf 12 (by omega)]; exact h6)
  · rw [show K (x + 250 + 1) = I (x + 250 + 1) from r251]; exact hf.1 k hk
  · rw [e250]; exact hf.2.1
  · rw [show K (x + 277 + 5) = I (x + 277 + 5) from r282]; exact hg.2.2.2 k hk
/-- the State's own fields -/
theorem st_rel.own (h : st_rel I s m) (e : ∀ c, s + 1 ≤ c → c < s + 14 → K c = I c) (em : ∀ k, k = 3 ∨ k = 4 ∨ (11 ≤ k ∧ k < 259) → m2 k = m k) (e0 : K s 3 = m2 0) (e1 : K s 4 = m2 5) (e2 : K s 5 = m2 6) (e3 : K s 6 = m2 7) (e4 : K s 7 = m2 8) (e5 : K s 8 = m2 10) : st_rel K s m2 := by
  obtain ⟨hp, -, -, -, -, -, -, h7, h8, h9⟩ := h
  obtain ⟨p0, p1, p2, p3, p4, p5, p6, p7, p8⟩ := hp.congr (I' := K) (fun c a b => e c (by omega) (by omega))
  refine ⟨⟨p0.trans (em 3 (by omega)).symm, p1.trans (em 4 (by omega)).symm, fun h hh => (p2 h hh).trans (em _ (by omega)).symm, fun h hh => (p3 h hh).trans (em _ (by omega)).symm, fun h hh => (p4 h hh).trans (em _ (by omega)).symm, fun h hh => (p5 h hh).trans (em _ (by omega)).symm, fun h hh => (p6 h hh).trans (em _ (by omega)).symm, fun h g hh hg => (p7 h g hh hg).trans (em _ (by omega)).symm, fun h g hh hg => (p8 h g hh hg).trans (em _ (by omega)).symm⟩, e0, e1, e2, e3, e4, e5, fun h hh => ?_, fun h hh => ?_, fun h q hh hq => ?_⟩
  · rw [e (s + 11) (by omega) (by omega), em _ (by omega)]; exact h7 h hh
  · rw [e (s + 12) (by omega) (by omega), em _ (by omega)]; exact h8 h hh
  · rw [e (s + 13) (by omega) (by omega), em _ (by omega)]; exact h9 h q hh hq
/-- the list -/
theorem st_upl (hr : st_rel I s m) (hh : h < 8) (hq : q < 8) : st_rel (mx_up I (s + 13) (8 * h + q) v) s (updI m (195 + 8 * h + q) v) := by
  obtain ⟨hp, h1, h2, h3, h4, h5, h6, h7, h8, h9⟩ := hr
  obtain ⟨p0, p1, p2, p3, p4, p5, p6, p7, p8⟩ := hp.congr (I' := mx_up I (s + 13) (8 * h + q) v) (fun c a b => mx_up_ne (by omega))
  have e : ∀ k, (k < 195 ∨ 259 ≤ k) → updI m (195 + 8 * h + q) v k = m k := fun k hk => updI_n (by omega)
  refine ⟨⟨p0.trans (e 3 (by omega)).symm, p1.trans (e 4 (by omega)).symm, fun h hh => (p2 h hh).trans (e _ (by omega)).symm, fun h hh => (p3 h hh).trans (e _ (by omega)).symm, fun h hh => (p4 h hh).trans (e _ (by omega)).symm, fun h hh => (p5 h hh).trans (e _ (by omega)).symm, fun h hh => (p6 h hh).trans (e _ (by omega)).symm, fun h g hh hg => (p7 h g hh hg).trans (e _ (by omega)).symm, fun h g hh hg => (p8 h g hh hg).trans (e _ (by omega)).symm⟩, ?_, ?_, ?_, ?_, ?_, ?_, fun a ha => ?_, fun a ha => ?_, fun a b ha hb => ?_⟩
  · rw [mx_up_ne (by omega), e _ (by omega)]; exact h1
  · rw [mx_up_ne (by omega), e _ (by omega)]; exact h2
  · rw [mx_up_ne (by omega), e _ (by omega)]; exact h3
  · rw [mx_up_ne (by omega), e _ (by omega)]; exact h4
  · rw [mx_up_ne (by omega), e _ (by omega)]; exact h5
  · rw [mx_up_ne (by omega), e _ (by omega)]; exact h6
  · rw [mx_up_ne (by omega), e _ (by omega)]; exact h7 a ha
  · rw [mx_up_ne (by omega), e _ (by omega)]; exact h8 a ha
  · by_cases c : 8 * a + b = 8 * h + q
    · rw [c, mu_e, show 195 + 8 * a + b = 195 + 8 * h + q by omega, updI_e]
    · rw [mu_n c, updI_n (by omega)]; exact h9 a b ha hb
theorem rw_ok.rk {k a : Nat} (hr : rw_ok m) (hk : 67 ≤ k ∧ k < 195) (ha : a ≤ 9) : rw_ok (updI m k (nI a)) := by
  have e : ∀ j, (j < 67 ∨ 195 ≤ j) → updI m k (nI a) j = m j := fun j hj => updI_n (by omega)
  obtain ⟨H', G', T, h1, h2, ⟨g1, g2, g3, g4, g5⟩, a1, a2, a3, a4, a5, ⟨r, r1, r2⟩, a7, a8⟩ := hr
  have g3 : H' ≤ 8 := g3
  have g4 : G' ≤ 8 := g4
  have kk : ∀ j, (∃ b, b ≤ 9 ∧ m j = nI b) → ∃ b, b ≤ 9 ∧ updI m k (nI a) j = nI b := fun j hj => by
    by_cases c : j = k
    · subst c; exact ⟨a, ha, updI_e _ _ _⟩
    · rw [updI_n c]; exact hj
  exact ⟨H', G', T, (e 0 (by omega)).trans h1, h2, ⟨(e 3 (by omega)).trans g1, (e 4 (by omega)).trans g2, g3, g4, fun h b1 b2 => ⟨(e _ (by omega)).trans (g5 h b1 b2).1, (e _ (by omega)).trans (g5 h b1 b2).2⟩⟩, fun h hh => by rw [e _ (by omega)]; exact a1 h hh, fun h hh => by rw [e _ (by omega)]; exact a2 h hh, fun h g hh hg => ⟨kk _ (a3 h g hh hg).1, kk _ (a3 h g hh hg).2⟩, fun h2 q2 b1 b2 b3 => (e _ (by omega)).trans (a4 h2 q2 b1 b2 b3), fun h2 q2 b2 b3 => by rw [e _ (by omega)]; exact a5 h2 q2 b2 b3, ⟨r, r1, (e 5 (by omega)).trans r2⟩, fun g hg => by rw [e _ (by omega)]; exact a7 g hg, fun k hk => by rw [e _ (by omega)]; exact a8 k hk⟩
/-- an operation that keeps the State and writes one place -/
theorem al_w1 (h : al_ok t S I P x) (hla : P (x + 23) 2 = some la) (hA : I (x + 68) 1 = nI A) (hA6 : I (x + 277) 6 = nI A) (hA12 : A ≤ 12) (hz : I (x + 68) 2 = nI z) (hz12 : z < 12) (hn : sp.1 ≤ n)
    (hv : mx_C l E Mv dv kv nv (.ref x :: as) (t, S, I, P, J) (mx_pk f sp (t, S, I, P, J) (t, S, mx_up (vs_keep I (x + 68) (x + 23) z A) c j v, mx_upP P (x + 68 + 2 + 15 * z) 2 (some la), J)))
    (hm : ∀ t' K P2 J', mo_ok S P2 (x + 277) → K (x + 277 + 1) = I (x + 278) → K (x + 277) 6 = nI A → mx_C l E Mm dm 0 0 (.ref (x + 277) :: bs) (t', S, K, P2, J') (mx_ri sp.2 (t', S, vs_chg K (x + 277) A sp.1 wk v, P2, J')))
    (hok : sp.1 = 0 → ((x + 24 ≤ c ∧ c < x + 37) ∧ (c ≠ x + 32 ∧ c ≠ x + 33)) ∧ (3 ≤ wk ∧ wk < 259 ∧ wk ≠ 9) ∧ (∀ I' m, st_rel I' (x + 23) m → st_rel (mx_up I' c j v) (x + 23) (updI m wk v)) ∧ rw_ok (updI (I (x + 278)) wk v)) (hz9 : bz = true → ∃ r : Bool, sp.2 = bI r := by intro h; cases h) : al_op1 l E x n bz Mv Mm as bs f dv kv nv dm t S I P J := by
  have hsh := h.2.1
  refine ⟨sp.1, dv, sp.2, _, ⟨hn, hz9⟩, Nat.le_refl _, mx_C_mono hv (fun r X q => mx_pk_pg q), fun X1 hX => ?_⟩
  rcases hX with ⟨k0, hX⟩ | ⟨k0, t', ht', hX⟩
  · obtain ⟨⟨b1, b2⟩, b3, b4, b5⟩ := hok k0
    refine ⟨t, S, _, _, hX, Nat.le_refl _, h.out, fun J' => ⟨sp.2, mx_C_mono (hm t _ _ J' (hsh.slot (la := la) hz12).2.2.2.2.2.2.2.2.2.2.2.2.1 ?_ ?_) (mx_ri_sR ⟨?_, ?_⟩), fun _ => rfl⟩⟩
    · unfold vs_keep
      rw [mx_up_ne (by omega), mx_up_ne (by omega), mx_up_ne (by omega), vs_stT_o (by omega)]
    · unfold vs_keep
      rw [mx_up_ne (by omega), mx_up_ne (by omega), mx_up_ne (by omega), vs_stT_o (by omega)]; exact hA6
    · rw [k0]
      exact al_write (c := c) (j := j) (wk := wk) (v := v) h hla hA hA12 hz hz12 b1 b2 b3 b4 b5
    · rw [k0]
      unfold vs_chg
      rw [if_pos rfl, mx_up_ne (by omega)]
      unfold vs_rem
      split
      · rw [mu_n (by omega), vs_cq_ne (by omega), mu_n (by omega), vs_cq_ne (by omega)]; exact mu_e
      · rw [mu_n (by omega), vs_cq_ne (by omega)]; exact mu_e
  · refine ⟨t', S, I, P, hX, ht', h.out, fun J' => ⟨sp.2, mx_C_mono (hm t' I P J' hsh.2.2.2.2.2.2.2.2.2.2.2.2.1 rfl hA6) (mx_ri_sR ⟨?_, ?_⟩), fun _ => rfl⟩⟩
    · unfold vs_chg
      rw [if_neg k0]
      exact h.mo0 ht'
    · unfold vs_chg
      rw [if_neg k0]; exact mu_e
end CI98
