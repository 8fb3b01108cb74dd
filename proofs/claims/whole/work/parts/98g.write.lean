/-! THE OPERATIONS THAT KEEP THE STATE AND WRITE -/
section CK98
variable {l : Launch} {E : mx_Env} {x n A z t la s dv kv nv dm : Nat} {S : mx_S} {I K K1 : mx_I} {P : mx_P} {J : mx_G} {m m2 : Nat → Int32} {bz : Bool} {Mv Mm : mx_M} {as bs : List Value} {f : Nat → String} {sp : Nat × Int32} {N zl : Nat}
theorem op_strike (htr : l.stackTraces = false) {v u : Int32} : al_op l E x 2 false M_Vh_strike M_Mo_strike [.int v, .int u] [.int v, .int u] (fun c => if c = 1 then "java/lang/IndexOutOfBoundsException" else "java/lang/IllegalStateException") 7 3 18 2 := by
  intro t S I P J h
  obtain ⟨h1, hsh, ⟨la, D, ha, ⟨s1, ⟨N, zl, s2⟩, s3, s4, s5, s6⟩, hp⟩, -, ⟨fx, Lx, hf, hg⟩, h6⟩ := id h
  obtain ⟨c1, c2, c3, c4, c5, c6, c7, c8, c9, c10, c11, c12, c13, c14⟩ := id hsh
  obtain ⟨H, G, T, g1, g2, g3, g4, g5, g6, g7, g8, g9, g10, g11⟩ := id s5
  obtain ⟨gH, gG, gH8, gG8, g12⟩ := id g3
  replace gH8 : H ≤ 8 := gH8
  replace gG8 : G ≤ 8 := gG8
  replace gH : I (x + 278) 3 = nI H := gH
  replace gG : I (x + 278) 4 = nI G := gG
  have hla5 : x + 250 ≠ la + 5 := by have := ha.1; omega
  have hla6 : x + 278 ≠ la + 5 := by have := ha.1; omega
  have hla7 : x + 282 ≠ la + 5 := by have := ha.1; omega
  have hla8 : x + 277 ≠ la + 5 := by have := ha.1; omega
  have hd : la + 6 ≤ x + 23 ∨ x + 292 ≤ la := by have := ha.1; omega
  have hd2 : la + 6 ≤ x + 23 ∨ x + 23 + 15 ≤ la := by omega
  have hd3 : x + 17 ≤ la := by have := ha.1; omega
  obtain ⟨A, z, a1, a2, a3, a4, a5⟩ := hp.fl
  refine al_w1 (sp := sp_strike (I (x + 278)) H v u) (A := A) (z := z) (c := x + 36) (j := 8 * v.toNatClampNeg + u.toNatClampNeg) (wk := 195 + 8 * v.toNatClampNeg + u.toNatClampNeg) (v := -1) h s3 a1 a3 a4 a2 a5 ?_ (c_Vh_strike htr c1 c5 s1 gH gH8 c8 s3 a2 a5 a1 a4) (fun t' K P2 J' hM hm h6 => c_Mo_strike (mo := x + 277) hM hm gH gH8 h6 a4) (fun k0 => ?_)
  · unfold sp_strike
    repeat' split
    all_goals first | exact Nat.zero_le _ | exact Nat.le_refl _ | exact Nat.le_succ _ | (simp; done)
  · have q : vs_isN v H = true ∧ vs_isN u 8 = true := by
      unfold sp_strike at k0
      split at k0
      · rename_i c; simpa only [Bool.and_eq_true] using c
      · exact absurd k0 (by decide)
    have q1 := vs_isN_cl q.1 (by omega)
    have q2 := vs_isN_cl q.2 (by omega)
    exact ⟨⟨by omega, by omega⟩, by omega, fun I' m hm => st_upl hm (by omega) q2.1, s5.bk gH gH8 gG gG8 q1.1 q2.1 (Or.inl rfl)⟩
theorem op_book (htr : l.stackTraces = false) {v w u : Int32} : al_op l E x 2 false M_Vh_book M_Mo_book [.int v, .int w, .int u] [.int v, .int w, .int u] (fun c => if c = 1 then "java/lang/IndexOutOfBoundsException" else "java/lang/IllegalStateException") 8 4 24 4 := by
  intro t S I P J h
  obtain ⟨h1, hsh, ⟨la, D, ha, ⟨s1, ⟨N, zl, s2⟩, s3, s4, s5, s6⟩, hp⟩, -, ⟨fx, Lx, hf, hg⟩, h6⟩ := id h
  obtain ⟨c1, c2, c3, c4, c5, c6, c7, c8, c9, c10, c11, c12, c13, c14⟩ := id hsh
  obtain ⟨H, G, T, g1, g2, g3, g4, g5, g6, g7, g8, g9, g10, g11⟩ := id s5
  obtain ⟨gH, gG, gH8, gG8, g12⟩ := id g3
  replace gH8 : H ≤ 8 := gH8
  replace gG8 : G ≤ 8 := gG8
  replace gH : I (x + 278) 3 = nI H := gH
  replace gG : I (x + 278) 4 = nI G := gG
  have hla5 : x + 250 ≠ la + 5 := by have := ha.1; omega
  have hla6 : x + 278 ≠ la + 5 := by have := ha.1; omega
  have hla7 : x + 282 ≠ la + 5 := by have := ha.1; omega
  have hla8 : x + 277 ≠ la + 5 := by have := ha.1; omega
  have hd : la + 6 ≤ x + 23 ∨ x + 292 ≤ la := by have := ha.1; omega
  have hd2 : la + 6 ≤ x + 23 ∨ x + 23 + 15 ≤ la := by omega
  have hd3 : x + 17 ≤ la := by have := ha.1; omega
  obtain ⟨A, z, a1, a2, a3, a4, a5⟩ := hp.fl
  refine al_w1 (sp := sp_book (I (x + 278)) H G v w u) (A := A) (z := z) (c := x + 36) (j := 8 * v.toNatClampNeg + u.toNatClampNeg) (wk := 195 + 8 * v.toNatClampNeg + u.toNatClampNeg) (v := w) h s3 a1 a3 a4 a2 a5 ?_ (c_Vh_book htr c1 c5 s1 gH gH8 gG gG8 c8 s3 a2 a5 a1 a4 g6.ok) (fun t' K P2 J' hM hm h6 => c_Mo_book (mo := x + 277) hM hm gH gH8 gG gG8 h6 a4) (fun k0 => ?_)
  · unfold sp_book
    repeat' split
    all_goals first | exact Nat.zero_le _ | exact Nat.le_refl _ | exact Nat.le_succ _ | (simp; done)
  · have q : vs_isN v H = true ∧ vs_isN w G = true ∧ vs_isN u 8 = true := by
      unfold sp_book vs_isM3 at k0
      split at k0
      · rename_i c; simpa only [Bool.and_eq_true] using c
      · exact absurd k0 (by decide)
    have q1 := vs_isN_cl q.1 (by omega)
    have q2 := vs_isN_cl q.2.1 (by omega)
    have q3 := vs_isN_cl q.2.2 (by omega)
    exact ⟨⟨by omega, by omega⟩, by omega, fun I' m hm => st_upl hm (by omega) q3.1, s5.bk gH gH8 gG gG8 q1.1 q3.1 (Or.inr ⟨_, q2.1, q2.2⟩)⟩
theorem op_value (htr : l.stackTraces = false) {v w u : Int32} {b : Bool} : al_op l E x 2 false M_Vh_value M_Mo_value [.int v, .int w, .int (bI b), .int u] [.int v, .int w, .int (bI b), .int u] (fun c => if c = 1 then "java/lang/IndexOutOfBoundsException" else "java/lang/IllegalArgumentException") 7 4 24 2 := by
  intro t S I P J h
  obtain ⟨h1, hsh, ⟨la, D, ha, ⟨s1, ⟨N, zl, s2⟩, s3, s4, s5, s6⟩, hp⟩, -, ⟨fx, Lx, hf, hg⟩, h6⟩ := id h
  obtain ⟨c1, c2, c3, c4, c5, c6, c7, c8, c9, c10, c11, c12, c13, c14⟩ := id hsh
  obtain ⟨H, G, T, g1, g2, g3, g4, g5, g6, g7, g8, g9, g10, g11⟩ := id s5
  obtain ⟨gH, gG, gH8, gG8, g12⟩ := id g3
  replace gH8 : H ≤ 8 := gH8
  replace gG8 : G ≤ 8 := gG8
  replace gH : I (x + 278) 3 = nI H := gH
  replace gG : I (x + 278) 4 = nI G := gG
  have hla5 : x + 250 ≠ la + 5 := by have := ha.1; omega
  have hla6 : x + 278 ≠ la + 5 := by have := ha.1; omega
  have hla7 : x + 282 ≠ la + 5 := by have := ha.1; omega
  have hla8 : x + 277 ≠ la + 5 := by have := ha.1; omega
  have hd : la + 6 ≤ x + 23 ∨ x + 292 ≤ la := by have := ha.1; omega
  have hd2 : la + 6 ≤ x + 23 ∨ x + 23 + 15 ≤ la := by omega
  have hd3 : x + 17 ≤ la := by have := ha.1; omega
  obtain ⟨A, z, a1, a2, a3, a4, a5⟩ := hp.fl
  refine al_w1 (sp := sp_value (I (x + 278)) H G v w b u) (A := A) (z := z) (c := if b = true then x + 23 + 1 + 6 else x + 23 + 1 + 7) (j := 8 * v.toNatClampNeg + w.toNatClampNeg) (wk := if b = true then 67 + 8 * v.toNatClampNeg + w.toNatClampNeg else 131 + 8 * w.toNatClampNeg + v.toNatClampNeg) (v := u) h s3 a1 a3 a4 a2 a5 ?_ (c_Vh_value htr c1 c5 s1 gH gH8 gG gG8 c8 s3 a2 a5 a1 a4) (fun t' K P2 J' hM hm h6 => c_Mo_value (mo := x + 277) hM hm gH gH8 gG gG8 h6 a4) (fun k0 => ?_)
  · unfold sp_value
    repeat' split
    all_goals first | exact Nat.zero_le _ | exact Nat.le_refl _ | exact Nat.le_succ _ | (simp; done)
  · have q : (vs_isN v H = true ∧ vs_isN w G = true) ∧ vs_isN u 10 = true := by
      unfold sp_value at k0
      split at k0
      · rename_i c
        split at k0
        · rename_i d; exact ⟨by simpa only [Bool.and_eq_true] using c, d⟩
        · exact absurd k0 (by show ¬ ((2 : Nat) = 0); omega)
      · exact absurd k0 (by show ¬ ((1 : Nat) = 0); omega)
    have q1 := vs_isN_cl q.1.1 (by omega)
    have q2 := vs_isN_cl q.1.2 (by omega)
    have q3 := vs_isN_cl q.2 (by omega)
    have q4 : rw_ok (updI (I (x + 278)) (if b = true then 67 + 8 * v.toNatClampNeg + w.toNatClampNeg else 131 + 8 * w.toNatClampNeg + v.toNatClampNeg) u) := by
      rw [q3.2]
      exact s5.rk (by cases b <;> simp <;> omega) (by omega)
    refine ⟨⟨by cases b <;> simp <;> omega, by cases b <;> simp <;> omega⟩, by cases b <;> simp <;> omega, fun I' m hm => ?_, q4⟩
    cases b with
    | true => exact st_upc (s := x + 23) (r := 6) hm (by unfold pe_cor; simp; omega)
    | false => exact st_upc (s := x + 23) (r := 7) hm (by unfold pe_cor; simp; omega)
/-- one that writes several places -/
theorem al_w2 {KR : mx_I → mx_I} (h : al_ok t S I P x) (hla : P (x + 23) 2 = some la) (hA : I (x + 68) 1 = nI A) (hA6 : I (x + 277) 6 = nI A) (hA12 : A ≤ 12) (hz : I (x + 68) 2 = nI z) (hz12 : z < 12) (hn : sp.1 ≤ n)
    (hv : mx_C l E Mv dv kv nv (.ref x :: as) (t, S, I, P, J) (mx_pk f sp (t, S, I, P, J) (t, S, K1, mx_upP P (x + 68 + 2 + 15 * z) 2 (some la), J)))
    (hm : ∀ t' K P2 J', mo_ok S P2 (x + 277) → K (x + 277 + 1) = I (x + 278) → K (x + 277) 6 = nI A → mx_C l E Mm dm 0 0 (.ref (x + 277) :: bs) (t', S, K, P2, J') (mx_ri sp.2 (t', S, if sp.1 = 0 then KR K else mx_up K (x + 277) 0 (nI sp.1), P2, J')))
    (e1 : ∀ c, (c < x + 23 ∨ x + 37 ≤ c) → K1 c = vs_keep I (x + 68) (x + 23) z A c)
    (hok : sp.1 = 0 → (∀ c, c ≠ x + 278 → KR K1 c = vs_rem (mx_up K1 (x + 277) 0 (nI 0)) (x + 277) A c) ∧ (∀ j, (j = 1 ∨ j = 2 ∨ 619 ≤ j) → KR K1 (x + 278) j = I (x + 278) j) ∧ st_rel K1 (x + 23) (KR K1 (x + 278)) ∧ (∃ N z, lo_rel K1 (x + 23 + 9) (KR K1 (x + 278)) N z) ∧ rw_ok (KR K1 (x + 278))) (hz9 : bz = true → ∃ r : Bool, sp.2 = bI r := by intro h; cases h) : al_op1 l E x n bz Mv Mm as bs f dv kv nv dm t S I P J := by
  have hsh := h.2.1
  have k9 : ∀ c, (x + 277 ≤ c ∧ c ≤ x + 278) → K1 c = I c := fun c hc => by rw [e1 c (by omega), vs_keep_o hz12 (by omega)]
  refine ⟨sp.1, dv, sp.2, _, ⟨hn, hz9⟩, Nat.le_refl _, mx_C_mono hv (fun r X q => mx_pk_pg q), fun X1 hX => ?_⟩
  rcases hX with ⟨k0, hX⟩ | ⟨k0, t', ht', hX⟩
  · obtain ⟨b1, b2, b3, b4, b5⟩ := hok k0
    refine ⟨t, S, _, _, hX, Nat.le_refl _, h.out, fun J' => ⟨sp.2, mx_C_mono (hm t _ _ J' (hsh.slot (la := la) hz12).2.2.2.2.2.2.2.2.2.2.2.2.1 (k9 _ (by omega)) (by rw [k9 _ (by omega)]; exact hA6)) (mx_ri_sR ⟨?_, ?_⟩), fun _ => rfl⟩⟩
    · rw [if_pos k0]
      exact al_keep2 (K1 := K1) h hla hA hA12 hz hz12 (fun c a b => e1 c (by omega)) (fun c a b d => b1 c b) (fun k hk => by rw [b1 (x + 277) (by omega)]) b2 b3 b4 b5
    · rw [if_pos k0, b1 (x + 277) (by omega), k0]
      unfold vs_rem
      split
      · rw [mu_n (by omega), vs_cq_ne (by omega), mu_n (by omega), vs_cq_ne (by omega)]; exact mu_e
      · rw [mu_n (by omega), vs_cq_ne (by omega)]; exact mu_e
  · refine ⟨t', S, I, P, hX, ht', h.out, fun J' => ⟨sp.2, mx_C_mono (hm t' I P J' hsh.2.2.2.2.2.2.2.2.2.2.2.2.1 rfl hA6) (mx_ri_sR ⟨?_, ?_⟩), fun _ => rfl⟩⟩
    · rw [if_neg k0]; exact h.mo0 ht'
    · rw [if_neg k0]; exact mu_e
theorem lo_rel.cmo (h : lo_rel I s m N zl) (e : ∀ k, (k = 9 ∨ (259 ≤ k ∧ k < 619)) → m2 k = m k) : lo_rel I s m2 N zl := by
  obtain ⟨h1, h2, h3, h4, h5, h6⟩ := h
  exact ⟨h1, (e 9 (by omega)).trans h2, h3, h4, h5, fun j k hj hk => (h6 j k hj hk).trans (e _ (by omega)).symm⟩
theorem mx_up_ne2 {I : mx_I} {a k k2 q : Nat} {v v2 : Int32} (h : q ≠ a) : mx_up (mx_up I a k v) a k2 v2 q = I q := by rw [mx_up_ne h, mx_up_ne h]
theorem op_change (htr : l.stackTraces = false) {v w u : Int32} : al_op l E x 2 false M_Vh_change M_Mo_change [.int v, .int w, .int u] [.int v, .int w, .int u] (fun c => if c = 1 then "java/lang/IndexOutOfBoundsException" else "java/lang/IllegalArgumentException") 7 4 24 2 := by
  intro t S I P J h
  obtain ⟨h1, hsh, ⟨la, D, ha, ⟨s1, ⟨N, zl, s2⟩, s3, s4, s5, s6⟩, hp⟩, -, ⟨fx, Lx, hf, hg⟩, h6⟩ := id h
  obtain ⟨c1, c2, c3, c4, c5, c6, c7, c8, c9, c10, c11, c12, c13, c14⟩ := id hsh
  obtain ⟨H, G, T, g1, g2, g3, g4, g5, g6, g7, g8, g9, g10, g11⟩ := id s5
  obtain ⟨gH, gG, gH8, gG8, g12⟩ := id g3
  replace gH8 : H ≤ 8 := gH8
  replace gG8 : G ≤ 8 := gG8
  replace gH : I (x + 278) 3 = nI H := gH
  replace gG : I (x + 278) 4 = nI G := gG
  have hla5 : x + 250 ≠ la + 5 := by have := ha.1; omega
  have hla6 : x + 278 ≠ la + 5 := by have := ha.1; omega
  have hla7 : x + 282 ≠ la + 5 := by have := ha.1; omega
  have hla8 : x + 277 ≠ la + 5 := by have := ha.1; omega
  have hd : la + 6 ≤ x + 23 ∨ x + 292 ≤ la := by have := ha.1; omega
  have hd2 : la + 6 ≤ x + 23 ∨ x + 23 + 15 ≤ la := by omega
  have hd3 : x + 17 ≤ la := by have := ha.1; omega
  obtain ⟨A, z, a1, a2, a3, a4, a5⟩ := hp.fl
  have hk : st_rel (vs_keep I (x + 68) (x + 23) z A) (x + 23) (I (x + 278)) := s1.c14 (fun c a b => vs_keep_o a5 (by omega))
  have hl : lo_rel (vs_keep I (x + 68) (x + 23) z A) (x + 23 + 9) (I (x + 278)) N zl := s2.cgr (vs_keep_o a5 (by omega)) (vs_keep_o a5 (by omega))
  refine al_w2 (KR := fun K => mx_up (mx_up (vs_rem (mx_up K (x + 277) 0 (nI 0)) (x + 277) A) (x + 277 + 1) (195 + 8 * v.toNatClampNeg + u.toNatClampNeg) (I (x + 278) (195 + 8 * w.toNatClampNeg + u.toNatClampNeg))) (x + 277 + 1) (195 + 8 * w.toNatClampNeg + u.toNatClampNeg) (I (x + 278) (195 + 8 * v.toNatClampNeg + u.toNatClampNeg))) (sp := sp_change (I (x + 278)) H v w u) (A := A) (z := z) h s3 a1 a3 a4 a2 a5 ?_ (c_Vh_change htr c1 c5 s1 gH gH8 c8 s3 a2 a5 a1 a4) (fun t' K P2 J' hM hm h6 => c_Mo_change (mo := x + 277) hM hm gH gH8 h6 a4) (fun c hc => ?_) (fun k0 => ?_)
  · unfold sp_change
    repeat' split
    all_goals first | exact Nat.zero_le _ | exact Nat.le_refl _ | exact Nat.le_succ _ | (simp; done)
  · rw [mx_up_ne (by omega), mx_up_ne (by omega)]
  · have q : vs_isN v H = true ∧ vs_isN w H = true ∧ vs_isN u 8 = true := by
      unfold sp_change at k0
      split at k0
      · rename_i c; simpa only [Bool.and_eq_true] using c
      · exact absurd k0 (by show ¬ ((1 : Nat) = 0); omega)
    have q1 := vs_isN_cl q.1 (by omega)
    have q2 := vs_isN_cl q.2.1 (by omega)
    have q3 := vs_isN_cl q.2.2 (by omega)
    have er : (mx_up (mx_up (vs_keep I (x + 68) (x + 23) z A) (x + 23 + 13) (8 * v.toNatClampNeg + u.toNatClampNeg) (I (x + 278) (195 + 8 * w.toNatClampNeg + u.toNatClampNeg))) (x + 23 + 13) (8 * w.toNatClampNeg + u.toNatClampNeg) (I (x + 278) (195 + 8 * v.toNatClampNeg + u.toNatClampNeg))) (x + 278) = I (x + 278) := by
      rw [mx_up_ne (by omega), mx_up_ne (by omega), vs_keep_o a5 (by omega)]
    have row : ∀ K : mx_I, K (x + 278) = I (x + 278) → (mx_up (mx_up (vs_rem (mx_up K (x + 277) 0 (nI 0)) (x + 277) A) (x + 277 + 1) (195 + 8 * v.toNatClampNeg + u.toNatClampNeg) (I (x + 278) (195 + 8 * w.toNatClampNeg + u.toNatClampNeg))) (x + 277 + 1) (195 + 8 * w.toNatClampNeg + u.toNatClampNeg) (I (x + 278) (195 + 8 * v.toNatClampNeg + u.toNatClampNeg))) (x + 278) = updI (updI (I (x + 278)) (195 + 8 * v.toNatClampNeg + u.toNatClampNeg) (I (x + 278) (195 + 8 * w.toNatClampNeg + u.toNatClampNeg))) (195 + 8 * w.toNatClampNeg + u.toNatClampNeg) (I (x + 278) (195 + 8 * v.toNatClampNeg + u.toNatClampNeg)) := fun K hK => by
      rw [show x + 278 = x + 277 + 1 by omega, mu_row, mu_row, rem_row, mx_up_ne (by omega)]
      rw [show x + 278 = x + 277 + 1 by omega] at hK
      rw [hK]
    have hq1 := g8 v.toNatClampNeg u.toNatClampNeg (by omega) q3.1
    have hq2 := g8 w.toNatClampNeg u.toNatClampNeg (by omega) q3.1
    refine ⟨fun c hc => by rw [mx_up_ne hc, mx_up_ne hc], fun j hj => ?_, ?_, ⟨N, zl, ?_⟩, ?_⟩
    · rw [row _ er, updI_n (by omega), updI_n (by omega)]
    · rw [row _ er]
      exact st_upl (st_upl hk (by omega) q3.1) (by omega) q3.1
    · rw [row _ er]
      exact (hl.cgr (mx_up_ne2 (by omega)) (mx_up_ne2 (by omega))).cmo (fun k hk => by rw [updI_n (by omega), updI_n (by omega)])
    · rw [row _ er]
      exact (s5.bk gH gH8 gG gG8 q1.1 q3.1 hq2).bk ((updI_n (by omega)).trans gH) gH8 ((updI_n (by omega)).trans gG) gG8 q2.1 q3.1 hq1
theorem op_gate (htr : l.stackTraces = false) {v w : Int32} : al_op l E x 1 false M_Vh_gate M_Mo_gate [.int v, .int w] [.int v, .int w] (fun _ => "java/lang/IllegalArgumentException") 7 3 18 2 := by
  intro t S I P J h
  obtain ⟨h1, hsh, ⟨la, D, ha, ⟨s1, ⟨N, zl, s2⟩, s3, s4, s5, s6⟩, hp⟩, -, ⟨fx, Lx, hf, hg⟩, h6⟩ := id h
  obtain ⟨c1, c2, c3, c4, c5, c6, c7, c8, c9, c10, c11, c12, c13, c14⟩ := id hsh
  obtain ⟨H, G, T, g1, g2, g3, g4, g5, g6, g7, g8, g9, g10, g11⟩ := id s5
  obtain ⟨gH, gG, gH8, gG8, g12⟩ := id g3
  replace gH8 : H ≤ 8 := gH8
  replace gG8 : G ≤ 8 := gG8
  replace gH : I (x + 278) 3 = nI H := gH
  replace gG : I (x + 278) 4 = nI G := gG
  have hla5 : x + 250 ≠ la + 5 := by have := ha.1; omega
  have hla6 : x + 278 ≠ la + 5 := by have := ha.1; omega
  have hla7 : x + 282 ≠ la + 5 := by have := ha.1; omega
  have hla8 : x + 277 ≠ la + 5 := by have := ha.1; omega
  have hd : la + 6 ≤ x + 23 ∨ x + 292 ≤ la := by have := ha.1; omega
  have hd2 : la + 6 ≤ x + 23 ∨ x + 23 + 15 ≤ la := by omega
  have hd3 : x + 17 ≤ la := by have := ha.1; omega
  obtain ⟨A, z, a1, a2, a3, a4, a5⟩ := hp.fl
  have hk : st_rel (vs_keep I (x + 68) (x + 23) z A) (x + 23) (I (x + 278)) := s1.c14 (fun c a b => vs_keep_o a5 (by omega))
  have hl : lo_rel (vs_keep I (x + 68) (x + 23) z A) (x + 23 + 9) (I (x + 278)) N zl := s2.cgr (vs_keep_o a5 (by omega)) (vs_keep_o a5 (by omega))
  have hs01 : (sp_gate (I (x + 278)) v w).1 = 0 ∨ (sp_gate (I (x + 278)) v w).1 = 1 := by
    unfold sp_gate
    split
    · exact Or.inl rfl
    · exact Or.inr rfl
  refine al_w2 (KR := fun K => mx_up (mx_up (vs_rem (mx_up K (x + 277) 0 (nI 0)) (x + 277) A) (x + 277 + 1) 7 v) (x + 277 + 1) 8 w) (sp := sp_gate (I (x + 278)) v w) (A := A) (z := z) h s3 a1 a3 a4 a2 a5 ?_ (c_Vh_gate htr c1 c5 s1 c8 s3 a2 a5 a1 a4) (fun t' K P2 J' hM hm h6 => ?_) (fun c hc => ?_) (fun k0 => ?_)
  · unfold sp_gate
    repeat' split
    all_goals first | exact Nat.zero_le _ | exact Nat.le_refl _ | exact Nat.le_succ _ | (simp; done)
  · have q := c_Mo_gate (l := l) (E := E) (t := t') (J := J') (mo := x + 277) hM hm h6 a4 (v := v) (w := w)
    rcases hs01 with e | e
    · rw [if_pos e] at q ⊢; exact q
    · rw [if_neg (by omega)] at q ⊢; rw [e]; exact q
  · rw [mx_up_ne (by omega), mx_up_ne (by omega)]
  · have er : (mx_up (mx_up (vs_keep I (x + 68) (x + 23) z A) (x + 23) 6 v) (x + 23) 7 w) (x + 278) = I (x + 278) := by
      rw [mx_up_ne (by omega), mx_up_ne (by omega), vs_keep_o a5 (by omega)]
    have row : ∀ K : mx_I, K (x + 278) = I (x + 278) → (mx_up (mx_up (vs_rem (mx_up K (x + 277) 0 (nI 0)) (x + 277) A) (x + 277 + 1) 7 v) (x + 277 + 1) 8 w) (x + 278) = updI (updI (I (x + 278)) 7 v) 8 w := fun K hK => by
      rw [show x + 278 = x + 277 + 1 by omega, mu_row, mu_row, rem_row, mx_up_ne (by omega)]
      rw [show x + 278 = x + 277 + 1 by omega] at hK
      rw [hK]
    refine ⟨fun c hc => by rw [mx_up_ne hc, mx_up_ne hc], fun j hj => ?_, ?_, ⟨N, zl, ?_⟩, ?_⟩
    · rw [row _ er, updI_n (by omega), updI_n (by omega)]
    · rw [row _ er]
      obtain ⟨-, b1, b2, b3, b4, b5, b6, -⟩ := id hk
      refine hk.own (fun c a b => by rw [mx_up_ne (by omega), mx_up_ne (by omega)]) (fun k hk => by rw [updI_n (by omega), updI_n (by omega)]) ?_ ?_ ?_ ?_ ?_ ?_
      · rw [mu_n (by omega), mu_n (by omega), updI_n (by omega), updI_n (by omega)]; exact b1
      · rw [mu_n (by omega), mu_n (by omega), updI_n (by omega), updI_n (by omega)]; exact b2
      · rw [mu_n (by omega), mu_n (by omega), updI_n (by omega), updI_n (by omega)]; exact b3
      · rw [mu_n (by omega), mu_e, updI_n (by omega), updI_e]
      · rw [mu_e, updI_e]
      · rw [mu_n (by omega), mu_n (by omega), updI_n (by omega), updI_n (by omega)]; exact b6
    · rw [row _ er]
      exact (hl.cgr (mx_up_ne2 (by omega)) (mx_up_ne2 (by omega))).cmo (fun k hk => by rw [updI_n (by omega), updI_n (by omega)])
    · rw [row _ er]
      exact (s5.up (Or.inr (Or.inl rfl))).up (Or.inr (Or.inr (Or.inl rfl)))
end CK98
