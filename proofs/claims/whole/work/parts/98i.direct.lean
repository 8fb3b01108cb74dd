/-! FEED, END, FAULT, SEED, UNDO, BACK, IMAGE -/
section CL98
variable {l : Launch} {E : mx_Env} {x L t : Nat} {S : mx_S} {I K : mx_I} {P : mx_P} {J : mx_G} {B C : Nat → Int32} {v v0 v1 v2 v3 v4 : Int32}
theorem by_and (x : Int32) : ∃ b, b < 256 ∧ x &&& nI 255 = nI b := by
  refine ⟨(x.toBitVec &&& 255#32).toNat, ?_, ?_⟩
  · rw [BitVec.toNat_and]; exact Nat.lt_of_le_of_lt Nat.and_le_right (by decide)
  · apply Int32.toBitVec_inj.mp
    show (x &&& Int32.ofNat 255).toBitVec = (Int32.ofNat _).toBitVec
    rw [Int32.toBitVec_and, Int32.toBitVec_ofNat']
    simp
theorem wr_by (h : ∀ k, k < 400 → ∃ b, b < 256 ∧ B k = nI b) : ∀ k, k < 400 → ∃ b, b < 256 ∧ vs_wr B L v k = nI b := fun k hk => by
  unfold vs_wr vs_by4
  split
  · exact by_and _
  · split
    · exact by_and _
    · split
      · exact by_and _
      · split
        · exact by_and _
        · exact h k hk
theorem wr_eq {k : Nat} (e : B k = C k) : vs_wr B L v k = vs_wr C L v k := by
  unfold vs_wr; rw [e]
theorem f5_by (h : ∀ k, k < 400 → ∃ b, b < 256 ∧ B k = nI b) : ∀ k, k < 400 → ∃ b, b < 256 ∧ vs_f5 B L v0 v1 v2 v3 v4 k = nI b := wr_by (wr_by (wr_by (wr_by (wr_by h))))
theorem f5_eq {k : Nat} (e : B k = C k) : vs_f5 B L v0 v1 v2 v3 v4 k = vs_f5 C L v0 v1 v2 v3 v4 k := wr_eq (wr_eq (wr_eq (wr_eq (wr_eq e))))
/-- the two tapes -/
theorem al_ok.tp (h : al_ok t S I P x) (e : ∀ c, c ≠ x + 250 → c ≠ x + 251 → c ≠ x + 277 → c ≠ x + 282 → K c = I c) (e2 : K (x + 250) 2 = I (x + 250) 2) (e3 : ∀ k, (k = 3 ∨ k = 6 ∨ k = 12) → K (x + 277) k = I (x + 277) k) (hx : ∃ f L, te_tx K (x + 250) f L ∧ mp_tx K (x + 277) f L) : al_ok t S K P x := by
  have h0 := h
  obtain ⟨h1, -, ⟨la, D, ha, hs, -⟩, -, -, h6⟩ := h0
  exact h.sc hs.2.2.1 (Nat.le_refl _) (Or.inl rfl) ⟨fun c a _ => e c (by unfold al_d at a; omega) (by unfold al_d at a; omega) (by unfold al_d at a; omega) (by unfold al_d at a; omega), by rw [e x (by omega) (by omega) (by omega) (by omega)], by rw [e (x + 68) (by omega) (by omega) (by omega) (by omega)], by rw [e (x + 68) (by omega) (by omega) (by omega) (by omega)], e3 3 (by omega), e3 6 (by omega)⟩ hx (by rw [e2, e3 12 (by omega)]; exact h6)
theorem op_feed (htr : l.stackTraces = false) : al_op l E x 0 false M_Vh_feed M_Mo_feed [.int v0, .int v1, .int v2, .int v3, .int v4] [.int v0, .int v1, .int v2, .int v3, .int v4] (fun _ => "") 3 0 0 0 := by
  intro t S I P J h
  obtain ⟨h1, hsh, -, -, ⟨fx, Lx, hf, hg⟩, h6⟩ := id h
  obtain ⟨c1, c2, c3, c4, c5, c6, c7, c8, c9, c10, c11, c12, c13, c14⟩ := id hsh
  refine ⟨0, 3, _, _, ⟨Nat.le_refl _, fun h => by cases h⟩, Nat.le_refl _, mx_C_mono (c_Vh_feed (te := x + 250) c1 rfl c9 hf.2.1 hf.2.2) (fun r X q => mx_ri_pg q), fun X1 hX => ?_⟩
  refine ⟨t, S, _, P, hX, Nat.le_refl _, h.out, fun J' => ⟨_, mx_C_mono (c_Mo_feed (mo := x + 277) c13 (L := Lx) ?_ hf.2.2) (mx_ri_sR ⟨?_, ?_⟩), fun _ => rfl⟩⟩
  · split
    · rw [vs_app5_o (by omega) (by omega)]; exact hg.1
    · exact hg.1
  · by_cases c : Lx + 20 ≤ 400
    · rw [if_pos c, if_pos c]
      have hb := f5_by (L := Lx) (v0 := v0) (v1 := v1) (v2 := v2) (v3 := v3) (v4 := v4) (B := I (x + 250 + 1)) (fun k hk => ⟨fx k, (hf.1 k hk).1, (hf.1 k hk).2⟩)
      have hb2 : ∀ k, k < 400 → (vs_f5 (I (x + 250 + 1)) Lx v0 v1 v2 v3 v4 k).toNatClampNeg < 256 ∧ vs_f5 (I (x + 250 + 1)) Lx v0 v1 v2 v3 v4 k = nI (vs_f5 (I (x + 250 + 1)) Lx v0 v1 v2 v3 v4 k).toNatClampNeg := fun k hk => by
        obtain ⟨b, hb1, e⟩ := hb k hk
        rw [e, nI_clamp (by omega)]; exact ⟨hb1, rfl⟩
      refine h.tp (fun c a1 a2 a3 a4 => by rw [vs_mo5_o a3 (by omega), vs_app5_o a1 (by omega)]) ?_ (fun k hk => ?_) ⟨fun k => if k < 400 then (vs_f5 (I (x + 250 + 1)) Lx v0 v1 v2 v3 v4 k).toNatClampNeg else 0, Lx + 20, ⟨fun k hk => ?_, ?_, c⟩, ⟨vs_mo5_l, c, fun k hk => ?_, fun k hk => ?_⟩⟩
      · rw [vs_mo5_o (by omega) (by omega), vs_app5_k (by omega)]
      · rw [vs_mo5_k (by omega) (by omega), vs_app5_o (by omega) (by omega)]
      · dsimp only; rw [if_pos hk, vs_mo5_o (by omega) (by omega), vs_app5_b]; exact hb2 k hk
      · rw [vs_mo5_o (by omega) (by omega), vs_app5_l]
      · dsimp only; rw [if_pos hk]; exact (hb2 k hk).1
      · dsimp only; rw [if_pos hk, vs_mo5_b, vs_app5_o (by omega) (by omega)]
        rw [f5_eq (C := I (x + 250 + 1)) (by rw [hg.2.2.2 k hk, (hf.1 k hk).2])]
        exact (hb2 k hk).2
    · rw [if_neg c, if_neg c]; exact h.mo0 (Nat.le_refl _)
  · by_cases c : Lx + 20 ≤ 400
    · rw [if_pos c]; exact vs_mo5_t
    · rw [if_neg c]; exact mu_e
theorem op_end (htr : l.stackTraces = false) : al_op l E x 0 false M_Vh_end M_Mo_end [.int v] [.int v] (fun _ => "") 2 0 0 1 := by
  intro t S I P J h
  obtain ⟨h1, hsh, -, -, ⟨fx, Lx, hf, hg⟩, h6⟩ := id h
  obtain ⟨c1, c2, c3, c4, c5, c6, c7, c8, c9, c10, c11, c12, c13, c14⟩ := id hsh
  refine ⟨0, 2, _, _, ⟨Nat.le_refl _, fun h => by cases h⟩, Nat.le_refl _, mx_C_mono (c_Vh_end (te := x + 250) c1 rfl c9 hf.2.1 hf.2.2) (fun r X q => mx_ri_pg q), fun X1 hX => ?_⟩
  refine ⟨t, S, _, P, hX, Nat.le_refl _, h.out, fun J' => ⟨_, mx_C_mono (c_Mo_end (mo := x + 277) c13 (L := Lx) ?_ hf.2.2) (mx_ri_sR ⟨?_, ?_⟩), fun _ => rfl⟩⟩
  · split
    · rw [mx_up_ne (by omega)]; exact hg.1
    · exact hg.1
  · cases c : vs_isN v (Lx + 1) with
    | true =>
      have hL := hf.2.2
      obtain ⟨d1, d2⟩ := vs_isN_cl c (by omega)
      rw [if_pos rfl, if_pos rfl]
      refine h.tp (fun c a1 a2 a3 a4 => by rw [mx_up_ne a3, mx_up_ne a3, mx_up_ne a1]) ?_ (fun k hk => ?_) ⟨fx, v.toNatClampNeg, ⟨fun k hk => ?_, ?_, by omega⟩, ⟨?_, by omega, hg.2.2.1, fun k hk => ?_⟩⟩
      · rw [mx_up_ne (by omega), mx_up_ne (by omega), mu_n (by omega)]
      · rw [mu_n (by omega), mu_n (by omega), mx_up_ne (by omega)]
      · rw [mx_up_ne (by omega), mx_up_ne (by omega), mx_up_ne (by omega)]; exact hf.1 k hk
      · rw [mx_up_ne (by omega), mx_up_ne (by omega), mu_e]; exact d2
      · rw [mu_e]; exact d2
      · rw [mx_up_ne (by omega), mx_up_ne (by omega), mx_up_ne (by omega)]; exact hg.2.2.2 k hk
    | false =>
      rw [if_neg (by simp), if_neg (by simp)]; exact h.mo0 (Nat.le_refl _)
  · cases c : vs_isN v (Lx + 1) with
    | true => rw [if_pos rfl, mu_n (by omega)]; exact mu_e
    | false => rw [if_neg (by simp)]; exact mu_e
theorem op_fault (htr : l.stackTraces = false) : al_op l E x 0 false M_Vh_fault M_Mo_fault [] [] (fun _ => "") 0 0 0 0 := by
  intro t S I P J h
  obtain ⟨h1, hsh, -, -, -, h6⟩ := id h
  obtain ⟨c1, c2, c3, c4, c5, c6, c7, c8, c9, c10, c11, c12, c13, c14⟩ := id hsh
  refine ⟨0, 0, _, _, ⟨Nat.le_refl _, fun h => by cases h⟩, Nat.le_refl _, mx_C_mono (c_Vh_fault (te := x + 250) c1 rfl c9) (fun r X q => mx_ri_pg q), fun X1 hX => ?_⟩
  exact ⟨t, S, I, P, hX, Nat.le_refl _, h.out, fun J' => ⟨_, mx_C_mono (c_Mo_fault (mo := x + 277) c13) (mx_ri_sR ⟨h.mo0 (Nat.le_refl _), mu_e⟩), fun _ => h6.symm⟩⟩
theorem al_seed (h : al_ok t S I P x) : al_ok t S (mx_up (mx_up (mx_up I (x + 23) 8 v) (x + 277) 0 (nI 0)) (x + 277 + 1) 10 v) P x := by
  obtain ⟨h1, h2, ⟨la, D, ha, hs, hp⟩, ⟨b, hb1, hb2, hb3⟩, ⟨f, L, hf, hg⟩, h6⟩ := h
  obtain ⟨K, hK⟩ : ∃ K, K = mx_up (mx_up (mx_up I (x + 23) 8 v) (x + 277) 0 (nI 0)) (x + 277 + 1) 10 v := ⟨_, rfl⟩
  rw [← hK]
  have e : ∀ c, c ≠ x + 23 → c ≠ x + 277 → c ≠ x + 278 → K c = I c := fun c a b d => by rw [hK, mx_up_ne d, mx_up_ne b, mx_up_ne a]
  have em : ∀ k, k ≠ 0 → K (x + 277) k = I (x + 277) k := fun k hk => by rw [hK, mx_up_ne (by omega), mu_n hk, mx_up_ne (by omega)]
  have es : ∀ k, k ≠ 8 → K (x + 23) k = I (x + 23) k := fun k hk => by rw [hK, mx_up_ne (by omega), mx_up_ne (by omega), mu_n hk]
  have e8 : K (x + 23) 8 = v := by rw [hK, mx_up_ne (by omega), mx_up_ne (by omega)]; exact mu_e
  have er : K (x + 278) = updI (I (x + 278)) 10 v := by rw [hK, show x + 278 = x + 277 + 1 by omega, mu_row, mx_up_ne (by omega), mx_up_ne (by omega)]
  have hll : ∀ la2 D2, al_at x t la2 → la_is S P I la2 D2 → la_is S P K la2 D2 := fun la2 D2 ha2 hl2 => hl2.sm (fun c a b => ⟨rfl, e c (by have := ha2.1; omega) (by have := ha2.1; omega) (by have := ha2.1; omega), rfl⟩)
  have hl := hll _ _ ha hs.2.2.2.1
  have ek : ∀ k, k ≠ 10 → updI (I (x + 278)) 10 v k = I (x + 278) k := fun k hk => updI_n hk
  obtain ⟨s1, ⟨N, zl, s2⟩, s3, s4, s5, s6⟩ := id hs
  obtain ⟨H, G, T, g1, g2, g3, g4, g5, g6, g7, g8, g9, g10, g11⟩ := id s5
  obtain ⟨gH, gG, gH8, gG8, g12⟩ := id g3
  replace gH8 : H ≤ 8 := gH8
  replace gG8 : G ≤ 8 := gG8
  replace gH : I (x + 278) 3 = nI H := gH
  replace gG : I (x + 278) 4 = nI G := gG
  obtain ⟨-, b1, b2, b3, b4, b5, b6, -⟩ := id s1
  refine ⟨h1, h2, ⟨la, D, ha, ⟨?_, ⟨N, zl, ?_⟩, s3, hl, ?_, ?_⟩, ?_⟩, ⟨b, ?_, (em 3 (by omega)).trans hb2, fun hb => ?_⟩, ⟨f, L, ⟨fun k hk => ?_, ?_, hf.2.2⟩, ⟨(em 8 (by omega)).trans hg.1, hg.2.1, hg.2.2.1, fun k hk => ?_⟩⟩, ?_⟩
  · rw [er]
    refine s1.own (fun c a b => e c (by omega) (by omega) (by omega)) (fun k hk => ek k (by omega)) ?_ ?_ ?_ ?_ ?_ ?_
    · rw [es _ (by omega), ek _ (by omega)]; exact b1
    · rw [es _ (by omega), ek _ (by omega)]; exact b2
    · rw [es _ (by omega), ek _ (by omega)]; exact b3
    · rw [es _ (by omega), ek _ (by omega)]; exact b4
    · rw [es _ (by omega), ek _ (by omega)]; exact b5
    · rw [e8, updI_e]
  · rw [er]
    exact (s2.cgr (e _ (by omega) (by omega) (by omega)) (e _ (by omega) (by omega) (by omega))).cmo (fun k hk => ek k (by omega))
  · rw [er]
    exact s5.wq gH gH8 gG gG8 ((wq.rf (H := H) g4 g8 g6).c2 (fun k hk => ek k (by omega)) (fun a b c => ek _ (by omega)) (fun k a b => Or.inr (ek k (by omega))))
  · rw [er]
    exact s6.cg (ek 1 (by omega)) (ek 2 (by omega)) (fun k hk => ek k (by omega))
  · exact hp.cg (fun c a b => e c (by omega) (by omega) (by omega)) (by rw [e (x + 68) (by omega) (by omega) (by omega)]) (by rw [e (x + 68) (by omega) (by omega) (by omega)]) (em 6 (by omega)) (e (x + 277 + 4) (by omega) (by omega) (by omega)) (fun j hj => by rw [show x + 277 + 1 = x + 278 by omega, er, ek j (by omega)]) (fun _ _ => rfl) hl
  · rw [e x (by omega) (by omega) (by omega)]; exact hb1
  · obtain ⟨la2, D2, ha2, hs2⟩ := hb3 hb
    refine ⟨la2, D2, ha2, ?_⟩
    rw [e (x + 279) (by omega) (by omega) (by omega)]
    exact hs2.cg (fun c a b => e c (by omega) (by omega) (by omega)) rfl (hll _ _ ha2 hs2.2.2.2.1)
  · rw [e (x + 250 + 1) (by omega) (by omega) (by omega)]; exact hf.1 k hk
  · rw [e (x + 250) (by omega) (by omega) (by omega)]; exact hf.2.1
  · rw [e (x + 277 + 5) (by omega) (by omega) (by omega)]; exact hg.2.2.2 k hk
  · rw [e (x + 250) (by omega) (by omega) (by omega), em 12 (by omega)]; exact h6
theorem op_seed (htr : l.stackTraces = false) : al_op l E x 0 false M_Vh_seed M_Mo_seed [.int v] [.int v] (fun _ => "") 0 0 0 0 := by
  intro t S I P J h
  obtain ⟨h1, hsh, ⟨la, D, ha, hs, -⟩, -, -, h6⟩ := id h
  obtain ⟨c1, c2, c3, c4, c5, c6, c7, c8, c9, c10, c11, c12, c13, c14⟩ := id hsh
  refine ⟨0, 0, _, _, ⟨Nat.le_refl _, fun h => by cases h⟩, Nat.le_refl _, mx_C_mono (c_Vh_seed c1 c5 hs.1 (v := v)) (fun r X q => mx_ri_pg q), fun X1 hX => ?_⟩
  exact ⟨t, S, _, P, hX, Nat.le_refl _, h.out, fun J' => ⟨_, mx_C_mono (c_Mo_seed (mo := x + 277) (m := I (x + 278)) c13 (mx_up_ne (by omega))) (mx_ri_sR ⟨al_seed h, by rw [mx_up_ne (by omega)]; exact mu_e⟩), fun _ => rfl⟩⟩
theorem op_undo (htr : l.stackTraces = false) : al_op l E x 0 false M_Vh_undo M_Mo_undo [] [] (fun _ => "") 5 0 0 0 := by
  intro t S I P J h
  obtain ⟨h1, hsh, ⟨la, D, ha, hs, hp⟩, -, -, h6⟩ := id h
  obtain ⟨c1, c2, c3, c4, c5, c6, c7, c8, c9, c10, c11, c12, c13, c14⟩ := id hsh
  obtain ⟨A, z, a1, a2, a3, a4, a5⟩ := hp.fl
  by_cases k0 : A = 0
  · subst k0
    refine ⟨0, 1, _, _, ⟨Nat.le_refl _, fun h => by cases h⟩, by omega, mx_C_mono (c_Vh_undo0 c1 c8 a1) (fun r X q => mx_ri_pg q), fun X1 hX => ?_⟩
    exact ⟨t, S, I, P, hX, Nat.le_refl _, h.out, fun J' => ⟨_, mx_C_mono (c_Mo_undo0 (mo := x + 277) c13 a3) (mx_ri_sR ⟨h.mo0 (Nat.le_refl _), mu_e⟩), fun _ => rfl⟩⟩
  · obtain ⟨la2, q1, q2⟩ := al_undo h a1 (by omega) a4 a2 a5
    have c13' : mo_ok S (mx_upP P (x + 23) 2 (some la2)) (x + 277) := (hsh.law (la := la2) (r := x + 23) (by omega)).2.2.2.2.2.2.2.2.2.2.2.2.1
    have fin : ∀ K : mx_I, K = vs_stT (mx_up (mx_up I (x + 68) 2 (nI ((z + 11) % 12))) (x + 68) 1 (nI (A - 1))) (x + 23) (x + 70 + 15 * ((z + 11) % 12)) → ∀ J', ∃ w, mx_C l E M_Mo_undo 0 0 0 (.ref (x + 277) :: []) (t, S, K, mx_upP P (x + 23) 2 (some la2), J') (mx_sR (some (.int w)) t S (mx_upP P (x + 23) 2 (some la2)) J' (fun K => al_ok t S K (mx_upP P (x + 23) 2 (some la2)) x ∧ K (x + 277) 0 = nI 0)) ∧ (0 = 0 → w = nI 1) := fun K hK J' => by
      refine ⟨_, mx_C_mono (c_Mo_undo1 (mo := x + 277) c13' (A := A) ?_ (by omega) a4) (mx_ri_sR ⟨?_, ?_⟩), fun _ => rfl⟩
      · rw [hK, vs_stT_o (by omega), mx_up_ne (by omega), mx_up_ne (by omega)]; exact a3
      · rw [hK]; exact q2
      · rw [vs_cq_ne (by omega), mu_n (by omega)]; exact mu_e
    by_cases k1 : z = 0
    · subst k1
      refine ⟨0, 5, _, _, ⟨Nat.le_refl _, fun h => by cases h⟩, Nat.le_refl _, mx_C_mono (c_Vh_undo2 c1 c8 c5 a2 a5 a1 (by omega) a4 rfl (la := la2) q1) (fun r X q => mx_ri_pg q), fun X1 hX => ?_⟩
      exact ⟨t, S, _, _, hX, Nat.le_refl _, h.out, fin _ rfl⟩
    · have ez : (z + 11) % 12 = z - 1 := by omega
      rw [ez] at q1 fin
      refine ⟨0, 5, _, _, ⟨Nat.le_refl _, fun h => by cases h⟩, Nat.le_refl _, mx_C_mono (c_Vh_undo1 c1 c8 c5 a2 a5 a1 (by omega) a4 (by omega) (la := la2) q1) (fun r X q => mx_ri_pg q), fun X1 hX => ?_⟩
      exact ⟨t, S, _, _, hX, Nat.le_refl _, h.out, fin _ rfl⟩
theorem op_back (htr : l.stackTraces = false) : al_op l E x 0 false M_Vh_back M_Mo_back [] [] (fun _ => "") 4 0 0 0 := by
  intro t S I P J h
  obtain ⟨h1, hsh, -, ⟨b, hb1, hb2, -⟩, -, h6⟩ := id h
  obtain ⟨c1, c2, c3, c4, c5, c6, c7, c8, c9, c10, c11, c12, c13, c14⟩ := id hsh
  cases b with
  | false =>
    refine ⟨0, 0, _, _, ⟨Nat.le_refl _, fun h => by cases h⟩, by omega, mx_C_mono (c_Vh_back0 c1 hb1) (fun r X q => mx_ri_pg q), fun X1 hX => ?_⟩
    exact ⟨t, S, I, P, hX, Nat.le_refl _, h.out, fun J' => ⟨_, mx_C_mono (c_Mo_back0 (mo := x + 277) c13 hb2) (mx_ri_sR ⟨h.mo0 (Nat.le_refl _), mu_e⟩), fun _ => rfl⟩⟩
  | true =>
    obtain ⟨la2, q1, q2⟩ := al_back h hb1
    have c13' : mo_ok S (mx_upP P (x + 23) 2 (some la2)) (x + 277) := (hsh.law (la := la2) (r := x + 23) (by omega)).2.2.2.2.2.2.2.2.2.2.2.2.1
    refine ⟨0, 4, _, _, ⟨Nat.le_refl _, fun h => by cases h⟩, Nat.le_refl _, mx_C_mono (c_Vh_back1 c1 c7 c5 c8 q1 hb1) (fun r X q => mx_ri_pg q), fun X1 hX => ?_⟩
    refine ⟨t, S, _, _, hX, Nat.le_refl _, h.out, fun J' => ⟨_, mx_C_mono (c_Mo_back1 (mo := x + 277) c13' ?_) (mx_ri_sR ⟨q2, ?_⟩), fun _ => rfl⟩⟩
    · rw [mx_up_ne (by omega), vs_stT_o (by omega)]; exact hb2
    · rw [mu_n (by omega), vs_cq_ne (by omega)]; exact mu_e
theorem op_image (h : al_ok t S I P x) : ∃ I1 P1, mx_C l E M_Vh_image 4 0 0 [.ref x] (t, S, I, P, J) (mx_rv (t, S, I1, P1, J)) ∧ ∃ I2, al_ok t S I2 P1 x ∧ ∀ J', mx_C l E M_Mo_image 0 0 0 [.ref (x + 277)] (t, S, I1, P1, J') (mx_rv (t, S, I2, P1, J')) := by
  obtain ⟨h1, hsh, -, -, -, h6⟩ := id h
  obtain ⟨c1, c2, c3, c4, c5, c6, c7, c8, c9, c10, c11, c12, c13, c14⟩ := id hsh
  obtain ⟨la2, q1, q2⟩ := al_image h
  have c13' : mo_ok S (mx_upP P (x + 53) 2 (some la2)) (x + 277) := (hsh.law (la := la2) (r := x + 53) (by omega)).2.2.2.2.2.2.2.2.2.2.2.2.1
  exact ⟨_, _, c_Vh_image c1 c7 c5 q1, _, q2, fun J' => c_Mo_image (mo := x + 277) c13'⟩
end CL98
