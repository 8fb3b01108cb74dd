/-! WHAT THE WEEKS KEEP OF THE ROW -/
section CJ98
variable {m m0 m2 : Nat → Int32} {D : lwD} {H G h g q n : Nat} {b : Bool} {s : Int32}
/-- a law's numbers -/
def lw_bd (D : lwD) : Prop := lwN D ≤ 12 ∧ ∀ j, j < lwN D → lwM D j < 100
theorem lw_gl_bd {kd am : Nat → Nat} {hv : Nat → Bool} (hn : n ≤ 12) (ha : ∀ j, j < n → am j < 100) : -(100 * n : Int) ≤ (lw_gl kd am hv n).toInt ∧ (lw_gl kd am hv n).toInt ≤ 100 * n := by
  unfold lw_gl
  induction n with
  | zero => exact ⟨by show -(100 * ((0 : Nat) : Int)) ≤ (nI 0).toInt; decide, by show (nI 0).toInt ≤ 100 * ((0 : Nat) : Int); decide⟩
  | succ n ih =>
    rw [vf_s]
    obtain ⟨i1, i2⟩ := ih (by omega) (fun j hj => ha j (by omega))
    have hm := ha n (by omega)
    have e := nI_toInt (n := am n) (by omega)
    split
    · have e2 : (-nI (am n)).toInt = -(am n : Int) := by rw [fb_negI (by rw [e]; omega), e]
      split
      · rw [fb_addI (by rw [e]; omega) (by rw [e]; omega), e]; omega
      · rw [fb_addI (by rw [e2]; omega) (by rw [e2]; omega), e2]; omega
    · omega
theorem vs_jy_bd (hD : lw_bd D) (hr : rk9 m) (hh : h < 8) (hg : g < 8) : ∃ j, j ≤ 2000 ∧ vs_jy D m h g q = nI j := by
  obtain ⟨⟨a, ha, ea⟩, -⟩ := hr h g hh hg
  unfold vs_jy vs_gl
  have hb := lw_gl_bd (kd := lwK D) (am := lwM D) (hv := lwV D (vs_fc m h g q)) (n := lwN D) hD.1 hD.2
  have hN := hD.1
  have e := nI_toInt (n := a) (by omega)
  have es : (m (67 + 8 * h + g) + lw_gl (lwK D) (lwM D) (lwV D (vs_fc m h g q)) (lwN D)).toInt = a + (lw_gl (lwK D) (lwM D) (lwV D (vs_fc m h g q)) (lwN D)).toInt := by
    rw [ea, fb_addI (by rw [e]; omega) (by rw [e]; omega), e]
  split
  · exact ⟨0, by omega, rfl⟩
  · rename_i hc
    rw [Int32.lt_iff_toInt_lt, es] at hc
    have hc : ¬ ((a : Int) + (lw_gl (lwK D) (lwM D) (lwV D (vs_fc m h g q)) (lwN D)).toInt < 0) := hc
    obtain ⟨j, hj⟩ := Int.eq_ofNat_of_zero_le (show 0 ≤ (a : Int) + (lw_gl (lwK D) (lwM D) (lwV D (vs_fc m h g q)) (lwN D)).toInt by omega)
    refine ⟨j, by omega, Int32.toInt_inj.mp ?_⟩
    rw [es, nI_toInt (by omega), hj]
/-- what is kept: all but weeks, log, seed, gladness, lonely weeks and bookings that are struck -/
def wq (H G : Nat) (m0 m : Nat → Int32) : Prop := (∀ k, (k < 6 ∨ k = 7 ∨ k = 8 ∨ (11 ≤ k ∧ k < 43 ∧ (k - 11) % 4 < 2) ∨ (43 ≤ k ∧ k < 195) ∨ 619 ≤ k) → m k = m0 k) ∧ (∀ h, H ≤ h → h < 8 → m (11 + 4 * h + 2) = m0 (11 + 4 * h + 2) ∧ m (11 + 4 * h + 3) = m0 (11 + 4 * h + 3)) ∧ (∀ k, 195 ≤ k → k < 259 → m k = -1 ∨ m k = m0 k) ∧ gl_ok m ∧ br_ok m G ∧ rk9 m
theorem wq.rf (h1 : gl_ok m) (h2 : br_ok m G) (h3 : rk9 m) : wq H G m m := ⟨fun _ _ => rfl, fun _ _ _ => ⟨rfl, rfl⟩, fun _ _ _ => Or.inr rfl, h1, h2, h3⟩
theorem wq.cm (w : wq H G m0 m) (e : ∀ k, (k < 6 ∨ k = 7 ∨ k = 8 ∨ (11 ≤ k ∧ k < 43 ∧ (k - 11) % 4 < 2) ∨ (43 ≤ k ∧ k < 195) ∨ 619 ≤ k) → m2 k = m k) (eh : ∀ h, H ≤ h → h < 8 → m2 (11 + 4 * h + 2) = m (11 + 4 * h + 2) ∧ m2 (11 + 4 * h + 3) = m (11 + 4 * h + 3)) (eb : ∀ k, 195 ≤ k → k < 259 → m2 k = -1 ∨ m2 k = m k) (eg : gl_ok m2) : wq H G m0 m2 := by
  obtain ⟨w1, w2, w3, w4, w5, w6⟩ := w
  refine ⟨fun k hk => (e k hk).trans (w1 k hk), fun h a b => ⟨(eh h a b).1.trans (w2 h a b).1, (eh h a b).2.trans (w2 h a b).2⟩, fun k a b => ?_, eg, fun h q a b => ?_, fun h g a b => ?_⟩
  · rcases eb k a b with z | z
    · exact Or.inl z
    · rw [z]; exact w3 k a b
  · rcases eb (195 + 8 * h + q) (by omega) (by omega) with z | z
    · exact Or.inl z
    · rw [z]; exact w5 h q a b
  · rw [e _ (by omega), e _ (by omega)]; exact w6 h g a b
/-- all but the hosts' own weeks stay, and gladness -/
theorem wq.c2 (w : wq H G m0 m) (e : ∀ k, (k < 6 ∨ k = 7 ∨ k = 8 ∨ (11 ≤ k ∧ k < 43 ∧ (k - 11) % 4 < 3) ∨ (43 ≤ k ∧ k < 195) ∨ 619 ≤ k) → m2 k = m k) (eh : ∀ h, H ≤ h → h < 8 → m2 (11 + 4 * h + 3) = m (11 + 4 * h + 3)) (eb : ∀ k, 195 ≤ k → k < 259 → m2 k = -1 ∨ m2 k = m k) : wq H G m0 m2 :=
  w.cm (fun k hk => e k (by omega)) (fun h a b => ⟨e _ (by omega), eh h a b⟩) eb (fun h hh => by rw [e _ (by omega)]; exact w.2.2.2.1 h hh)
theorem wq_mt (hD : lw_bd D) (w : wq H G m0 m) (hG : G ≤ 8) (hh : h < H) (hH : H ≤ 8) (hq : q < 8) (hm : vs_mt D m h q = true) : wq H G m0 (w_mt D m h q) := by
  have e : ∀ k, k ≠ 9 → (k < 259 ∨ 619 ≤ k) → k ≠ 11 + 4 * h + 2 → w_mt D m h q k = m k := fun k a b c => by
    unfold w_mt; rw [w_lg_o a b, updI_n c]
  refine w.cm (fun k hk => e k (by omega) (by omega) (by omega)) (fun a b c => ⟨e _ (by omega) (by omega) (by omega), e _ (by omega) (by omega) (by omega)⟩) (fun k a b => Or.inr (e k (by omega) (by omega) (by omega))) (fun a ha => ?_)
  by_cases c : a = h
  · subst c
    unfold w_mt
    rw [w_lg_o (by omega) (by omega), updI_e]
    obtain ⟨a1, h1, e1⟩ := w.2.2.2.1 a ha
    have hne : ¬ m (195 + 8 * a + q) = -1 := by
      intro z
      unfold vs_mt at hm
      rw [z] at hm
      simp at hm
    obtain ⟨k, hk, ek⟩ := (w.2.2.2.2.1 a q ha hq).resolve_left hne
    obtain ⟨j, hj, ej⟩ := vs_jy_bd (q := q) (g := k) hD w.2.2.2.2.2 ha (by omega)
    have ew : w_jv D m a q = nI j := by
      unfold w_jv; rw [ek, nI_clamp (by omega)]; exact ej
    rw [ew, e1, nI_add]
    unfold mn9
    split
    · exact ⟨999, by omega, rfl⟩
    · rename_i z
      have z := mt (nI_ltI (show 999 < 2 ^ 31 by omega) (show a1 + j < 2 ^ 31 by omega)).mpr z
      exact ⟨a1 + j, by omega, rfl⟩
  · rw [e _ (by omega) (by omega) (by omega)]; exact w.2.2.2.1 a ha
theorem wq_lo (w : wq H G m0 m) (hh : h < H) (hH : H ≤ 8) : wq H G m0 (w_lo m h b) := by
  have e : ∀ k, k ≠ 11 + 4 * h + 3 → w_lo m h b k = m k := fun k c => by unfold w_lo; exact updI_n c
  exact w.c2 (fun k hk => e k (by omega)) (fun a b c => e _ (by omega)) (fun k a b => Or.inr (e k (by omega)))
theorem wq_sa (w : wq H G m0 m) (hh : h < H) (hH : H ≤ 8) : wq H G m0 (w_sa m h) := by
  have e : ∀ k, k ≠ 9 → (k < 259 ∨ 619 ≤ k) → k ≠ 11 + 4 * h + 3 → (k < 195 ∨ 259 ≤ k) → w_sa m h k = m k := fun k a b c d => by
    unfold w_sa; rw [w_lg_o a b, updI_n c, w_nb_o (by omega)]
  refine w.c2 (fun k hk => e k (by omega) (by omega) (by omega) (by omega)) (fun a b c => e _ (by omega) (by omega) (by omega) (by omega)) (fun k a b => ?_)
  unfold w_sa
  rw [w_lg_o (by omega) (by omega), updI_n (by omega)]
  by_cases z : 195 + 8 * h ≤ k ∧ k < 195 + 8 * h + 8
  · exact Or.inl (by unfold w_nb; rw [if_pos z])
  · exact Or.inr (w_nb_o (by omega))
theorem wq_cl {z : (Nat → Int32) × Int32} (w : wq H G m0 z.1) (hh : h < H) (hH : H ≤ 8) : wq H G m0 (w_cl z h b).1 := by
  unfold w_cl
  split
  · exact wq_sa (wq_lo w hh hH) hh hH
  · exact wq_lo w hh hH
theorem wq_en {z : (Nat → Int32) × Int32} (w : wq H G m0 z.1) (hn : n ≤ H) (hH : H ≤ 8) : wq H G m0 (w_en z s n).1 := by
  induction n with
  | zero => exact w
  | succ n ih => rw [w_en_s]; exact wq_cl (ih (by omega)) (by omega) hH
theorem wq_we (w : wq H G m0 m) : wq H G m0 (w_we m) := w.c2 (fun k hk => updI_n (by omega)) (fun a b c => updI_n (by omega)) (fun k a b => Or.inr (updI_n (by omega)))
theorem wq_dr (w : wq H G m0 m) : wq H G m0 (w_dr b m) := by
  unfold w_dr
  split
  · exact w.c2 (fun k hk => updI_n (by omega)) (fun a b c => updI_n (by omega)) (fun k a b => Or.inr (updI_n (by omega)))
  · exact w
theorem wq_hq {y : w_Y} (hD : lw_bd D) (w : wq H G m0 y.1) (hG : G ≤ 8) (hn : n ≤ H) (hH : H ≤ 8) (hq : q < 8) : wq H G m0 (w_hq D q n y).1 := by
  induction n with
  | zero => exact w
  | succ n ih =>
    rw [w_hq_s]
    split
    · exact wq_mt hD (ih (by omega)) hG (by omega) hH hq (by assumption)
    · exact ih (by omega)
theorem wq_qd {y : w_Y} (hD : lw_bd D) (w : wq H G m0 y.1) (hG : G ≤ 8) (hH : H ≤ 8) (hq : q < 8) : wq H G m0 (w_qd D b H q y).1 := by
  unfold w_qd
  split
  · exact wq_dr w
  · exact wq_hq (y := (w_dr b y.1, y.2)) hD (wq_dr w) hG (Nat.le_refl _) hH hq
theorem wq_qs {y : w_Y} (hD : lw_bd D) (w : wq H G m0 y.1) (hG : G ≤ 8) (hH : H ≤ 8) (hn : n ≤ 8) : wq H G m0 (w_qs D b H n y).1 := by
  induction n with
  | zero => exact w
  | succ n ih => rw [w_qs_s]; exact wq_qd hD (ih (by omega)) hG hH (by omega)
theorem wq_wk {z : (Nat → Int32) × Int32} (hD : lw_bd D) (w : wq H G m0 z.1) (hG : G ≤ 8) (hH : H ≤ 8) : wq H G m0 (w_wk D b H z).1 := wq_we (wq_en (z := ((w_qs D b H 8 (z.1, nI 0, 0)).1, z.2)) (wq_qs (y := (z.1, nI 0, 0)) hD w hG hH (by omega)) (Nat.le_refl _) hH)
theorem wq_ws {z : w_Y} (hD : lw_bd D) (w : wq H G m0 z.1) (hG : G ≤ 8) (hH : H ≤ 8) : wq H G m0 (w_ws D b H n z).1 := by
  induction n with
  | zero => exact w
  | succ n ih => rw [w_ws_s]; exact wq_wk (z := ((w_ws D b H n z).1, (w_ws D b H n z).2.1)) hD ih hG hH
/-- the row after weeks is as rows may be -/
theorem rw_ok.wq (hr : rw_ok m0) (hH : m0 3 = nI H) (hH8 : H ≤ 8) (hG : m0 4 = nI G) (hG8 : G ≤ 8) (w : wq H G m0 m) : rw_ok m := by
  obtain ⟨H', G', T, h1, h2, ⟨g1, g2, g3, g4, g5⟩, a1, a2, a3, a4, a5, ⟨r, r1, r2⟩, a7, a8⟩ := hr
  have g3 : H' ≤ 8 := g3
  have g4 : G' ≤ 8 := g4
  have eH : H' = H := (nI_eq (by omega) (by omega)).mp (Eq.trans (Eq.symm g1) hH)
  have eG : G' = G := (nI_eq (by omega) (by omega)).mp (Eq.trans (Eq.symm g2) hG)
  subst eH
  subst eG
  obtain ⟨w1, w2, w3, w4, w5, w6⟩ := w
  refine ⟨H', G', T, (w1 0 (by omega)).trans h1, h2, ⟨(w1 3 (by omega)).trans g1, (w1 4 (by omega)).trans g2, g3, g4, fun h b1 b2 => ⟨(w2 h b1 b2).1.trans (g5 h b1 b2).1, (w2 h b1 b2).2.trans (g5 h b1 b2).2⟩⟩, w4, fun h hh => ?_, w6, fun h2 q2 b1 b2 b3 => ?_, w5, ⟨r, r1, (w1 5 (by omega)).trans r2⟩, fun g hg => ?_, fun k hk => ?_⟩
  · rw [w1 _ (by omega)]; exact a2 h hh
  · rcases w3 (195 + 8 * h2 + q2) (by omega) (by omega) with z | z
    · exact z
    · rw [z]; exact a4 h2 q2 b1 b2 b3
  · rw [w1 _ (by omega)]; exact a7 g hg
  · rw [w1 _ (by omega)]; exact a8 k hk
theorem la_is.bd {S : mx_S} {P : mx_P} {I : mx_I} {la : Nat} (h : la_is S P I la D) : lw_bd D := ⟨h.1.2.2.2.2.2.2.2.2.2.2.2.1, fun j hj => (h.2.1.2.2.1 j hj).2.1⟩
end CJ98
