/-! AN ACT THAT WRITES ONE PLACE KEEPS ALL -/
section CC97
variable {t x la A z c j wk : Nat} {S : mx_S} {I K : mx_I} {P : mx_P} {D : lwD} {v : Int32}
def wr_K (I : mx_I) (x A z c j wk : Nat) (v : Int32) : mx_I := vs_chg (mx_up (vs_keep I (x + 68) (x + 23) z A) c j v) (x + 277) A 0 wk v
theorem wr_e (hc : x + 24 ≤ c ∧ c < x + 37) {q : Nat} (h1 : q ≠ x + 277) (h2 : q ≠ x + 278) (h3 : q ≠ x + 281) (h4 : q ≠ c) (h5 : q ≠ x + 68) : wr_K I x A z c j wk v q = vs_stT I (x + 70 + 15 * z) (x + 23) q := by
  unfold wr_K vs_chg vs_keep
  rw [if_pos rfl, mx_up_ne h2, vs_rem_o h1 h3, mx_up_ne h1, mx_up_ne h4, mx_up_ne h5, mx_up_ne h5, show x + 68 + 2 + 15 * z = x + 70 + 15 * z by omega]
theorem wr_o (hz : z < 12) (hc : x + 24 ≤ c ∧ c < x + 37) {q : Nat} (h1 : q ≠ x + 277) (h2 : q ≠ x + 278) (h3 : q ≠ x + 281) (h4 : q ≠ c) (h5 : q < x + 68 ∨ x + 250 ≤ q) : wr_K I x A z c j wk v q = I q := by
  rw [wr_e hc h1 h2 h3 h4 (by omega), vs_stT_o (by omega)]
theorem al_write (h : al_ok t S I P x) (hla : P (x + 23) 2 = some la) (hA : I (x + 68) 1 = nI A) (hA12 : A ≤ 12) (hz : I (x + 68) 2 = nI z) (hz12 : z < 12) (hc : x + 24 ≤ c ∧ c < x + 37) (hc2 : c ≠ x + 32 ∧ c ≠ x + 33) (hw : 3 ≤ wk ∧ wk < 259 ∧ wk ≠ 9) (hst : ∀ I' m, st_rel I' (x + 23) m → st_rel (mx_up I' c j v) (x + 23) (updI m wk v)) (hrw : rw_ok (updI (I (x + 278)) wk v)) : al_ok t S (wr_K I x A z c j wk v) (mx_upP P (x + 70 + 15 * z) 2 (some la)) x := by
  have hrow : wr_K I x A z c j wk v (x + 278) = updI (I (x + 278)) wk v := by
    unfold wr_K vs_chg vs_keep
    rw [if_pos rfl, show x + 278 = x + 277 + 1 by omega, mu_row, rem_row, mx_up_ne (by omega), mx_up_ne (by omega), mx_up_ne (by omega), mx_up_ne (by omega), vs_stT_o (by omega)]
  have hmo : ∀ k, k ≠ 0 → k ≠ 6 → wr_K I x A z c j wk v (x + 277) k = I (x + 277) k := fun k h0 h6 => by
    unfold wr_K vs_chg vs_keep vs_rem
    rw [if_pos rfl, mx_up_ne (by omega)]
    split
    · rw [mu_n h6, vs_cq_ne (by omega), mu_n h6, vs_cq_ne (by omega), mu_n h0, mx_up_ne (by omega), mx_up_ne (by omega), mx_up_ne (by omega), vs_stT_o (by omega)]
    · rw [mu_n h6, vs_cq_ne (by omega), mu_n h0, mx_up_ne (by omega), mx_up_ne (by omega), mx_up_ne (by omega), vs_stT_o (by omega)]
  have ho : ∀ q, q ≠ x + 277 → q ≠ x + 278 → q ≠ x + 281 → q ≠ c → (q < x + 68 ∨ x + 250 ≤ q) → wr_K I x A z c j wk v q = I q := fun q a b d e g => wr_o hz12 hc a b d e g
  have hs0 := h
  obtain ⟨-, -, ⟨la0, D, ha, ⟨s1, ⟨N, zz, s2⟩, -⟩, -⟩, -, -, hff⟩ := hs0
  refine al_keep h hla hA hA12 hz hz12 (fun q a b => wr_e hc (by omega) (by omega) (by omega) (by omega) (by omega)) ?_ ?_ ?_ ?_ (fun k hk => ?_) (fun q hq => ?_) ?_ ?_ (hmo 3 (by omega) (by omega)) (hmo 8 (by omega) (by omega)) ?_ ?_ ⟨N, zz, ?_⟩ (by rw [hrow]; exact hrw)
  · unfold wr_K vs_chg vs_keep
    rw [if_pos rfl, mx_up_ne (by omega), vs_rem_o (by omega) (by omega), mx_up_ne (by omega), mx_up_ne (by omega)]; exact mu_e
  · unfold wr_K vs_chg vs_keep
    rw [if_pos rfl, mx_up_ne (by omega), vs_rem_o (by omega) (by omega), mx_up_ne (by omega), mx_up_ne (by omega), mu_n (by omega)]; exact mu_e
  · unfold wr_K vs_chg
    rw [if_pos rfl, mx_up_ne (by omega), rem_6]
  · have eB : ∀ q, q ≠ x + 277 → (q = x + 278 ∨ q = x + 281) → (mx_up (mx_up (vs_keep I (x + 68) (x + 23) z A) c j v) (x + 277) 0 (nI 0)) q = I q := fun q a b => by
      unfold vs_keep
      rw [mx_up_ne a, mx_up_ne (by omega), mx_up_ne (by omega), mx_up_ne (by omega), vs_stT_o (by omega)]
    unfold wr_K vs_chg
    rw [if_pos rfl, mx_up_ne (by omega)]
    funext i
    have b1 := eB (x + 278) (by omega) (Or.inl rfl)
    have b2 := eB (x + 281) (by omega) (Or.inr rfl)
    unfold vs_rem
    split
    · rw [mx_up_ne (by omega), mx_up_ne (by omega)]
      unfold vs_cq
      simp only [show x + 277 + 4 = x + 281 by omega, show x + 277 + 1 = x + 278 by omega, mx_up_ne (show x + 281 ≠ x + 277 by omega), mx_up_ne (show x + 278 ≠ x + 277 by omega)]
      simp only [mx_up_ne (show x + 281 ≠ x + 277 by omega), mx_up_ne (show x + 278 ≠ x + 277 by omega)] at b1 b2
      simp only [b1, b2]
    · rw [mx_up_ne (by omega), mx_up_ne (by omega)]
      unfold vs_cq
      simp only [show x + 277 + 4 = x + 281 by omega, show x + 277 + 1 = x + 278 by omega, b1, b2]
  · rw [hrow, updI_n (by omega)]
  · exact ho q (by unfold al_kc at hq; omega) (by unfold al_kc at hq; omega) (by unfold al_kc at hq; omega) (by unfold al_kc at hq; omega) (by unfold al_kc at hq; omega)
  · rw [ho x (by omega) (by omega) (by omega) (by omega) (by omega)]
  · rw [ho (x + 250) (by omega) (by omega) (by omega) (by omega) (by omega)]
  · rw [ho (x + 250) (by omega) (by omega) (by omega) (by omega) (by omega), hmo 12 (by omega) (by omega)]; exact hff
  · rw [hrow]
    refine (hst I (I (x + 278)) s1).c14 (fun q a b => ?_)
    by_cases e : q = c
    · subst e
      unfold wr_K vs_chg vs_keep
      rw [if_pos rfl, mx_up_ne (by omega), vs_rem_o (by omega) (by omega), mx_up_ne (by omega)]
      funext i
      have eq : (mx_up (mx_up (vs_stT I (x + 68 + 2 + 15 * z) (x + 23)) (x + 68) 2 (nI (vs_nx z))) (x + 68) 1 (nI (vs_mn A))) q = I q := by rw [mx_up_ne (by omega), mx_up_ne (by omega), vs_stT_o (by omega)]
      simp only [mx_up]
      split
      · rfl
      · have := congrFun eq i
        simpa [mx_up] using this
    · rw [ho q (by omega) (by omega) (by omega) e (by omega), mx_up_ne e]
  · rw [hrow]
    have s3 : lo_rel I (x + 23 + 9) (updI (I (x + 278)) wk v) N zz := by
      obtain ⟨l1, l2, l3, l4, l5, l6⟩ := s2
      exact ⟨l1, (updI_n (by omega)).trans l2, l3, l4, l5, fun j k hj hk => (l6 j k hj hk).trans (updI_n (by omega)).symm⟩
    exact s3.cgr (ho _ (by omega) (by omega) (by omega) (by omega) (by omega)) (ho _ (by omega) (by omega) (by omega) (by omega) (by omega))
end CC97
