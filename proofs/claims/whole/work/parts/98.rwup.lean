/-! THE RANGES ONCE ONE PLACE IS WRITTEN -/
section CD98
variable {m : Nat → Int32} {wk : Nat} {v : Int32}
theorem rw_ok.up (h : rw_ok m) (hw : wk = 6 ∨ wk = 7 ∨ wk = 8 ∨ (∃ g, g < 8 ∧ wk = 43 + 3 * g + 2) ∨ (∃ g, g < 8 ∧ wk = 43 + 3 * g + 1) ∨ (∃ q, q < 8 ∧ wk = 11 + 4 * q)) : rw_ok (updI m wk v) := by
  have e : ∀ k, (k = 0 ∨ k = 3 ∨ k = 4 ∨ k = 5 ∨ (∃ q, q < 8 ∧ (k = 11 + 4 * q + 1 ∨ k = 11 + 4 * q + 2 ∨ k = 11 + 4 * q + 3)) ∨ (∃ g, g < 8 ∧ k = 43 + 3 * g + 0) ∨ 67 ≤ k) → updI m wk v k = m k := fun k hk => updI_n (by
    rcases hw with rfl | rfl | rfl | ⟨g, hg, rfl⟩ | ⟨g, hg, rfl⟩ | ⟨g, hg, rfl⟩ <;> rcases hk with rfl | rfl | rfl | rfl | ⟨q, hq, rfl | rfl | rfl⟩ | ⟨q, hq, rfl⟩ | hk <;> omega)
  obtain ⟨H, G, T, h1, h2, ⟨g1, g2, g3, g4, g5⟩, a1, a2, a3, a4, a5, ⟨r, r1, r2⟩, a7, a8⟩ := h
  have g3 : H ≤ 8 := g3
  have g4 : G ≤ 8 := g4
  refine ⟨H, G, T, (e 0 (by omega)).trans h1, h2, ⟨(e 3 (by omega)).trans g1, (e 4 (by omega)).trans g2, g3, g4, fun h b1 b2 => ⟨(e _ (Or.inr (Or.inr (Or.inr (Or.inr (Or.inl ⟨h, b2, by omega⟩)))))).trans (g5 h b1 b2).1, (e _ (Or.inr (Or.inr (Or.inr (Or.inr (Or.inl ⟨h, b2, by omega⟩)))))).trans (g5 h b1 b2).2⟩⟩, fun h hh => ?_, fun h hh => ?_, fun h g hh hg => ?_, fun h q b1 b2 b3 => (e _ (by omega)).trans (a4 h q b1 b2 b3), fun h q hh hq => ?_, ⟨r, r1, (e 5 (by omega)).trans r2⟩, fun g hg => ?_, fun k hk => ?_⟩
  · rw [e _ (Or.inr (Or.inr (Or.inr (Or.inr (Or.inl ⟨h, hh, by omega⟩)))))]; exact a1 h hh
  · rw [e _ (Or.inr (Or.inr (Or.inr (Or.inr (Or.inl ⟨h, hh, by omega⟩)))))]; exact a2 h hh
  · rw [e _ (by omega), e _ (by omega)]; exact a3 h g hh hg
  · rw [e _ (by omega)]; exact a5 h q hh hq
  · rw [e _ (Or.inr (Or.inr (Or.inr (Or.inr (Or.inr (Or.inl ⟨g, by omega, by omega⟩))))))]; exact a7 g hg
  · rw [e _ (by omega)]; exact a8 k hk
/-- a booking, or none -/
theorem rw_ok.bk {H G h q : Nat} (hr : rw_ok m) (hH : m 3 = nI H) (hH8 : H ≤ 8) (hG : m 4 = nI G) (hG8 : G ≤ 8) (hh : h < H) (hq : q < 8) (hv : v = -1 ∨ ∃ k, k < G ∧ v = nI k) : rw_ok (updI m (195 + 8 * h + q) v) := by
  have e : ∀ k, (k < 195 ∨ 259 ≤ k) → updI m (195 + 8 * h + q) v k = m k := fun k hk => updI_n (by omega)
  obtain ⟨H', G', T, h1, h2, ⟨g1, g2, g3, g4, g5⟩, a1, a2, a3, a4, a5, ⟨r, r1, r2⟩, a7, a8⟩ := hr
  have g3 : H' ≤ 8 := g3
  have g4 : G' ≤ 8 := g4
  have eH : H' = H := (nI_eq (by omega) (by omega)).mp (Eq.trans (Eq.symm g1) hH)
  have eG : G' = G := (nI_eq (by omega) (by omega)).mp (Eq.trans (Eq.symm g2) hG)
  subst eH
  subst eG
  refine ⟨H', G', T, (e 0 (by omega)).trans h1, h2, ⟨(e 3 (by omega)).trans g1, (e 4 (by omega)).trans g2, g3, g4, fun h b1 b2 => ⟨(e _ (by omega)).trans (g5 h b1 b2).1, (e _ (by omega)).trans (g5 h b1 b2).2⟩⟩, fun h hh => ?_, fun h hh => ?_, fun h g hh hg => ?_, fun h2 q2 b1 b2 b3 => ?_, fun h2 q2 b2 b3 => ?_, ⟨r, r1, (e 5 (by omega)).trans r2⟩, fun g hg => ?_, fun k hk => ?_⟩
  · rw [e _ (by omega)]; exact a1 h hh
  · rw [e _ (by omega)]; exact a2 h hh
  · rw [e _ (by omega), e _ (by omega)]; exact a3 h g hh hg
  · rw [updI_n (by omega)]; exact a4 h2 q2 b1 b2 b3
  · by_cases c : 195 + 8 * h2 + q2 = 195 + 8 * h + q
    · rw [c, updI_e]; exact hv
    · rw [updI_n c]; exact a5 h2 q2 b2 b3
  · rw [e _ (by omega)]; exact a7 g hg
  · rw [e _ (by omega)]; exact a8 k hk
end CD98
