/-! A ROW THAT IS ALIKE AS FAR AS ROWS GO -/
section BX92
variable {S : mx_S} {I : mx_I} {P : mx_P} {s la N z : Nat} {D : lwD} {m m2 : Nat → Int32}
theorem rw_ok.cm (h : rw_ok m) (e : ∀ k, k < 1019 → m2 k = m k) : rw_ok m2 := by
  obtain ⟨H, G, T, h1, h2, ⟨g1, g2, g3, g4, g5⟩, a1, a2, a3, a4, a5, ⟨r, r1, r2⟩, a7, a8⟩ := h
  have g3 : H ≤ 8 := g3
  have g4 : G ≤ 8 := g4
  refine ⟨H, G, T, (e 0 (by omega)).trans h1, h2, ⟨(e 3 (by omega)).trans g1, (e 4 (by omega)).trans g2, g3, g4, fun h b1 b2 => ⟨(e _ (by omega)).trans (g5 h b1 b2).1, (e _ (by omega)).trans (g5 h b1 b2).2⟩⟩, fun h hh => ?_, fun h hh => ?_, fun h g hh hg => ?_, fun h q b1 b2 b3 => (e _ (by omega)).trans (a4 h q b1 b2 b3), fun h q hh hq => ?_, ⟨r, r1, (e 5 (by omega)).trans r2⟩, fun g hg => ?_, fun k hk => ?_⟩
  · rw [e _ (by omega)]; exact a1 h hh
  · rw [e _ (by omega)]; exact a2 h hh
  · rw [e _ (by omega), e _ (by omega)]; exact a3 h g hh hg
  · rw [e _ (by omega)]; exact a5 h q hh hq
  · rw [e _ (by omega)]; exact a7 g hg
  · rw [e _ (by omega)]; exact a8 k hk
theorem tx_law.cm (h : tx_law D m) (e : ∀ k, k < 1019 → m2 k = m k) : tx_law D m2 := by
  rcases h with ⟨h1, h2⟩ | ⟨f, L, s, h1, h2, h3, h4, h5, h6, h7⟩
  · exact Or.inl ⟨by rw [e 1 (by omega)]; exact h1, h2⟩
  · exact Or.inr ⟨f, L, s, (e 1 (by omega)).trans h1, h2, h3, (e 2 (by omega)).trans h4, h5, fun k hk => ⟨(h6 k hk).1, (e _ (by omega)).trans (h6 k hk).2⟩, h7⟩
theorem tx2.cm (h : tx2 D m) (e : ∀ k, k < 1019 → m2 k = m k) : tx2 D m2 := ⟨h.1.cm e, h.2.trans (e 1 (by omega)).symm⟩
theorem lo_rel.cmr (h : lo_rel I s m N z) (e : ∀ k, k < 1019 → m2 k = m k) : lo_rel I s m2 N z := by
  obtain ⟨h1, h2, h3, h4, h5, h6⟩ := h
  exact ⟨h1, (e 9 (by omega)).trans h2, h3, h4, h5, fun j k hj hk => (h6 j k hj hk).trans (e _ (by omega)).symm⟩
theorem st_rel.cmr (h : st_rel I s m) (e : ∀ k, k < 1019 → m2 k = m k) : st_rel I s m2 := by
  obtain ⟨⟨p0, p1, p2, p3, p4, p5, p6, p7, p8⟩, h1, h2, h3, h4, h5, h6, h7, h8, h9⟩ := h
  exact ⟨⟨p0.trans (e 3 (by omega)).symm, p1.trans (e 4 (by omega)).symm, fun h hh => (p2 h hh).trans (e _ (by omega)).symm, fun h hh => (p3 h hh).trans (e _ (by omega)).symm, fun h hh => (p4 h hh).trans (e _ (by omega)).symm, fun h hh => (p5 h hh).trans (e _ (by omega)).symm, fun h hh => (p6 h hh).trans (e _ (by omega)).symm, fun h g hh hg => (p7 h g hh hg).trans (e _ (by omega)).symm, fun h g hh hg => (p8 h g hh hg).trans (e _ (by omega)).symm⟩, h1.trans (e 0 (by omega)).symm, h2.trans (e 5 (by omega)).symm, h3.trans (e 6 (by omega)).symm, h4.trans (e 7 (by omega)).symm, h5.trans (e 8 (by omega)).symm, h6.trans (e 10 (by omega)).symm, fun h hh => (h7 h hh).trans (e _ (by omega)).symm, fun h hh => (h8 h hh).trans (e _ (by omega)).symm, fun h q hh hq => (h9 h q hh hq).trans (e _ (by omega)).symm⟩
theorem sa_ok.row (h : sa_ok S I P s m la D) (e : ∀ k, k < 1019 → m2 k = m k) : sa_ok S I P s m2 la D := by
  obtain ⟨h1, ⟨N, z, h2⟩, h3, h4, h5, h6⟩ := h
  exact ⟨h1.cmr e, ⟨N, z, h2.cmr e⟩, h3, h4, h5.cm e, h6.cm e⟩
end BX92
