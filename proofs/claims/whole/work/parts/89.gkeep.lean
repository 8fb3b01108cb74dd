/-! THE GROUND KEEPS THE ROW'S RANGES -/
section BU89
variable {L c H G T : Nat} {f : Nat → Nat} {m : Nat → Int32} {s : gg_S}
def gw (s : gg_S) : Prop := gg_in s ∧ gl_ok s.2.2 ∧ hr_ok s.2.2 ∧ rk9 s.2.2 ∧ bk_ok s.2.2 s.1 ∧ br_ok s.2.2 s.2.1 ∧ rn_ok s.2.2 ∧ sy_ok s.2.2 s.2.1 ∧ by_ok s.2.2
theorem gg_bits_lt : ∀ a, a < 8 → ∀ b, b < 8 → a ≤ b → gg_bits a b = nI (2 ^ (b + 1) - 2 ^ a) ∧ 2 ^ (b + 1) - 2 ^ a < 256 := by decide +kernel
theorem gw_host {p a b : Nat} (h : gw s) (h8 : s.1 < 8) (ha : a < 8) (hb : b < 8) (hab : a ≤ b) : gw (gg_hostm s p a b) := by
  obtain ⟨⟨g1, g2, g3, g4, g5⟩, h2, h3, h4, h5, h6, h7, h9, h10⟩ := h
  have e : ∀ k, k ≠ 3 → k ≠ 11 + 4 * s.1 → k ≠ 11 + 4 * s.1 + 1 → (gg_hostm s p a b).2.2 k = s.2.2 k := fun k a1 a2 a3 => by
    unfold gg_hostm; dsimp only
    rw [updI_n a1, updI_n a3, updI_n a2]
  refine ⟨⟨?_, (e 4 (by omega) (by omega) (by omega)).trans g2, by show s.1 + 1 ≤ 8; omega, g4, fun h h1 h2 => ?_⟩, fun h hh => ?_, fun h hh => ?_, fun h g hh hg => ?_, fun h q a1 a2 a3 => ?_, fun h q hh hq => ?_, ?_, fun g hg => ?_, fun k hk => ?_⟩
  · unfold gg_hostm; dsimp only
    exact updI_e _ _ _
  · have h1 : s.1 + 1 ≤ h := h1
    have z := g5 h (by omega) h2
    exact ⟨(e _ (by omega) (by omega) (by omega)).trans z.1, (e _ (by omega) (by omega) (by omega)).trans z.2⟩
  · rw [e _ (by omega) (by omega) (by omega)]; exact h2 h hh
  · by_cases c1 : h = s.1
    · subst c1
      have z := gg_bits_lt a ha b hb hab
      refine ⟨_, z.2, ?_⟩
      rw [← z.1]
      unfold gg_hostm; dsimp only
      rw [updI_n (by omega)]; exact updI_e _ _ _
    · rw [e _ (by omega) (by omega) (by omega)]; exact h3 h hh
  · rw [e _ (by omega) (by omega) (by omega), e _ (by omega) (by omega) (by omega)]; exact h4 h g hh hg
  · have a1 : s.1 + 1 ≤ h := a1
    rw [e _ (by omega) (by omega) (by omega)]; exact h5 h q (by omega) a2 a3
  · rw [e _ (by omega) (by omega) (by omega)]; exact h6 h q hh hq
  · obtain ⟨r, r1, r2⟩ := h7
    exact ⟨r, r1, (e 5 (by omega) (by omega) (by omega)).trans r2⟩
  · have hg : g < s.2.1 := hg
    rw [e _ (by omega) (by omega) (by omega)]; exact h9 g hg
  · rw [e _ (by omega) (by omega) (by omega)]; exact h10 k hk
theorem gw_guest {p a b k : Nat} (h : gw s) (h8 : s.2.1 < 8) (hp1 : 1 ≤ p) (hp4 : p ≤ 4) : gw (gg_guestm s p a b k) := by
  obtain ⟨⟨g1, g2, g3, g4, g5⟩, h2, h3, h4, h5, h6, h7, h9, h10⟩ := h
  have e : ∀ j, j ≠ 4 → j ≠ 43 + 3 * s.2.1 → j ≠ 43 + 3 * s.2.1 + 1 → j ≠ 43 + 3 * s.2.1 + 2 → (gg_guestm s p a b k).2.2 j = s.2.2 j := fun j a1 a2 a3 a4 => by
    unfold gg_guestm; dsimp only
    rw [updI_n a1, updI_n a4, updI_n a3, updI_n a2]
  refine ⟨⟨(e 3 (by omega) (by omega) (by omega) (by omega)).trans g1, ?_, g3, by show s.2.1 + 1 ≤ 8; omega, fun h h1 h2 => ?_⟩, fun h hh => ?_, fun h hh => ?_, fun h g hh hg => ?_, fun h q a1 a2 a3 => ?_, fun h q hh hq => ?_, ?_, fun g hg => ?_, fun k hk => ?_⟩
  · unfold gg_guestm; dsimp only
    exact updI_e _ _ _
  · have z := g5 h h1 h2
    exact ⟨(e _ (by omega) (by omega) (by omega) (by omega)).trans z.1, (e _ (by omega) (by omega) (by omega) (by omega)).trans z.2⟩
  · rw [e _ (by omega) (by omega) (by omega) (by omega)]; exact h2 h hh
  · rw [e _ (by omega) (by omega) (by omega) (by omega)]; exact h3 h hh
  · rw [e _ (by omega) (by omega) (by omega) (by omega), e _ (by omega) (by omega) (by omega) (by omega)]; exact h4 h g hh hg
  · rw [e _ (by omega) (by omega) (by omega) (by omega)]; exact h5 h q a1 a2 a3
  · rw [e _ (by omega) (by omega) (by omega) (by omega)]
    rcases h6 h q hh hq with z | ⟨r, r1, r2⟩
    · exact Or.inl z
    · exact Or.inr ⟨r, by show r < s.2.1 + 1; omega, r2⟩
  · obtain ⟨r, r1, r2⟩ := h7
    exact ⟨r, r1, (e 5 (by omega) (by omega) (by omega) (by omega)).trans r2⟩
  · have hg : g < s.2.1 + 1 := hg
    by_cases c1 : g = s.2.1
    · subst c1
      refine ⟨p, hp1, hp4, ?_⟩
      unfold gg_guestm; dsimp only
      rw [updI_n (by omega), updI_n (by omega), updI_n (by omega)]; exact updI_e _ _ _
    · rw [e _ (by omega) (by omega) (by omega) (by omega)]; exact h9 g (by omega)
  · rw [e _ (by omega) (by omega) (by omega) (by omega)]; exact h10 k hk
theorem gw_fld {k v : Nat} (h : gw s) (hk : k = 5 ∧ v ≤ 100 ∨ k = 6 ∨ k = 7 ∨ k = 8) : gw (s.1, s.2.1, updI s.2.2 k (nI v)) := by
  obtain ⟨⟨g1, g2, g3, g4, g5⟩, h2, h3, h4, h5, h6, h7, h9, h10⟩ := h
  have e : ∀ j, j ≠ k → updI s.2.2 k (nI v) j = s.2.2 j := fun j a1 => updI_n a1
  refine ⟨⟨(e 3 (by omega)).trans g1, (e 4 (by omega)).trans g2, g3, g4, fun h h1 h2 => ⟨(e _ (by omega)).trans (g5 h h1 h2).1, (e _ (by omega)).trans (g5 h h1 h2).2⟩⟩, fun h hh => ?_, fun h hh => ?_, fun h g hh hg => ?_, fun h q a1 a2 a3 => ?_, fun h q hh hq => ?_, ?_, fun g hg => ?_, fun j hj => ?_⟩
  · dsimp only; rw [e _ (by omega)]; exact h2 h hh
  · dsimp only; rw [e _ (by omega)]; exact h3 h hh
  · dsimp only; rw [e _ (by omega), e _ (by omega)]; exact h4 h g hh hg
  · dsimp only; rw [e _ (by omega)]; exact h5 h q a1 a2 a3
  · dsimp only; rw [e _ (by omega)]; exact h6 h q hh hq
  · rcases hk with ⟨rfl, hv⟩ | hk
    · exact ⟨v, hv, by dsimp only; exact updI_e _ _ _⟩
    · obtain ⟨r, r1, r2⟩ := h7
      exact ⟨r, r1, (e 5 (by omega)).trans r2⟩
  · have hg : g < s.2.1 := hg
    have g8 : g < 8 := by omega
    dsimp only; rw [e _ (by omega)]; exact h9 g hg
  · dsimp only; rw [e _ (by omega)]; exact h10 j hj
theorem gw_rank {a base i n : Nat} (h : gw s) (hb : base = 67 ∨ base = 131) (hi : i < 8) (hn : n ≤ 8) (hd : ∀ j, j < n → tq_f (f (a + j)) = true) : gw (s.1, s.2.1, gg_set s.2.2 f a (base + 8 * i) n) := by
  obtain ⟨⟨g1, g2, g3, g4, g5⟩, h2, h3, h4, h5, h6, h7, h9, h10⟩ := h
  have e : ∀ j, (j < 67 ∨ 195 ≤ j) → gg_set s.2.2 f a (base + 8 * i) n j = s.2.2 j := fun j a1 => if_neg (by omega)
  have e9 : ∀ j, (∃ r, r ≤ 9 ∧ s.2.2 j = nI r) → ∃ r, r ≤ 9 ∧ gg_set s.2.2 f a (base + 8 * i) n j = nI r := fun j hj => by
    unfold gg_set
    split
    · rename_i q
      have := tq_f_v (hd (j - (base + 8 * i)) (by omega))
      exact ⟨_, by omega, rfl⟩
    · exact hj
  refine ⟨⟨(e 3 (by omega)).trans g1, (e 4 (by omega)).trans g2, g3, g4, fun h h1 h2 => ⟨(e _ (by omega)).trans (g5 h h1 h2).1, (e _ (by omega)).trans (g5 h h1 h2).2⟩⟩, fun h hh => ?_, fun h hh => ?_, fun h g hh hg => ⟨e9 _ (h4 h g hh hg).1, e9 _ (h4 h g hh hg).2⟩, fun h q a1 a2 a3 => ?_, fun h q hh hq => ?_, ?_, fun g hg => ?_, fun j hj => ?_⟩
  · dsimp only; rw [e _ (by omega)]; exact h2 h hh
  · dsimp only; rw [e _ (by omega)]; exact h3 h hh
  · dsimp only; rw [e _ (by omega)]; exact h5 h q a1 a2 a3
  · dsimp only; rw [e _ (by omega)]; exact h6 h q hh hq
  · obtain ⟨r, r1, r2⟩ := h7
    exact ⟨r, r1, (e 5 (by omega)).trans r2⟩
  · have hg : g < s.2.1 := hg
    have g8 : g < 8 := by omega
    dsimp only; rw [e _ (by omega)]; exact h9 g hg
  · dsimp only; rw [e _ (by omega)]; exact h10 j hj
theorem fig_digits {n t u : Nat} (h : gq_fig (tK f L) (tZ f L) n t = .inr u) : ∀ j, j < n → tq_f (f (tq_b f L t + j)) = true := fun j hj => by
  rcases gq_fig_in h with z | ⟨z1, z2⟩
  · omega
  · have e := fe_z (f := f) (L := L) (c := t)
    rw [if_pos z1] at e
    exact tq_in (p := fun q => tq_f (f q)) (L := L) (a := tq_b f L t) (by omega) (by show tq_b f L t + j < tq_fe f L (tq_b f L t); omega)
theorem gw_line {q : gg_S × Nat} (hw : gw s) (h : gg_LN f L s c = .inr q) : gw q.1 := by
  have h : gg_line (tK f L) (tV f L) (tZ f L) (tq_b f L) f s c = .inr q := h
  have hs1 := hw.1.2.2.1
  have hs2 := hw.1.2.2.2.1
  have hR : ∀ base many others, (base = 67 ∨ base = 131) → many ≤ 8 → others ≤ 8 → gg_rank (tK f L) (tV f L) (tZ f L) (tq_b f L) f base many others s c = .inr q → gw q.1 := fun base many others hb hm ho h => by
    unfold gg_rank at h
    cases h1 : gq_num (tK f L) (tV f L) 0 many (c + 1) with
    | inl e => rw [h1] at h; cases h
    | inr p =>
      have g := (gq_num_go (tK0 rfl)).1 p h1
      rw [h1] at h; simp only at h
      cases h2 : gq_fig (tK f L) (tZ f L) others p.2 with
      | inl e => rw [h2] at h; cases h
      | inr u =>
        rw [h2] at h
        cases h
        exact gw_rank hw hb (by omega) ho (fig_digits h2)
  have hF : ∀ k hb, (k = 5 ∧ hb ≤ 101 ∨ k = 6) → gg_fld k s (gq_num (tK f L) (tV f L) 0 hb (c + 1)) = .inr q → gw q.1 := fun k hb hk h => by
    cases h1 : gq_num (tK f L) (tV f L) 0 hb (c + 1) with
    | inl e => rw [h1] at h; cases h
    | inr p =>
      have g := (gq_num_go (tK0 rfl)).1 p h1
      rw [h1] at h
      cases h
      exact gw_fld hw (by omega)
  have hG : ∀ k, (k = 7 ∨ k = 8) → gg_fld k s (gq_let (tK f L) (tV f L) (c + 1)) = .inr q → gw q.1 := fun k hk h => by
    cases h1 : gq_let (tK f L) (tV f L) (c + 1) with
    | inl e => rw [h1] at h; cases h
    | inr p => rw [h1] at h; cases h; exact gw_fld hw (by omega)
  unfold gg_line at h
  split at h
  · split at h
    · rename_i h8
      unfold gg_host at h
      cases h1 : gq_aft (tK f L) (tV f L) 19 0 10 (c + 1) with
      | inl e => rw [h1] at h; cases h
      | inr p =>
        rw [h1] at h; simp only at h
        cases h2 : gg_hrs (tK f L) (tV f L) p.2 with
        | inl e => rw [h2] at h; cases h
        | inr r =>
          have g := gg_hrs_go h2
          rw [h2] at h
          cases h
          exact gw_host hw h8 g.1 g.2.1 g.2.2.1
    · cases h
  split at h
  · split at h
    · rename_i h8
      unfold gg_guest at h
      cases h1 : gq_aft (tK f L) (tV f L) 22 1 5 (c + 1) with
      | inl e => rw [h1] at h; cases h
      | inr p =>
        have g1 := gq_aft_go (by omega) p h1
        rw [h1] at h; simp only at h
        cases h2 : gg_hrs (tK f L) (tV f L) p.2 with
        | inl e => rw [h2] at h; cases h
        | inr r =>
          rw [h2] at h; simp only at h
          cases h3 : gg_mk (tK f L) (tV f L) r.2 with
          | inl e => rw [h3] at h; cases h
          | inr u =>
            rw [h3] at h
            cases h
            exact gw_guest hw h8 g1.2.2.2 (by omega)
    · cases h
  split at h
  · exact hR _ _ _ (Or.inl rfl) hs1 hs2 h
  split at h
  · exact hR _ _ _ (Or.inr rfl) hs2 hs1 h
  split at h
  · exact hF _ _ (by omega) h
  split at h
  · exact hF _ _ (by omega) h
  split at h
  · exact hG _ (by omega) h
  split at h
  · exact hG _ (by omega) h
  cases h
theorem gw_rd : ∀ (n : Nat) (s s2 : gg_S) (c : Nat), gw s → gq_rd (tK f L) (gg_LN f L) n s c = .inr s2 → gw s2
  | 0, s, s2, c, _, h => by cases h
  | n + 1, s, s2, c, hw, h => by
    unfold gq_rd at h
    cases hl : gg_LN f L s c with
    | inl e => rw [hl] at h; cases h
    | inr q =>
      have g := gw_line hw hl
      rw [hl] at h
      simp only at h
      split at h
      · cases h; exact g
      · split at h
        · exact gw_rd n q.1 s2 _ g h
        · cases h
theorem gw_read {s2 : gg_S} (hw : gw s) (h : gg_read f L s = .inr s2) : gw s2 := by
  unfold gg_read gq_read at h
  split at h
  · cases h; exact hw
  · exact gw_rd 14 s s2 0 hw h
/-- the row that the ground leaves is a good one -/
theorem rw_ground {s2 : gg_S} (hT : T < 12) (hw : gw s) (h : gg_read f L s = .inr s2) : rw_ok (updI s2.2.2 0 (nI (T + 1))) := by
  obtain ⟨⟨g1, g2, g3, g4, g5⟩, h2, h3, h4, h5, h6, h7, h9, h10⟩ := gw_read hw h
  have e : ∀ j, j ≠ 0 → updI s2.2.2 0 (nI (T + 1)) j = s2.2.2 j := fun j a1 => updI_n a1
  refine ⟨s2.1, s2.2.1, T + 1, updI_e _ _ _, by omega, ⟨(e 3 (by omega)).trans g1, (e 4 (by omega)).trans g2, g3, g4, fun h h1 h2 => ⟨(e _ (by omega)).trans (g5 h h1 h2).1, (e _ (by omega)).trans (g5 h h1 h2).2⟩⟩, fun h hh => ?_, fun h hh => ?_, fun h g hh hg => ?_, fun h q a1 a2 a3 => ?_, fun h q hh hq => ?_, ?_, fun g hg => ?_, fun j hj => ?_⟩
  · rw [e _ (by omega)]; exact h2 h hh
  · rw [e _ (by omega)]; exact h3 h hh
  · rw [e _ (by omega), e _ (by omega)]; exact h4 h g hh hg
  · rw [e _ (by omega)]; exact h5 h q a1 a2 a3
  · rw [e _ (by omega)]; exact h6 h q hh hq
  · obtain ⟨r, r1, r2⟩ := h7
    exact ⟨r, r1, (e 5 (by omega)).trans r2⟩
  · rw [e _ (by omega)]; exact h9 g hg
  · rw [e _ (by omega)]; exact h10 j hj
end BU89
