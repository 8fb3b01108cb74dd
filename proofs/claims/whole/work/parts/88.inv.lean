/-! WHAT HOLDS BETWEEN TWO CALLS: rows, states, the past -/
/-- a row as the reference may hold it -/
def rw_ok (m : Nat → Int32) : Prop := ∃ H G T, m 0 = nI T ∧ T ≤ 12 ∧ gg_in (H, G, m) ∧ gl_ok m ∧ hr_ok m ∧ rk9 m ∧ bk_ok m H ∧ br_ok m G ∧ rn_ok m ∧ sy_ok m G ∧ by_ok m
/-- the row says which law it is, and how many lines it has -/
def tx2 (D : lwD) (m : Nat → Int32) : Prop := tx_law D m ∧ lwL D = m 1
/-- the State at s is the row m, its law at la is D -/
def sa_ok (S : mx_S) (I : mx_I) (P : mx_P) (s : Nat) (m : Nat → Int32) (la : Nat) (D : lwD) : Prop := st_rel I s m ∧ (∃ N z, lo_rel I (s + 9) m N z) ∧ P s 2 = some la ∧ la_is S P I la D ∧ rw_ok m ∧ tx2 D m
/-- the row of the act k: what was kept of it, the law's text as it stands -/
def ac_row (I : mx_I) (mo k : Nat) : Nat → Int32 := fun j => if j < 619 then I (mo + 4) (619 * k + j) else I (mo + 1) j
/-- the place in the ring of the act that lies j acts back -/
def rg_at (z j : Nat) : Nat := (z + 11 - j) % 12
/-- the ring of States holds the acts -/
def ps_ok (S : mx_S) (I : mx_I) (P : mx_P) (x mo la : Nat) (D : lwD) : Prop := ∃ A z, I (x + 68) 1 = nI A ∧ I (x + 68) 2 = nI z ∧ I mo 6 = nI A ∧ A ≤ 12 ∧ z < 12 ∧ ∀ j, j < A → sa_ok S I P (x + 70 + 15 * rg_at z j) (ac_row I mo (A - 1 - j)) la D
section BT88
variable {l : Launch} {E : mx_Env} {t : Nat} {S : mx_S} {I K : mx_I} {P : mx_P} {J : mx_G} {x mo la A z : Nat} {D : lwD} {m : Nat → Int32}
theorem m0_lo9 {k : Nat} (h : k < 67 ∧ k ≠ 1 ∧ k ≠ 10) : m0_up 64 k = nI 0 := m0_z (by omega)
theorem m0_ok : rw_ok (m0_up 64) := by
  refine ⟨0, 0, 0, m0_z (by omega), by omega, ⟨m0_z (k := 3) (by omega), m0_z (k := 4) (by omega), by show 0 ≤ 8; omega, by show 0 ≤ 8; omega, fun h h1 h2 => ⟨m0_z (k := 11 + 4 * h + 2) (by omega), m0_z (k := 11 + 4 * h + 3) (by omega)⟩⟩, fun h hh => ⟨0, by omega, m0_z (by omega)⟩, fun h hh => ⟨0, by omega, m0_z (by omega)⟩, fun h g hh hg => ⟨⟨5, by omega, m0_5 (by omega)⟩, ⟨5, by omega, m0_5 (by omega)⟩⟩, fun h q h1 h2 h3 => m0_b (by omega), fun h q hh hq => Or.inl (m0_b (by omega)), ⟨0, by omega, m0_z (by omega)⟩, fun g hg => absurd hg (Nat.not_lt_zero g), fun k hk => ⟨0, by omega, m0_z (by omega)⟩⟩
theorem tx2.cg {m' : Nat → Int32} (h : tx2 D m) (e1 : m' 1 = m 1) (e2 : m' 2 = m 2) (e3 : ∀ k, 619 ≤ k → m' k = m k) : tx2 D m' := ⟨h.1.cg e1 e2 e3, h.2.trans e1.symm⟩
theorem m0_tx : tx2 lw_D0 (m0_up 64) := ⟨Or.inl ⟨by show (-1 : Int32) < nI 1; decide, rfl⟩, rfl⟩
theorem sa_new (h : st_new S I P x la) (hl : la_is S P I la lw_D0) : sa_ok S I P x (m0_up 64) la lw_D0 := ⟨h.2.2.1, ⟨0, 0, h.2.2.2⟩, h.2.1, hl, m0_ok, m0_tx⟩
theorem ps_new (h1 : I (x + 68) 1 = nI 0) (h2 : I (x + 68) 2 = nI 0) (h3 : I mo 6 = nI 0) : ps_ok S I P x mo la D := ⟨0, 0, h1, h2, h3, by omega, by omega, fun j hj => absurd hj (Nat.not_lt_zero j)⟩
theorem rg_at_lt : rg_at z A < 12 := Nat.mod_lt _ (by omega)
/-- the ring after one more act is kept at z -/
theorem rg_at_s {z' j : Nat} (hz : z < 12) (hz' : z' = (z + 1) % 12) (hj : j < 12) : rg_at z' 0 = z ∧ (1 ≤ j → rg_at z' j = rg_at z (j - 1) ∧ rg_at z (j - 1) ≠ z) := by
  subst hz'
  unfold rg_at
  omega
theorem rw_ok.gin (h : rw_ok m) : ∃ H G T, m 3 = nI H ∧ m 4 = nI G ∧ H ≤ 8 ∧ G ≤ 8 ∧ m 0 = nI T ∧ T ≤ 12 ∧ gg_in (H, G, m) := by
  obtain ⟨H, G, T, h1, h2, h3, -⟩ := h
  exact ⟨H, G, T, h3.1, h3.2.1, h3.2.2.1, h3.2.2.2.1, h1, h2, h3⟩
end BT88
