/-! THE ACTS ARE KEPT -/
section BV90
variable {S S2 : mx_S} {I K : mx_I} {P P2 : mx_P} {x mo la A z s k j w : Nat} {D : lwD} {m : Nat → Int32} {v : Int32}
theorem rem_lt (hA : A < 12) (hj : j < 619) : vs_rem I mo A (mo + 4) (619 * k + j) = if k = A then I (mo + 1) j else I (mo + 4) (619 * k + j) := by
  unfold vs_rem
  rw [if_neg (by omega), mx_up_ne (by omega)]
  unfold vs_cq
  by_cases c : k = A
  · subst c
    rw [if_pos ⟨rfl, by omega, by omega⟩, if_pos rfl, show 0 + (619 * k + j - 619 * k) = j by omega]
  · rw [if_neg (by omega), if_neg c]
theorem rem_12 (hj : j < 619) (hk : k < 12) : vs_rem I mo 12 (mo + 4) (619 * k + j) = if k = 11 then I (mo + 1) j else I (mo + 4) (619 * (k + 1) + j) := by
  unfold vs_rem
  rw [if_pos rfl, mx_up_ne (by omega)]
  by_cases c : k = 11
  · subst c
    rw [if_pos rfl]
    unfold vs_cq
    rw [if_pos ⟨rfl, by omega, by omega⟩, mx_up_ne (by omega), if_neg (by omega), show 0 + (619 * 11 + j - 619 * 11) = j by omega]
  · rw [if_neg c]
    unfold vs_cq
    rw [if_neg (by omega), mx_up_ne (by omega), if_pos ⟨rfl, by omega, by omega⟩, show 619 + (619 * k + j - 0) = 619 * (k + 1) + j by omega]
theorem rem_6 : vs_rem I mo A mo 6 = nI (if A = 12 then 12 else A + 1) := by
  unfold vs_rem
  split
  · simp [mx_up]
  · simp [mx_up]
theorem rem_row : vs_rem I mo A (mo + 1) = I (mo + 1) := vs_rem_o (by omega) (by omega)
/-- the acts' rows once one more is kept, the present row being written below 619 only -/
theorem ac_rem_lt (hA : A < 12) (hK4 : K (mo + 4) = vs_rem I mo A (mo + 4)) (hK1 : ∀ j, 619 ≤ j → K (mo + 1) j = I (mo + 1) j) : ac_row K mo A = I (mo + 1) ∧ ∀ k, k ≠ A → ac_row K mo k = ac_row I mo k := by
  refine ⟨funext fun j => ?_, fun k hk => funext fun j => ?_⟩
  · unfold ac_row
    by_cases c : j < 619
    · rw [if_pos c, hK4, rem_lt hA c, if_pos rfl]
    · rw [if_neg c]; exact hK1 j (by omega)
  · unfold ac_row
    by_cases c : j < 619
    · rw [if_pos c, if_pos c, hK4, rem_lt hA c, if_neg hk]
    · rw [if_neg c, if_neg c]; exact hK1 j (by omega)
theorem ac_rem_12 (hK4 : K (mo + 4) = vs_rem I mo 12 (mo + 4)) (hK1 : ∀ j, 619 ≤ j → K (mo + 1) j = I (mo + 1) j) : ac_row K mo 11 = I (mo + 1) ∧ ∀ k, k < 11 → ac_row K mo k = ac_row I mo (k + 1) := by
  refine ⟨funext fun j => ?_, fun k hk => funext fun j => ?_⟩
  · unfold ac_row
    by_cases c : j < 619
    · rw [if_pos c, hK4, rem_12 c (by omega), if_pos rfl]
    · rw [if_neg c]; exact hK1 j (by omega)
  · unfold ac_row
    by_cases c : j < 619
    · rw [if_pos c, if_pos c, hK4, rem_12 c (by omega), if_neg (by omega)]
    · rw [if_neg c, if_neg c]; exact hK1 j (by omega)
theorem st_rel.c14 (h : st_rel I s m) (e : ∀ c, s ≤ c → c < s + 14 → K c = I c) : st_rel K s m := by
  unfold st_rel pe_rel at h ⊢
  rw [e s (by omega) (by omega), e (s + 1) (by omega) (by omega), e (s + 1 + 1) (by omega) (by omega), e (s + 1 + 2) (by omega) (by omega), e (s + 1 + 3) (by omega) (by omega), e (s + 1 + 4) (by omega) (by omega), e (s + 1 + 5) (by omega) (by omega), e (s + 1 + 6) (by omega) (by omega), e (s + 1 + 7) (by omega) (by omega), e (s + 11) (by omega) (by omega), e (s + 12) (by omega) (by omega), e (s + 13) (by omega) (by omega)]
  exact h
/-- a State and its row stay where their cells do -/
theorem sa_ok.cg (h : sa_ok S I P s m la D) (e : ∀ c, s ≤ c → c < s + 14 → K c = I c) (eP : P2 s 2 = P s 2) (el : la_is S2 P2 K la D) : sa_ok S2 K P2 s m la D := by
  obtain ⟨h1, ⟨N, z, h2⟩, h3, -, h5, h6⟩ := h
  exact ⟨h1.c14 e, ⟨N, z, h2.cgr (e (s + 9) (by omega) (by omega)) (e (s + 9 + 1) (by omega) (by omega))⟩, eP.trans h3, el, h5, h6⟩
/-- a State that was taken from s -/
theorem sa_ok.take {r : Nat} (h : sa_ok S I P s m la D) (hd : r + 15 ≤ s ∨ s + 15 ≤ r) (e : ∀ c, r ≤ c → c < r + 15 → K c = vs_stT I r s c) (eP : P2 r 2 = some la) (el : la_is S2 P2 K la D) : sa_ok S2 K P2 r m la D := by
  obtain ⟨h1, ⟨N, z, h2⟩, h3, -, h5, h6⟩ := h
  exact ⟨(vs_stT_rel (s := r) (r := s) hd h1).congr (fun c a b => e c (by omega) (by omega)), ⟨N, z, (vs_stT_log (s := r) (r := s) hd h2).cgr (e (r + 9) (by omega) (by omega)) (e (r + 9 + 1) (by omega) (by omega))⟩, eP, el, h5, h6⟩
/-- the past once the present is kept -/
theorem ps_keep (h : ps_ok S I P x mo la D) (hn : sa_ok S I P (x + 23) (I (mo + 1)) la D) (hA : I (x + 68) 1 = nI A) (hA12 : A ≤ 12) (hz : I (x + 68) 2 = nI z) (hz12 : z < 12) (e1 : ∀ c, x + 70 ≤ c → c < x + 250 → K c = vs_stT I (x + 70 + 15 * z) (x + 23) c) (e2 : K (x + 68) 1 = nI (vs_mn A)) (e3 : K (x + 68) 2 = nI (vs_nx z)) (e4 : K mo 6 = nI (if A = 12 then 12 else A + 1)) (e5 : K (mo + 4) = vs_rem I mo A (mo + 4)) (e6 : ∀ j, 619 ≤ j → K (mo + 1) j = I (mo + 1) j) (eP : P2 (x + 70 + 15 * z) 2 = some la) (ePo : ∀ r, r < 12 → r ≠ z → P2 (x + 70 + 15 * r) 2 = P (x + 70 + 15 * r) 2) (el : la_is S2 P2 K la D) : ps_ok S2 K P2 x mo la D := by
  obtain ⟨A', z', a1, a2, a3, a4, a5, a6⟩ := h
  have eA : A' = A := (nI_eq (by omega) (by omega)).mp (a1.symm.trans hA)
  have ez : z' = z := (nI_eq (by omega) (by omega)).mp (a2.symm.trans hz)
  subst eA
  subst ez
  have hm : vs_mn A' = if A' = 12 then 12 else A' + 1 := by unfold vs_mn; by_cases c : A' = 12 <;> simp [c] <;> omega
  have hm12 : vs_mn A' ≤ 12 ∧ (A' = 12 → vs_mn A' = 12) ∧ (A' < 12 → vs_mn A' = A' + 1) := by rw [hm]; split <;> omega
  have hx : vs_nx z' = (z' + 1) % 12 := by unfold vs_nx; split <;> omega
  refine ⟨vs_mn A', vs_nx z', e2, e3, by rw [hm]; exact e4, hm12.1, by rw [hx]; exact Nat.mod_lt _ (by omega), fun j hj => ?_⟩
  obtain ⟨r0, r1⟩ := rg_at_s (z := z') (z' := vs_nx z') (j := j) hz12 hx (by omega)
  by_cases c : j = 0
  · subst c
    rw [r0]
    have er : ac_row K mo (vs_mn A' - 1 - 0) = I (mo + 1) := by
      by_cases d : A' = 12
      · subst d
        rw [hm12.2.1 rfl]
        exact (ac_rem_12 e5 e6).1
      · rw [hm12.2.2 (by omega)]
        exact (ac_rem_lt (by omega) e5 e6).1
    rw [er]
    exact hn.take (r := x + 70 + 15 * z') (by omega) (fun q b1 b2 => e1 q (by omega) (by omega)) eP el
  · obtain ⟨r2, r3⟩ := r1 (by omega)
    rw [r2]
    have hlt := rg_at_lt (z := z') (A := j - 1)
    have er : ac_row K mo (vs_mn A' - 1 - j) = ac_row I mo (A' - 1 - (j - 1)) := by
      by_cases d : A' = 12
      · subst d
        rw [hm12.2.1 rfl]
        have := (ac_rem_12 e5 e6).2 (12 - 1 - j) (by have := hm12.2.1 rfl; omega)
        rw [this, show 12 - 1 - j + 1 = 12 - 1 - (j - 1) by have := hm12.2.1 rfl; omega]
      · have h9 := hm12.2.2 (by omega)
        rw [h9]
        have := (ac_rem_lt (by omega) e5 e6).2 (A' + 1 - 1 - j) (by omega)
        rw [this, show A' + 1 - 1 - j = A' - 1 - (j - 1) by omega]
    rw [er]
    have hj9 : j - 1 < A' := by
      by_cases d : A' = 12
      · have := hm12.2.1 d; omega
      · have := hm12.2.2 (by omega); omega
    refine (a6 (j - 1) hj9).cg (fun q b1 b2 => ?_) (ePo _ hlt r3) el
    rw [e1 q (by omega) (by omega), vs_stT_o (by omega)]
theorem rg_at_u {j : Nat} (hz : z < 12) (hj : j < 11) : rg_at ((z + 11) % 12) j = rg_at z (j + 1) ∧ rg_at z 0 = (z + 11) % 12 := by
  unfold rg_at
  omega
/-- the past once the latest act is undone -/
theorem ps_undo {I2 : mx_I} (h : ps_ok S I P x mo la D) (hA : I (x + 68) 1 = nI A) (h0 : 0 < A) (hA12 : A ≤ 12) (hz : I (x + 68) 2 = nI z) (hz12 : z < 12) (eI : ∀ c, c ≠ x + 68 → I2 c = I c) (e0 : ∀ c, x + 70 ≤ c → c < x + 250 → K c = I c) (eN : ∀ c, x + 23 ≤ c → c < x + 38 → K c = vs_stT I2 (x + 23) (x + 70 + 15 * ((z + 11) % 12)) c) (e2 : K (x + 68) 1 = nI (A - 1)) (e3 : K (x + 68) 2 = nI ((z + 11) % 12)) (e4 : K mo 6 = nI (A - 1)) (e5 : K (mo + 4) = I (mo + 4)) (e6 : K (mo + 1) = ac_row I mo (A - 1)) (eP : P2 (x + 23) 2 = some la) (ePo : ∀ r, r < 12 → P2 (x + 70 + 15 * r) 2 = P (x + 70 + 15 * r) 2) (el : la_is S2 P2 K la D) (el0 : la_is S P I2 la D) : ps_ok S2 K P2 x mo la D ∧ sa_ok S2 K P2 (x + 23) (K (mo + 1)) la D := by
  obtain ⟨A', z', a1, a2, a3, a4, a5, a6⟩ := h
  have eA : A' = A := (nI_eq (by omega) (by omega)).mp (a1.symm.trans hA)
  have ez : z' = z := (nI_eq (by omega) (by omega)).mp (a2.symm.trans hz)
  subst eA
  subst ez
  have hz2 : (z' + 11) % 12 < 12 := Nat.mod_lt _ (by omega)
  have hr : ∀ k, ac_row K mo k = ac_row I mo k := fun k => funext fun j => by
    unfold ac_row
    by_cases c : j < 619
    · rw [if_pos c, if_pos c, e5]
    · rw [if_neg c, if_neg c, e6]
      unfold ac_row
      rw [if_neg c]
  refine ⟨⟨A' - 1, (z' + 11) % 12, e2, e3, e4, by omega, hz2, fun j hj => ?_⟩, ?_⟩
  · rw [(rg_at_u (z := z') (j := j) hz12 (by omega)).1, hr, show A' - 1 - 1 - j = A' - 1 - (j + 1) by omega]
    have hlt := rg_at_lt (z := z') (A := j + 1)
    exact (a6 (j + 1) (by omega)).cg (fun q b1 b2 => e0 q (by omega) (by omega)) (ePo _ hlt) el
  · have h9 := a6 0 h0
    rw [(rg_at_u (z := z') (j := 0) hz12 (by omega)).2, Nat.sub_zero] at h9
    rw [e6]
    exact sa_ok.take (r := x + 23) (h9.cg (K := I2) (S2 := S) (P2 := P) (fun q b1 b2 => eI q (by omega)) rfl el0) (by omega) (fun q b1 b2 => eN q (by omega) (by omega)) eP el
/-- the past stays where nothing of it is touched -/
theorem ps_ok.cg (h : ps_ok S I P x mo la D) (e0 : ∀ c, x + 70 ≤ c → c < x + 250 → K c = I c) (e1 : K (x + 68) 1 = I (x + 68) 1) (e2 : K (x + 68) 2 = I (x + 68) 2) (e4 : K mo 6 = I mo 6) (e5 : K (mo + 4) = I (mo + 4)) (e6 : ∀ j, 619 ≤ j → K (mo + 1) j = I (mo + 1) j) (ePo : ∀ r, r < 12 → P2 (x + 70 + 15 * r) 2 = P (x + 70 + 15 * r) 2) (el : la_is S2 P2 K la D) : ps_ok S2 K P2 x mo la D := by
  obtain ⟨A, z, a1, a2, a3, a4, a5, a6⟩ := h
  refine ⟨A, z, e1.trans a1, e2.trans a2, e4.trans a3, a4, a5, fun j hj => ?_⟩
  have hr : ∀ k, ac_row K mo k = ac_row I mo k := fun k => funext fun j => by
    unfold ac_row
    by_cases c : j < 619
    · rw [if_pos c, if_pos c, e5]
    · rw [if_neg c, if_neg c]; exact e6 j (by omega)
  have hlt := rg_at_lt (z := z) (A := j)
  rw [hr]
  exact (a6 j hj).cg (fun q b1 b2 => e0 q (by omega) (by omega)) (ePo _ hlt) el
/-- the past is forgotten -/
theorem ps_ok.no (e1 : K (x + 68) 1 = nI 0) (e2 : ∃ z, z < 12 ∧ K (x + 68) 2 = nI z) (e4 : K mo 6 = nI 0) : ps_ok S2 K P2 x mo la D := by
  obtain ⟨z, hz, e3⟩ := e2
  exact ⟨0, z, e1, e3, e4, by omega, hz, fun j hj => absurd hj (Nat.not_lt_zero j)⟩
theorem ps_ok.fl (h : ps_ok S I P x mo la D) : ∃ A z, I (x + 68) 1 = nI A ∧ I (x + 68) 2 = nI z ∧ I mo 6 = nI A ∧ A ≤ 12 ∧ z < 12 := by
  obtain ⟨A, z, a1, a2, a3, a4, a5, -⟩ := h
  exact ⟨A, z, a1, a2, a3, a4, a5⟩
end BV90
