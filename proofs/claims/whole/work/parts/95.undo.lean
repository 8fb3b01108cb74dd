/-! UNDO KEEPS ALL -/
section CA95
variable {t x la A z : Nat} {S : mx_S} {I K : mx_I} {P : mx_P} {D : lwD}
/-- what undo leaves on both sides, when A acts are kept and z comes next -/
def un_K (I : mx_I) (x A z : Nat) : mx_I := vs_cq (mx_up (mx_up (vs_stT (mx_up (mx_up I (x + 68) 2 (nI ((z + 11) % 12))) (x + 68) 1 (nI (A - 1))) (x + 23) (x + 70 + 15 * ((z + 11) % 12))) (x + 277) 0 (nI 0)) (x + 277) 6 (nI (A - 1))) (x + 277 + 4) (619 * (A - 1)) (x + 277 + 1) 0 619
theorem un_o {c : Nat} (h1 : c < x + 23 ∨ x + 37 ≤ c) (h2 : c ≠ x + 68) (h3 : c ≠ x + 277) (h4 : c ≠ x + 278) : un_K I x A z c = I c := by
  unfold un_K
  rw [vs_cq_ne (by omega), mx_up_ne h3, mx_up_ne h3, vs_stT_o (by omega), mx_up_ne h2, mx_up_ne h2]
theorem un_m {k : Nat} (h : k ≠ 0 ∧ k ≠ 6) : un_K I x A z (x + 277) k = I (x + 277) k := by
  unfold un_K
  rw [vs_cq_ne (by omega), mu_n h.2, mu_n h.1, vs_stT_o (by omega), mx_up_ne (by omega), mx_up_ne (by omega)]
theorem al_undo (h : al_ok t S I P x) (hA : I (x + 68) 1 = nI A) (h0 : 0 < A) (hA12 : A ≤ 12) (hz : I (x + 68) 2 = nI z) (hz12 : z < 12) : ∃ la, P (x + 70 + 15 * ((z + 11) % 12)) 2 = some la ∧ al_ok t S (un_K I x A z) (mx_upP P (x + 23) 2 (some la)) x := by
  obtain ⟨h1, h2, ⟨la, D, ha, hs, hp⟩, ⟨b, hb1, hb2, hb3⟩, ⟨f, L, hf, hg⟩, h6⟩ := h
  have hz2 : (z + 11) % 12 < 12 := Nat.mod_lt _ (by omega)
  have e : ∀ c, (c < x + 23 ∨ x + 37 ≤ c) → c ≠ x + 68 → c ≠ x + 277 → c ≠ x + 278 → un_K I x A z c = I c := fun c a b d g => un_o a b d g
  have hl : la_is S (mx_upP P (x + 23) 2 (some la)) (un_K I x A z) la D := la_ne (hs.2.2.2.1.sm (fun c a b => ⟨rfl, e c (by have := ha.1; omega) (by have := ha.1; omega) (by have := ha.1; omega) (by have := ha.1; omega), rfl⟩)) (by have := ha.1; omega)
  have hl0 : la_is S P (mx_up (mx_up I (x + 68) 2 (nI ((z + 11) % 12))) (x + 68) 1 (nI (A - 1))) la D := hs.2.2.2.1.sm (fun c a b => ⟨rfl, by rw [mx_up_ne (by have := ha.1; omega), mx_up_ne (by have := ha.1; omega)], rfl⟩)
  have hlaS : P (x + 70 + 15 * ((z + 11) % 12)) 2 = some la := by
    obtain ⟨A', z', a1, a2, a3, a4, a5, a6⟩ := hp
    have eA : A' = A := (nI_eq (by omega) (by omega)).mp (a1.symm.trans hA)
    have ez : z' = z := (nI_eq (by omega) (by omega)).mp (a2.symm.trans hz)
    subst eA; subst ez
    have := (a6 0 h0).2.2.1
    rw [(rg_at_u (z := z') (j := 0) hz12 (by omega)).2] at this
    exact this
  obtain ⟨q1, q2⟩ := ps_undo (K := un_K I x A z) (P2 := mx_upP P (x + 23) 2 (some la)) (S2 := S) (I2 := mx_up (mx_up I (x + 68) 2 (nI ((z + 11) % 12))) (x + 68) 1 (nI (A - 1))) hp hA h0 hA12 hz hz12 (fun c hc => by rw [mx_up_ne hc, mx_up_ne hc]) (fun c a b => e c (by omega) (by omega) (by omega) (by omega)) (fun c a b => by unfold un_K; rw [vs_cq_ne (by omega), mx_up_ne (by omega), mx_up_ne (by omega)]) (by unfold un_K; rw [vs_cq_ne (by omega), mx_up_ne (by omega), mx_up_ne (by omega), vs_stT_o (by omega)]; exact mu_e) (by unfold un_K; rw [vs_cq_ne (by omega), mx_up_ne (by omega), mx_up_ne (by omega), vs_stT_o (by omega), mu_n (by omega)]; exact mu_e) (by unfold un_K; rw [vs_cq_ne (by omega)]; exact mu_e) (e (x + 277 + 4) (by omega) (by omega) (by omega) (by omega)) (funext fun j => by
    unfold un_K ac_row
    by_cases c : j < 619
    · rw [vs_cq_in (by omega) (by omega), if_pos c, show 619 * (A - 1) + (j - 0) = 619 * (A - 1) + j by omega, mx_up_ne (by omega), mx_up_ne (by omega), vs_stT_o (by omega), mx_up_ne (by omega), mx_up_ne (by omega)]
    · rw [if_neg c]
      unfold vs_cq
      rw [if_neg (by omega), mx_up_ne (by omega), mx_up_ne (by omega), vs_stT_o (by omega), mx_up_ne (by omega), mx_up_ne (by omega)]) (by simp [mx_upP]) (fun r hr => by rw [mx_upP_ne (by omega)]) hl hl0
  refine ⟨la, hlaS, h1, h2.law (by omega), ⟨la, D, ha, q2, q1⟩, ⟨b, (congrFun (e x (by omega) (by omega) (by omega) (by omega)) 6).trans hb1, (un_m (by omega)).trans hb2, fun hb => ?_⟩, ⟨f, L, ⟨?_, ?_, hf.2.2⟩, ⟨(un_m (by omega)).trans hg.1, hg.2.1, hg.2.2.1, ?_⟩⟩, ?_⟩
  · obtain ⟨la2, D2, ha2, hs2⟩ := hb3 hb
    refine ⟨la2, D2, ha2, ?_⟩
    rw [e (x + 279) (by omega) (by omega) (by omega) (by omega)]
    exact hs2.cg (fun c a b => e c (by omega) (by omega) (by omega) (by omega)) (by rw [mx_upP_ne (by omega)]) (la_ne (hs2.2.2.2.1.sm (fun c a b => ⟨rfl, e c (by have := ha2.1; omega) (by have := ha2.1; omega) (by have := ha2.1; omega) (by have := ha2.1; omega), rfl⟩)) (by have := ha2.1; omega))
  · intro k hk
    rw [show un_K I x A z (x + 250 + 1) = I (x + 250 + 1) from e (x + 250 + 1) (by omega) (by omega) (by omega) (by omega)]; exact hf.1 k hk
  · exact (congrFun (e (x + 250) (by omega) (by omega) (by omega) (by omega)) 1).trans hf.2.1
  · intro k hk
    rw [show un_K I x A z (x + 277 + 5) = I (x + 277 + 5) from e (x + 277 + 5) (by omega) (by omega) (by omega) (by omega)]; exact hg.2.2.2 k hk
  · rw [un_m (by omega), e (x + 250) (by omega) (by omega) (by omega) (by omega)]; exact h6
end CA95
