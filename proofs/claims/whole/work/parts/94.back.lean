/-! BACK KEEPS ALL -/
section BZ94
variable {t x la : Nat} {S : mx_S} {I K : mx_I} {P : mx_P} {D : lwD}
/-- what back leaves on both sides, when there is an image -/
def bk_K (I : mx_I) (x : Nat) : mx_I := mx_up (vs_cq (mx_up (mx_up (vs_stT I (x + 23) (x + 53)) (x + 68) 1 (nI 0)) (x + 277) 0 (nI 0)) (x + 277 + 2) 0 (x + 277 + 1) 0 1019) (x + 277) 6 (nI 0)
theorem bk_o {c : Nat} (h1 : c < x + 23 ∨ x + 37 ≤ c) (h2 : c ≠ x + 68) (h3 : c ≠ x + 277) (h4 : c ≠ x + 278) : bk_K I x c = I c := by
  unfold bk_K
  rw [mx_up_ne h3, vs_cq_ne (by omega), mx_up_ne h3, mx_up_ne h2, vs_stT_o (by omega)]
theorem bk_m {k : Nat} (h : k ≠ 0 ∧ k ≠ 6) : bk_K I x (x + 277) k = I (x + 277) k := by
  unfold bk_K
  rw [mu_n h.2, vs_cq_ne (by omega), mu_n h.1, mx_up_ne (by omega), vs_stT_o (by omega)]
theorem al_back (h : al_ok t S I P x) (hi : I x 6 = nI 1) : ∃ la, P (x + 53) 2 = some la ∧ al_ok t S (bk_K I x) (mx_upP P (x + 23) 2 (some la)) x := by
  obtain ⟨h1, h2, ⟨la0, D0, ha0, hs0, hp⟩, ⟨b, hb1, hb2, hb3⟩, ⟨f, L, hf, hg⟩, h6⟩ := h
  have hbt : b = true := by
    cases b with
    | true => rfl
    | false => rw [hi] at hb1; exact absurd hb1 (by decide)
  obtain ⟨la, D, ha, hs⟩ := hb3 hbt
  have e : ∀ c, (c < x + 23 ∨ x + 37 ≤ c) → c ≠ x + 68 → c ≠ x + 277 → c ≠ x + 278 → bk_K I x c = I c := fun c a b d g => bk_o a b d g
  have hl : la_is S (mx_upP P (x + 23) 2 (some la)) (bk_K I x) la D := la_ne (hs.2.2.2.1.sm (fun c a b => ⟨rfl, e c (by have := ha.1; omega) (by have := ha.1; omega) (by have := ha.1; omega) (by have := ha.1; omega), rfl⟩)) (by have := ha.1; omega)
  have hq : (mx_upP P (x + 23) 2 (some la)) (x + 53) 2 = P (x + 53) 2 := by rw [mx_upP_ne (by omega)]
  have r1 : bk_K I x (x + 279) = I (x + 279) := e _ (by omega) (by omega) (by omega) (by omega)
  have r2 : ∀ k, k < 1019 → bk_K I x (x + 278) k = I (x + 279) k := fun k hk => by
    unfold bk_K
    rw [mx_up_ne (by omega), vs_cq_in (by omega) (by omega), show 0 + (k - 0) = k by omega, mx_up_ne (by omega), mx_up_ne (by omega), vs_stT_o (by omega)]
  obtain ⟨A, z, f1, f2, f3, f4, f5⟩ := hp.fl
  refine ⟨la, hs.2.2.1, h1, h2.law (by omega), ⟨la, D, ha, ?_, ps_ok.no ?_ ⟨z, f5, ?_⟩ ?_⟩, ⟨true, ?_, ?_, fun _ => ⟨la, D, ha, ?_⟩⟩, ⟨f, L, ⟨?_, ?_, hf.2.2⟩, ⟨(bk_m (by omega)).trans hg.1, hg.2.1, hg.2.2.1, ?_⟩⟩, ?_⟩
  · exact (hs.take (r := x + 23) (by omega) (fun c a b => by
      unfold bk_K
      rw [mx_up_ne (by omega), vs_cq_ne (by omega), mx_up_ne (by omega), mx_up_ne (by omega)]) (by simp [mx_upP]) hl).row r2
  · unfold bk_K
    rw [mx_up_ne (by omega), vs_cq_ne (by omega), mx_up_ne (by omega)]; exact mu_e
  · unfold bk_K
    rw [mx_up_ne (by omega), vs_cq_ne (by omega), mx_up_ne (by omega), mu_n (by omega), vs_stT_o (by omega)]; exact f2
  · exact mu_e
  · rw [e x (by omega) (by omega) (by omega) (by omega), hb1, hbt]
  · rw [bk_m (by omega), hb2, hbt]
  · rw [r1]; exact hs.cg (fun c a b => e c (by omega) (by omega) (by omega) (by omega)) hq hl
  · intro k hk
    rw [show bk_K I x (x + 250 + 1) = I (x + 250 + 1) from e (x + 250 + 1) (by omega) (by omega) (by omega) (by omega)]; exact hf.1 k hk
  · exact (congrFun (e (x + 250) (by omega) (by omega) (by omega) (by omega)) 1).trans hf.2.1
  · intro k hk
    rw [show bk_K I x (x + 277 + 5) = I (x + 277 + 5) from e (x + 277 + 5) (by omega) (by omega) (by omega) (by omega)]; exact hg.2.2.2 k hk
  · rw [bk_m (by omega), e (x + 250) (by omega) (by omega) (by omega) (by omega)]; exact h6
end BZ94
