/-! IMAGE AND BACK KEEP ALL -/
section BY93
variable {t x la : Nat} {S : mx_S} {I K : mx_I} {P : mx_P} {D : lwD}
theorem vs_cq_in {a o b p j k : Nat} (h1 : p ≤ k) (h2 : k < p + j) : vs_cq I a o b p j b k = I a (o + (k - p)) := by
  unfold vs_cq; rw [if_pos ⟨rfl, h1, h2⟩]
theorem la_ne {a k : Nat} {v : Option Nat} (h : la_is S P I la D) (ha : a ≠ la) : la_is S (mx_upP P a k v) I la D := by
  obtain ⟨h1, h2, h3⟩ := h
  refine ⟨?_, h2, h3⟩
  unfold la_ok at h1 ⊢
  rw [mx_upP_ne (Ne.symm ha)]; exact h1
/-- the shapes once a State's law is written -/
theorem al_sh.law {r : Nat} (h : al_sh S P x) (hr : r = x + 23 ∨ r = x + 38 ∨ r = x + 53 ∨ r = x + 257) : al_sh S (mx_upP P r 2 (some la)) x := by
  obtain ⟨h1, h2, h3, h4, h5, h6, h7, h8, h9, h10, h11, h12, h13, h14⟩ := h
  have e : ∀ u v, (v ≤ r ∨ r < u) → mx_sm u v S S (fun _ _ => 0) (fun _ _ => 0) P (mx_upP P r 2 (some la)) := fun u v huv c a b => ⟨rfl, rfl, mx_upP_ne (by omega)⟩
  refine ⟨h1.upP (by omega), h2.sm (e _ _ (by omega)), h3.sm (e _ _ (by omega)), h4.sm (e _ _ (by omega)), st_ok_law h5 (by omega), st_ok_law h6 (by omega), st_ok_law h7 (by omega), h8.sm (e _ _ (by omega)), h9.sm (e _ _ (by omega)), h10.sm (e _ _ (by omega)), st_ok_law h11 (by omega), h12.sm (e _ _ (by omega)), ?_, h14⟩
  unfold mo_ok at h13 ⊢
  rw [mx_upP_ne (by omega)]; exact h13
/-- what image leaves on both sides -/
def im_K (I : mx_I) (x : Nat) : mx_I := mx_up (vs_cq (mx_up (mx_up (vs_stT I (x + 53) (x + 23)) x 6 (nI 1)) (x + 277) 0 (nI 0)) (x + 277 + 1) 0 (x + 277 + 2) 0 1019) (x + 277) 3 (nI 1)
theorem im_o {c : Nat} (h1 : c < x + 53 ∨ x + 67 ≤ c) (h2 : c ≠ x) (h3 : c ≠ x + 277) (h4 : c ≠ x + 279) : im_K I x c = I c := by
  unfold im_K
  rw [mx_up_ne h3, vs_cq_ne (by omega), mx_up_ne h3, mx_up_ne h2, vs_stT_o (by omega)]
theorem im_m {k : Nat} (h : k ≠ 0 ∧ k ≠ 3) : im_K I x (x + 277) k = I (x + 277) k := by
  unfold im_K
  rw [mu_n h.2, vs_cq_ne (by omega), mu_n h.1, mx_up_ne (by omega), vs_stT_o (by omega)]
theorem al_image (h : al_ok t S I P x) : ∃ la, P (x + 23) 2 = some la ∧ al_ok t S (im_K I x) (mx_upP P (x + 53) 2 (some la)) x := by
  obtain ⟨h1, h2, ⟨la, D, ha, hs, hp⟩, hb, ⟨f, L, hf, hg⟩, h6⟩ := h
  have e : ∀ c, (c < x + 53 ∨ x + 67 ≤ c) → c ≠ x → c ≠ x + 277 → c ≠ x + 279 → im_K I x c = I c := fun c a b d g => im_o a b d g
  have hl : la_is S (mx_upP P (x + 53) 2 (some la)) (im_K I x) la D := la_ne (hs.2.2.2.1.sm (fun c a b => ⟨rfl, e c (by have := ha.1; omega) (by have := ha.1; omega) (by have := ha.1; omega) (by have := ha.1; omega), rfl⟩)) (by have := ha.1; omega)
  have hq : (mx_upP P (x + 53) 2 (some la)) (x + 23) 2 = P (x + 23) 2 := by rw [mx_upP_ne (by omega)]
  have r1 : im_K I x (x + 278) = I (x + 278) := e _ (by omega) (by omega) (by omega) (by omega)
  have r2 : ∀ k, k < 1019 → im_K I x (x + 279) k = I (x + 278) k := fun k hk => by
    unfold im_K
    rw [mx_up_ne (by omega), vs_cq_in (by omega) (by omega), show 0 + (k - 0) = k by omega, mx_up_ne (by omega), mx_up_ne (by omega), vs_stT_o (by omega)]
  refine ⟨la, hs.2.2.1, h1, h2.law (by omega), ⟨la, D, ha, ?_, ?_⟩, ⟨true, ?_, ?_, fun _ => ⟨la, D, ha, ?_⟩⟩, ⟨f, L, ⟨?_, ?_, hf.2.2⟩, ⟨(im_m (by omega)).trans hg.1, hg.2.1, hg.2.2.1, ?_⟩⟩, ?_⟩
  · rw [r1]; exact hs.cg (fun c a b => e c (by omega) (by omega) (by omega) (by omega)) hq hl
  · exact hp.cg (fun c a b => e c (by omega) (by omega) (by omega) (by omega)) (congrFun (e (x + 68) (by omega) (by omega) (by omega) (by omega)) 1) (congrFun (e (x + 68) (by omega) (by omega) (by omega) (by omega)) 2) (im_m (by omega)) (e (x + 277 + 4) (by omega) (by omega) (by omega) (by omega)) (fun j _ => congrFun r1 j) (fun r hr => by rw [mx_upP_ne (by omega)]) hl
  · unfold im_K
    rw [mx_up_ne (by omega), vs_cq_ne (by omega), mx_up_ne (by omega)]; exact mu_e
  · exact mu_e
  · exact (hs.take (r := x + 53) (by omega) (fun c a b => by
      unfold im_K
      rw [mx_up_ne (by omega), vs_cq_ne (by omega), mx_up_ne (by omega), mx_up_ne (by omega)]) (by simp [mx_upP]) hl).row r2
  · intro k hk
    rw [show im_K I x (x + 250 + 1) = I (x + 250 + 1) from e (x + 250 + 1) (by omega) (by omega) (by omega) (by omega)]; exact hf.1 k hk
  · exact (congrFun (e (x + 250) (by omega) (by omega) (by omega) (by omega)) 1).trans hf.2.1
  · intro k hk
    rw [show im_K I x (x + 277 + 5) = I (x + 277 + 5) from e (x + 277 + 5) (by omega) (by omega) (by omega) (by omega)]; exact hg.2.2.2 k hk
  · rw [im_m (by omega), e (x + 250) (by omega) (by omega) (by omega) (by omega)]; exact h6
end BY93
