/-! IMAGE AND BACK KEEP ALL -/
section BY93
variable {t x la : Nat} {S : mx_S} {I K : mx_I} {P : mx_P} {D : lwD}
theorem vs_cq_in {a o b p j k : Nat} (h1 : p ≤ k) (h2 : k < p + j) : vs_cq I a o b p j b k = I a (o + (k - p)) := by
  unfold vs_cq; rw [if_pos ⟨rfl, h1, h2⟩]
theorem la_ne {a k : Nat} {v : Option Nat} (h : la_is S P I la D) (ha : a ≠ la) : la_is S (mx_upP P a k v) I la D := by
  obtain ⟨h1, h2, h3⟩ := h
  refine ⟨?_, h2, h3⟩
  unfold la_ok at h1 ⊢
  rw [mx_upP_ne (Ne.symm ha)]; exact h1
/-- the shapes once a State's law is written -/
theorem al_sh.law {r : Nat} (h : al_sh S P x) (hr : r = x + 23 ∨ r = x + 38 ∨ r = x + 53 ∨ r = x + 257) : al_sh S (mx_upP P r 2 (some la)) x := by
  obtain ⟨h1, h2, h3, h4, h5, h6, h7, h8, h9, h10, h11, h12, h13, h14⟩ := h
  have e : ∀ u v, (v ≤ r ∨ r < u) → mx_sm u v S S (fun _ _ => 0) (fun _ _ => 0) P (mx_upP P r 2 (some la)) := fun u v huv c a b => ⟨rfl, rfl, mx_upP_ne (by omega)⟩
  refine ⟨h1.upP (by omega), h2.sm (e _ _ (by omega)), h3.sm (e _ _ (by omega)), h4.sm (e _ _ (by omega)), st_ok_law h5 (by omega), st_ok_law h6 (by omega), st_ok_law h7 (by omega), h8.sm (e _ _ (by omega)), h9.sm (e _ _ (by omega)), h10.sm (e _ _ (by omega)), st_ok_law h11 (by omega), h12.sm (e _ _ (by omega)), ?_, h14⟩
  unfold mo_ok at h13 ⊢
  rw [mx_upP_ne (by omega)]; exact h13
end BY93
