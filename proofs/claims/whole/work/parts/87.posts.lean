/-! THE POSTS AS THE HELPERS OF THE LAW WANT THEM -/
section BS87
variable {f : Nat → String} {v : Nat × Int32} {w : Int32} {X1 X2 : mx_H} {t : Nat} {S : mx_S} {P : mx_P} {J : mx_G} {R : mx_I → Prop} {r : mx_R} {X : mx_H}
theorem mx_po_pg (h : mx_po f v X1 r X) : mx_pg f v.1 v.2 (fun X => ∃ t, X1.1 ≤ t ∧ X = (t, X1.2)) r X := by
  rcases h with ⟨h1, h2, h3⟩ | ⟨h1, h2, t, h3, h4⟩
  · exact ⟨⟨X1.1, Nat.le_refl _, h3⟩, Or.inl ⟨h1, h2⟩⟩
  · exact ⟨⟨t, h3, h4⟩, Or.inr ⟨h1, h2⟩⟩
theorem mx_pk_pg (h : mx_pk f v X1 X2 r X) : mx_pg f v.1 v.2 (fun X => (v.1 = 0 ∧ X = X2) ∨ (v.1 ≠ 0 ∧ ∃ t, X1.1 ≤ t ∧ X = (t, X1.2))) r X := by
  rcases h with ⟨h1, h2, h3⟩ | ⟨h1, h2, t, h3, h4⟩
  · exact ⟨Or.inl ⟨h1, h3⟩, Or.inl ⟨h1, h2⟩⟩
  · exact ⟨Or.inr ⟨h1, t, h3, h4⟩, Or.inr ⟨h1, h2⟩⟩
theorem mx_pR_pg (h : mx_pR f v t S P J R r X) : mx_pg f v.1 v.2 (fun X => ∃ K t', t ≤ t' ∧ X = (t', S, K, P, J) ∧ R K) r X := by
  rcases h with ⟨h1, h2, K, h3, h4⟩ | ⟨h1, h2, K, t', h3, h4, h5⟩
  · exact ⟨⟨K, t, Nat.le_refl _, h3, h4⟩, Or.inl ⟨h1, h2⟩⟩
  · exact ⟨⟨K, t', h3, h4, h5⟩, Or.inr ⟨h1, h2⟩⟩
theorem mx_pkR_pg (h : mx_pkR f v X1 t S P J R r X) : mx_pg f v.1 v.2 (fun X => (v.1 = 0 ∧ ∃ K, X = (t, S, K, P, J) ∧ R K) ∨ (v.1 ≠ 0 ∧ ∃ t', X1.1 ≤ t' ∧ X = (t', X1.2))) r X := by
  rcases h with ⟨h1, h2, K, h3, h4⟩ | ⟨h1, h2, t', h3, h4⟩
  · exact ⟨Or.inl ⟨h1, K, h3, h4⟩, Or.inl ⟨h1, h2⟩⟩
  · exact ⟨Or.inr ⟨h1, t', h3, h4⟩, Or.inr ⟨h1, h2⟩⟩
theorem mx_sR_pg (h : mx_sR (some (.int w)) t S P J R r X) : mx_pg f 0 w (fun X => ∃ K, X = (t, S, K, P, J) ∧ R K) r X := by
  obtain ⟨h1, K, h2, h3⟩ := h
  exact ⟨⟨K, h2, h3⟩, Or.inl ⟨rfl, h1⟩⟩
theorem mx_ri_pg (h : mx_ri w X1 r X) : mx_pg f 0 w (fun X => X = X1) r X := ⟨h.2, Or.inl ⟨rfl, h.1⟩⟩
/-- code and answer of the class's law -/
def vl_cd (r : Nat ⊕ List gq_L) : Nat := match r with | .inl _ => 1 | .inr _ => 0
def vl_an (r : Nat ⊕ List gq_L) : Int32 := match r with | .inl _ => 0 | .inr s => nI s.length
theorem vlo_pg {I : mx_I} {x L : Nat} {g : Nat → Nat} (h : vlo t S I P J x g L r X) : mx_pg (fun _ => "java/lang/IllegalArgumentException") (vl_cd (gq_law (tK g L) (tV g L))) (vl_an (gq_law (tK g L) (tV g L))) (fun X => ∃ r, vlo t S I P J x g L r X) r X := by
  refine ⟨⟨r, h⟩, ?_⟩
  unfold vlo at h
  cases hg : gq_law (tK g L) (tV g L) with
  | inl e => rw [hg] at h; exact Or.inr ⟨by show 1 ≠ 0; omega, h.1⟩
  | inr s => rw [hg] at h; exact Or.inl ⟨rfl, h.1⟩
end BS87
