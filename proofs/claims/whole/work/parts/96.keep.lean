/-! AN ACT THAT IS KEPT KEEPS ALL -/
section CB96
variable {t x la A z : Nat} {S : mx_S} {I K : mx_I} {P : mx_P} {D : lwD}
theorem al_sh.slot (h : al_sh S P x) (hz : z < 12) : al_sh S (mx_upP P (x + 70 + 15 * z) 2 (some la)) x := by
  obtain ⟨h1, h2, h3, h4, h5, h6, h7, h8, h9, h10, h11, h12, h13, h14⟩ := h
  have e : ∀ u v, (v ≤ x + 70 + 15 * z ∨ x + 70 + 15 * z < u) → mx_sm u v S S (fun _ _ => 0) (fun _ _ => 0) P (mx_upP P (x + 70 + 15 * z) 2 (some la)) := fun u v huv c a b => ⟨rfl, rfl, mx_upP_ne (by omega)⟩
  refine ⟨h1.upP (by omega), h2.sm (e _ _ (by omega)), h3.sm (e _ _ (by omega)), h4.sm (e _ _ (by omega)), st_ok_law h5 (by omega), st_ok_law h6 (by omega), st_ok_law h7 (by omega), ?_, h9.sm (e _ _ (by omega)), h10.sm (e _ _ (by omega)), st_ok_law h11 (by omega), h12.sm (e _ _ (by omega)), ?_, h14⟩
  · obtain ⟨p1, p2, p3, p4⟩ := h8
    exact ⟨p1, by rw [mx_upP_ne (by omega)]; exact p2, p3, fun i hi => ⟨by rw [mx_upP_ne (by omega)]; exact (p4 i hi).1, st_ok_law (p4 i hi).2 (by omega)⟩⟩
  · unfold mo_ok at h13 ⊢
    rw [mx_upP_ne (by omega)]; exact h13
/-- what an act leaves alone -/
def al_kc (x c : Nat) : Prop := (x + 17 ≤ c ∧ c < x + 23) ∨ (x + 53 ≤ c ∧ c < x + 67) ∨ c = x + 251 ∨ c = x + 279 ∨ c = x + 282 ∨ x + 292 ≤ c
theorem al_keep (h : al_ok t S I P x) (hla : P (x + 23) 2 = some la) (hA : I (x + 68) 1 = nI A) (hA12 : A ≤ 12) (hz : I (x + 68) 2 = nI z) (hz12 : z < 12)
    (e1 : ∀ c, x + 70 ≤ c → c < x + 250 → K c = vs_stT I (x + 70 + 15 * z) (x + 23) c) (e2 : K (x + 68) 1 = nI (vs_mn A)) (e3 : K (x + 68) 2 = nI (vs_nx z)) (e4 : K (x + 277) 6 = nI (if A = 12 then 12 else A + 1)) (e5 : K (x + 281) = vs_rem I (x + 277) A (x + 281)) (e6 : ∀ j, (j = 1 ∨ j = 2 ∨ 619 ≤ j) → K (x + 278) j = I (x + 278) j)
    (eo : ∀ c, al_kc x c → K c = I c) (f1 : K x 6 = I x 6) (f2 : K (x + 250) 1 = I (x + 250) 1) (f3 : K (x + 277) 3 = I (x + 277) 3) (f4 : K (x + 277) 8 = I (x + 277) 8) (f5 : K (x + 250) 2 = K (x + 277) 12)
    (hn : st_rel K (x + 23) (K (x + 278))) (hlo : ∃ N z, lo_rel K (x + 23 + 9) (K (x + 278)) N z) (hrw : rw_ok (K (x + 278))) : al_ok t S K (mx_upP P (x + 70 + 15 * z) 2 (some la)) x := by
  obtain ⟨h1, h2, ⟨la0, D, ha, hs, hp⟩, ⟨b, hb1, hb2, hb3⟩, ⟨f, L, hf, hg⟩, h6⟩ := h
  have e0 : la0 = la := Option.some.inj (hs.2.2.1.symm.trans hla)
  subst e0
  have hll : ∀ la2 D2, al_at x t la2 → la_is S P I la2 D2 → la_is S (mx_upP P (x + 70 + 15 * z) 2 (some la0)) K la2 D2 := fun la2 D2 ha2 hl2 => la_ne (hl2.sm (fun c a b => ⟨rfl, eo c (by have := ha2.1; unfold al_kc; omega), rfl⟩)) (by have := ha2.1; omega)
  have hl := hll _ _ ha hs.2.2.2.1
  refine ⟨h1, h2.slot hz12, ⟨la0, D, ha, ⟨hn, hlo, by rw [mx_upP_ne (by omega)]; exact hla, hl, hrw, hs.2.2.2.2.2.cg (e6 1 (by omega)) (e6 2 (by omega)) (fun k hk => e6 k (by omega))⟩, ?_⟩, ⟨b, f1.trans hb1, f3.trans hb2, fun hb => ?_⟩, ⟨f, L, ⟨?_, f2.trans hf.2.1, hf.2.2⟩, ⟨f4.trans hg.1, hg.2.1, hg.2.2.1, ?_⟩⟩, f5⟩
  · exact ps_keep hp hs hA hA12 hz hz12 e1 e2 e3 e4 e5 (fun j hj => e6 j (by omega)) (by simp [mx_upP]) (fun r hr hrz => by rw [mx_upP_ne (by omega)]) hl
  · obtain ⟨la2, D2, ha2, hs2⟩ := hb3 hb
    refine ⟨la2, D2, ha2, ?_⟩
    rw [eo (x + 279) (by unfold al_kc; omega)]
    exact hs2.cg (fun c a b => eo c (by unfold al_kc; omega)) (by rw [mx_upP_ne (by omega)]) (hll _ _ ha2 hs2.2.2.2.1)
  · intro k hk
    rw [show K (x + 250 + 1) = I (x + 250 + 1) from eo (x + 251) (by unfold al_kc; omega)]; exact hf.1 k hk
  · intro k hk
    rw [show K (x + 277 + 5) = I (x + 277 + 5) from eo (x + 282) (by unfold al_kc; omega)]; exact hg.2.2.2 k hk
end CB96
