/-! ALL THAT HOLDS BETWEEN TWO CALLS -/
/-- the objects' shapes: the class's at x, the reference at x + 277, the answer's row at x + 291 -/
def al_sh (S : mx_S) (P : mx_P) (x : Nat) : Prop := vh_ok S P x ∧ pa_ok S P (x + 1) ∧ ma_ok S P (x + 9) ∧ ga_ok S P (x + 12) ∧ st_ok S P (x + 23) ∧ st_ok S P (x + 38) ∧ st_ok S P (x + 53) ∧ pt_ok S P (x + 68) ∧ te_ok S P (x + 250) ∧ gx_ok S P (x + 256) (x + 250) (x + 257) ∧ st_ok S P (x + 257) ∧ lr_ok S P (x + 272) (x + 250) ∧ mo_ok S P (x + 277) ∧ S (x + 291) = some (3, 1)
/-- where a law may lie -/
def al_at (x t la : Nat) : Prop := (la = x + 17 ∨ x + 292 ≤ la) ∧ la + 6 ≤ t
def al_ok (t : Nat) (S : mx_S) (I : mx_I) (P : mx_P) (x : Nat) : Prop := x + 292 ≤ t ∧ al_sh S P x ∧ (∃ la D, al_at x t la ∧ sa_ok S I P (x + 23) (I (x + 278)) la D ∧ ps_ok S I P x (x + 277) la D) ∧ (∃ b : Bool, I x 6 = bI b ∧ I (x + 277) 3 = bI b ∧ (b = true → ∃ la D, al_at x t la ∧ sa_ok S I P (x + 53) (I (x + 279)) la D)) ∧ (∃ f L, te_tx I (x + 250) f L ∧ mp_tx I (x + 277) f L) ∧ I (x + 250) 2 = I (x + 277) 12
section BW91
variable {t t' x la : Nat} {S : mx_S} {I K : mx_I} {P : mx_P} {D : lwD} {v : Int32}
theorem al_new (ht : x + 292 ≤ t) (hv : vh_new S I P x) (hm : mo_new S I P (x + 277)) (hz : ∀ k, k ≠ 12 → I (x + 277) k = 0) (hs : S (x + 291) = some (3, 1)) : al_ok t S I P x := by
  obtain ⟨v1, v2, v3, v4, v5, v6, v7, v8, v9, v10, v11, v12, v13, v14, v15, v16, v17, v18, v19⟩ := hv
  obtain ⟨m1, m2, m3, m4⟩ := hm
  have e3 : I (x + 278) = m0_up 64 := m3
  have z0 : ∀ k, k ≠ 12 → I (x + 277) k = nI 0 := fun k hk => hz k hk
  refine ⟨ht, ⟨v1, v3, v4, v5, v7.1, v8.1, v9.1, v10, v13, v17, v18.1, v19, m1, hs⟩, ⟨x + 17, lw_D0, ⟨Or.inl rfl, by omega⟩, by rw [e3]; exact sa_new v7 v6, ps_new v11 v12 (z0 6 (by omega))⟩, ⟨false, v2, z0 3 (by omega), fun h => by cases h⟩, ⟨fun _ => 0, 0, ⟨fun k hk => ⟨Nat.succ_pos 255, v16 k⟩, v14, by omega⟩, ⟨z0 8 (by omega), by omega, fun k hk => Nat.succ_pos 255, fun k hk => m4 5 k (by omega) (by omega)⟩⟩, v15.trans m2.symm⟩
/-- the cells of which the relations tell -/
def al_c (x c : Nat) : Prop := (x + 17 ≤ c ∧ c < x + 37) ∨ (x + 53 ≤ c ∧ c < x + 67) ∨ (x + 69 ≤ c ∧ c < x + 250) ∨ c = x + 251 ∨ c = x + 278 ∨ c = x + 279 ∨ c = x + 281 ∨ c = x + 282 ∨ x + 292 ≤ c
/-- nothing of it is touched: the rest is scratch -/
def al_sm (I K : mx_I) (x : Nat) : Prop := (∀ c, al_c x c → K c = I c) ∧ K x 6 = I x 6 ∧ K (x + 68) 1 = I (x + 68) 1 ∧ K (x + 68) 2 = I (x + 68) 2 ∧ K (x + 250) 1 = I (x + 250) 1 ∧ K (x + 277) 3 = I (x + 277) 3 ∧ K (x + 277) 6 = I (x + 277) 6 ∧ K (x + 277) 8 = I (x + 277) 8
theorem la_al (h : la_is S P I la D) (ha : al_at x t la) (e : ∀ c, al_c x c → K c = I c) : la_is S P K la D :=
  h.sm (fun c h1 h2 => ⟨rfl, e c (by have := ha.1; unfold al_c; omega), rfl⟩)
theorem al_ok.cg (h : al_ok t S I P x) (ht : t ≤ t') (e : al_sm I K x) (ef : K (x + 250) 2 = K (x + 277) 12) : al_ok t' S K P x := by
  obtain ⟨h1, h2, ⟨la, D, ha, hs, hp⟩, ⟨b, hb1, hb2, hb3⟩, ⟨f, L, hf, hg⟩, h6⟩ := h
  obtain ⟨e1, e2, e3, e4, e5, e6, e7, e8⟩ := e
  have hl := la_al hs.2.2.2.1 ha e1
  have r1 : K (x + 278) = I (x + 278) := e1 _ (by unfold al_c; omega)
  have r2 : K (x + 279) = I (x + 279) := e1 _ (by unfold al_c; omega)
  refine ⟨by omega, h2, ⟨la, D, ⟨ha.1, by have := ha.2; omega⟩, ?_, ?_⟩, ⟨b, e2.trans hb1, e6.trans hb2, fun hb => ?_⟩, ⟨f, L, ⟨?_, e5.trans hf.2.1, hf.2.2⟩, ⟨e8.trans hg.1, hg.2.1, hg.2.2.1, ?_⟩⟩, ef⟩
  · rw [r1]
    exact hs.cg (fun c a1 a2 => e1 c (by unfold al_c; omega)) rfl hl
  · exact hp.cg (fun c a1 a2 => e1 c (by unfold al_c; omega)) e3 e4 e7 (e1 (x + 277 + 4) (by unfold al_c; omega)) (fun j _ => congrFun r1 j) (fun _ _ => rfl) hl
  · obtain ⟨la2, D2, ha2, hs2⟩ := hb3 hb
    refine ⟨la2, D2, ⟨ha2.1, by have := ha2.2; omega⟩, ?_⟩
    rw [r2]
    exact hs2.cg (fun c a1 a2 => e1 c (by unfold al_c; omega)) rfl (la_al hs2.2.2.2.1 ha2 e1)
  · intro k hk
    rw [show K (x + 250 + 1) = I (x + 250 + 1) from e1 (x + 251) (by unfold al_c; omega)]
    exact hf.1 k hk
  · intro k hk
    rw [show K (x + 277 + 5) = I (x + 277 + 5) from e1 (x + 282) (by unfold al_c; omega)]
    exact hg.2.2.2 k hk
/-- the reference's code of what was thrown is not told of -/
theorem al_ok.mo0 (h : al_ok t S I P x) (ht : t ≤ t') : al_ok t' S (mx_up I (x + 277) 0 v) P x :=
  h.cg ht ⟨fun c hc => mx_up_ne (by unfold al_c at hc; omega), by rw [mx_up_ne (by omega)], by rw [mx_up_ne (by omega)], by rw [mx_up_ne (by omega)], by rw [mx_up_ne (by omega)], mu_n (by omega), mu_n (by omega), mu_n (by omega)⟩ (by rw [mx_up_ne (by omega), mu_n (by omega)]; exact h.2.2.2.2.2)
end BW91
