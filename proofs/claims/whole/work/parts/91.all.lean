/-! ALL THAT HOLDS BETWEEN TWO CALLS -/
/-- the objects' shapes: the class's at x, the reference at x + 277, the answer's row at x + 291 -/
def al_sh (S : mx_S) (P : mx_P) (x : Nat) : Prop := vh_ok S P x ∧ pa_ok S P (x + 1) ∧ ma_ok S P (x + 9) ∧ ga_ok S P (x + 12) ∧ st_ok S P (x + 23) ∧ st_ok S P (x + 38) ∧ st_ok S P (x + 53) ∧ pt_ok S P (x + 68) ∧ te_ok S P (x + 250) ∧ gx_ok S P (x + 256) (x + 250) (x + 257) ∧ st_ok S P (x + 257) ∧ lr_ok S P (x + 272) (x + 250) ∧ mo_ok S P (x + 277) ∧ S (x + 291) = some (3, 1)
/-- where a law may lie -/
def al_at (x t la : Nat) : Prop := (la = x + 17 ∨ x + 292 ≤ la) ∧ la + 6 ≤ t
def al_ok (t : Nat) (S : mx_S) (I : mx_I) (P : mx_P) (x : Nat) : Prop := x + 292 ≤ t ∧ al_sh S P x ∧ (∃ la D, al_at x t la ∧ sa_ok S I P (x + 23) (I (x + 278)) la D ∧ ps_ok S I P x (x + 277) la D) ∧ (∃ b : Bool, I x 6 = bI b ∧ I (x + 277) 3 = bI b ∧ (b = true → ∃ la D, al_at x t la ∧ sa_ok S I P (x + 53) (I (x + 279)) la D)) ∧ (∃ f L, te_tx I (x + 250) f L ∧ mp_tx I (x + 277) f L) ∧ I (x + 250) 2 = I (x + 277) 12
section BW91
variable {t x : Nat} {S : mx_S} {I : mx_I} {P : mx_P}
theorem al_new (ht : x + 292 ≤ t) (hv : vh_new S I P x) (hm : mo_new S I P (x + 277)) (hz : ∀ k, k ≠ 12 → I (x + 277) k = 0) (hs : S (x + 291) = some (3, 1)) : al_ok t S I P x := by
  obtain ⟨v1, v2, v3, v4, v5, v6, v7, v8, v9, v10, v11, v12, v13, v14, v15, v16, v17, v18, v19⟩ := hv
  obtain ⟨m1, m2, m3, m4⟩ := hm
  have e3 : I (x + 278) = m0_up 64 := m3
  have z0 : ∀ k, k ≠ 12 → I (x + 277) k = nI 0 := fun k hk => hz k hk
  refine ⟨ht, ⟨v1, v3, v4, v5, v7.1, v8.1, v9.1, v10, v13, v17, v18.1, v19, m1, hs⟩, ⟨x + 17, lw_D0, ⟨Or.inl rfl, by omega⟩, by rw [e3]; exact sa_new v7 v6, ps_new v11 v12 (z0 6 (by omega))⟩, ⟨false, v2, z0 3 (by omega), fun h => by cases h⟩, ⟨fun _ => 0, 0, ⟨fun k hk => ⟨Nat.succ_pos 255, v16 k⟩, v14, by omega⟩, ⟨z0 8 (by omega), by omega, fun k hk => Nat.succ_pos 255, fun k hk => m4 5 k (by omega) (by omega)⟩⟩, v15.trans m2.symm⟩
end BW91
