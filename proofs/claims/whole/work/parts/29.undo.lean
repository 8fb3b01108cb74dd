/-! UNDO -/
section U29
variable {l : Launch} {E : mx_Env} {t : Nat} {S : mx_S} {I : mx_I} {P : mx_P} {J : mx_G} {x A z la : Nat}
theorem c_Vh_undo0 (hV : vh_ok S P x) (hPt : pt_ok S P (x + 68)) (h2 : I (x + 68) 1 = nI 0) : mx_C l E M_Vh_undo 1 0 0 [.ref (x)] (t, S, I, P, J) (mx_ri (nI 0) (t, S, I, P, J)) := by
  obtain ⟨hV0, hVp0, hVp1, hVp2, hVp3, hVp4, hVp5, hVp7, hVp8, hVp9, hVp10, hVp11, hVp12, hVs15, hVs16, hVs68⟩ := id hV
  have hPt0 := hPt.1
  refine mx_C_of (ls0 := [some (.ref (x))]) (by decide +kernel) rfl rfl (Nat.le_of_ble_eq_true rfl) rfl ?_
  refine mx_al0 d_Vh_undo_0 ?_
  refine mx_getR d_Vh_undo_1 fl_Vh_64 (by assumption) (by assumption) ?_
  refine mx_al0 d_Vh_undo_4 ?_
  refine mx_getR d_Vh_undo_5 fl_Vh_51 (by assumption) (by assumption) ?_
  refine mx_cV1i d_Vh_undo_8 (c_give0 hPt h2) ok_Pt_giveBack ml_Vh_452 (by assumption) ⟨rfl, rfl⟩ (by decide) (Nat.le_of_ble_eq_true rfl) ?_
  exact mx_zret d_Vh_undo_11 rfl (by first | exact Or.inl rfl | exact Or.inr rfl) (mx_ri_of rfl)
theorem c_Vh_undo1 (hV : vh_ok S P x) (hPt : pt_ok S P (x + 68)) (hSt : st_ok S P (x + 23)) (h1 : I (x + 68) 2 = nI z) (hz : z < 12) (h2 : I (x + 68) 1 = nI A) (h0 : 0 < A) (hA : A ≤ 12) (hz0 : 0 < z) (hla : P (x + 68 + 2 + 15 * (z - 1)) 2 = some la) : mx_C l E M_Vh_undo 5 0 0 [.ref (x)] (t, S, I, P, J) (mx_ri (nI 1) (t, S, (vs_stT (mx_up (mx_up I (x + 68) 2 (nI (z - 1))) (x + 68) 1 (nI (A - 1))) (x + 23) (x + 68 + 2 + 15 * (z - 1))), mx_upP P (x + 23) 2 (some la), J)) := by
  obtain ⟨hV0, hVp0, hVp1, hVp2, hVp3, hVp4, hVp5, hVp7, hVp8, hVp9, hVp10, hVp11, hVp12, hVs15, hVs16, hVs68⟩ := id hV
  have hPt0 := hPt.1
  refine mx_C_of (ls0 := [some (.ref (x))]) (by decide +kernel) rfl rfl (Nat.le_of_ble_eq_true rfl) rfl ?_
  refine mx_al0 d_Vh_undo_0 ?_
  refine mx_getR d_Vh_undo_1 fl_Vh_64 (by assumption) (by assumption) ?_
  refine mx_al0 d_Vh_undo_4 ?_
  refine mx_getR d_Vh_undo_5 fl_Vh_51 (by assumption) (by assumption) ?_
  refine mx_cV1i d_Vh_undo_8 (c_give1 hPt hSt h1 hz h2 h0 hA hz0 hla) ok_Pt_giveBack ml_Vh_452 (by assumption) ⟨rfl, rfl⟩ (by decide) (Nat.le_of_ble_eq_true rfl) ?_
  exact mx_zret d_Vh_undo_11 rfl (by first | exact Or.inl rfl | exact Or.inr rfl) (mx_ri_of rfl)
theorem c_Vh_undo2 (hV : vh_ok S P x) (hPt : pt_ok S P (x + 68)) (hSt : st_ok S P (x + 23)) (h1 : I (x + 68) 2 = nI z) (hz : z < 12) (h2 : I (x + 68) 1 = nI A) (h0 : 0 < A) (hA : A ≤ 12) (hz0 : z = 0) (hla : P (x + 68 + 2 + 15 * (11)) 2 = some la) : mx_C l E M_Vh_undo 5 0 0 [.ref (x)] (t, S, I, P, J) (mx_ri (nI 1) (t, S, (vs_stT (mx_up (mx_up I (x + 68) 2 (nI (11))) (x + 68) 1 (nI (A - 1))) (x + 23) (x + 68 + 2 + 15 * (11))), mx_upP P (x + 23) 2 (some la), J)) := by
  obtain ⟨hV0, hVp0, hVp1, hVp2, hVp3, hVp4, hVp5, hVp7, hVp8, hVp9, hVp10, hVp11, hVp12, hVs15, hVs16, hVs68⟩ := id hV
  have hPt0 := hPt.1
  refine mx_C_of (ls0 := [some (.ref (x))]) (by decide +kernel) rfl rfl (Nat.le_of_ble_eq_true rfl) rfl ?_
  refine mx_al0 d_Vh_undo_0 ?_
  refine mx_getR d_Vh_undo_1 fl_Vh_64 (by assumption) (by assumption) ?_
  refine mx_al0 d_Vh_undo_4 ?_
  refine mx_getR d_Vh_undo_5 fl_Vh_51 (by assumption) (by assumption) ?_
  refine mx_cV1i d_Vh_undo_8 (c_give2 hPt hSt h1 hz h2 h0 hA hz0 hla) ok_Pt_giveBack ml_Vh_452 (by assumption) ⟨rfl, rfl⟩ (by decide) (Nat.le_of_ble_eq_true rfl) ?_
  exact mx_zret d_Vh_undo_11 rfl (by first | exact Or.inl rfl | exact Or.inr rfl) (mx_ri_of rfl)
end U29
