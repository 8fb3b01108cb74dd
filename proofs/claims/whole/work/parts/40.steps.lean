/-! A WEEK, STEP BY STEP, ON THE ROW m -/
def mn9 (v c : Int32) : Int32 := if c < v then c else v
theorem mn9_le (v c : Int32) : (if v ≤ c then v else c) = mn9 v c := by
  unfold mn9
  by_cases h : c < v
  · rw [if_pos h, if_neg (Int32.not_le.mpr h)]
  · rw [if_neg h, if_pos (Int32.not_lt.mp h)]
/-- a row of the log told: week, b, c, d, e, f -/
def w_lg (m : Nat → Int32) (b c d e f : Int32) : Nat → Int32 := fun k => if k = 9 then mn9 (m 9 + nI 1) (nI 60) else if 259 ≤ k ∧ k < 265 then [m 6, b, c, d, e, f].getD (k - 259) 0 else if 265 ≤ k ∧ k < 619 then m (k - 6) else m k
def w_sh (m : Nat → Int32) (i : Nat) : Nat → Int32 := fun k => if 619 - i ≤ k ∧ k < 619 then m (k - 6) else m k
theorem w_sh_0 (m : Nat → Int32) : w_sh m 0 = m := by funext k; unfold w_sh; rw [if_neg (by omega)]
theorem w_sh_s {m : Nat → Int32} {i : Nat} (h : i < 354) : updI (w_sh m i) (259 + (359 - i)) (m (259 + (359 - i) - 6)) = w_sh m (i + 1) := by
  funext k
  unfold updI w_sh
  by_cases e : k = 259 + (359 - i)
  · rw [if_pos e, if_pos (by omega), e]
  · rw [if_neg e]
    by_cases q : 619 - i ≤ k ∧ k < 619
    · rw [if_pos q, if_pos (by omega)]
    · rw [if_neg q, if_neg (by omega)]
theorem w_sh_n {m : Nat → Int32} {i k : Nat} (h : k < 619 - i ∨ 619 ≤ k) : w_sh m i k = m k := by unfold w_sh; rw [if_neg (by omega)]
theorem w_lg_fin {I : mx_I} {a : Nat} {m : Nat → Int32} {b c d e f : Int32} : mx_up (mx_up (mx_up (mx_up (mx_up (mx_up (mx_up (vs_rw I a (w_sh m 354)) a 259 (m 6)) a 260 b) a 261 c) a 262 d) a 263 e) a 264 f) a 9 (mn9 (m 9 + nI 1) (nI 60)) = vs_rw I a (w_lg m b c d e f) := by
  rw [vs_rw_up, vs_rw_up, vs_rw_up, vs_rw_up, vs_rw_up, vs_rw_up, vs_rw_up]
  congr 1
  funext k
  unfold updI w_lg
  by_cases h9 : k = 9
  · rw [if_pos h9, if_pos h9]
  · rw [if_neg h9, if_neg h9]
    by_cases q : 259 ≤ k ∧ k < 265
    · rw [if_pos q]
      rcases (by omega : k = 259 ∨ k = 260 ∨ k = 261 ∨ k = 262 ∨ k = 263 ∨ k = 264) with rfl | rfl | rfl | rfl | rfl | rfl <;> rfl
    · rw [if_neg q, if_neg (by omega), if_neg (by omega), if_neg (by omega), if_neg (by omega), if_neg (by omega), if_neg (by omega)]
      unfold w_sh
      by_cases z : 265 ≤ k ∧ k < 619
      · rw [if_pos z]
      · rw [if_neg z]
theorem w_lg_o {m : Nat → Int32} {b c d e f : Int32} {k : Nat} (h9 : k ≠ 9) (h : k < 259 ∨ 619 ≤ k) : w_lg m b c d e f k = m k := by
  unfold w_lg; rw [if_neg h9, if_neg (by omega), if_neg (by omega)]
theorem mn9_N {N : Nat} (h : N ≤ 60) : mn9 (nI N + nI 1) (nI 60) = nI (if N < 60 then N + 1 else 60) := by
  unfold mn9
  rw [nI_add]
  by_cases q : N < 60
  · rw [if_pos q, if_neg (nI_nlt (by omega) (by omega))]
  · rw [if_neg q, if_pos (nI_lt (by omega) (by omega))]
section AF40
variable {l : Launch} {E : mx_Env} {t : Nat} {S : mx_S} {I : mx_I} {P : mx_P} {J : mx_G} {m : Nat → Int32} {x mo H G n s la lo : Nat} {D : lwD}
/-- the ring with one row more -/
theorem lo_add {N z N' z' : Nat} {b c d e f : Int32} (h : lo_rel I lo m N z) (hN : N' = if N < 60 then N + 1 else 60) (hz : z' = if z + 1 < 60 then z + 1 else 0) : lo_rel (mx_up (mx_up (mx_up (mx_up (mx_up (mx_up (mx_up (mx_up I lo 1 (nI z')) lo 0 (nI N')) (lo + 1) (6 * z') (m 6)) (lo + 1) (6 * z' + 1) b) (lo + 1) (6 * z' + 2) c) (lo + 1) (6 * z' + 3) d) (lo + 1) (6 * z' + 4) e) (lo + 1) (6 * z' + 5) f) lo (w_lg m b c d e f) N' z' := by
  obtain ⟨g0, g1, g2, g3, g4, g5⟩ := h
  have hz' : z' < 60 := by rw [hz]; split <;> omega
  have hN' : N' ≤ 60 ∧ N' ≤ N + 1 := by rw [hN]; split <;> omega
  have hlo : lo ≠ lo + 1 := by omega
  refine ⟨by simp [mx_up], ?_, hN'.1, by simp [mx_up], hz', fun j k hj hk => ?_⟩
  · show w_lg m b c d e f 9 = _
    unfold w_lg
    rw [if_pos rfl, g1, mn9_N g2, hN]
  · by_cases j0 : j = 0
    · subst j0
      have e1 : (z' + 60 - 0) % 60 = z' := by omega
      rw [e1]
      have e2 : w_lg m b c d e f (259 + 6 * 0 + k) = [m 6, b, c, d, e, f].getD k 0 := by
        unfold w_lg; rw [if_neg (by omega), if_pos (by omega), show 259 + 6 * 0 + k - 259 = k by omega]
      rw [e2]
      rcases (by omega : k = 0 ∨ k = 1 ∨ k = 2 ∨ k = 3 ∨ k = 4 ∨ k = 5) with rfl | rfl | rfl | rfl | rfl | rfl <;> simp [mx_up]
    · have e1 : (z' + 60 - j) % 60 = (z + 60 - (j - 1)) % 60 := by
        rw [hz]; split <;> omega
      have hne : (z' + 60 - j) % 60 ≠ z' := by omega
      have e2 : w_lg m b c d e f (259 + 6 * j + k) = m (259 + 6 * (j - 1) + k) := by
        unfold w_lg; rw [if_neg (by omega), if_neg (by omega), if_pos (by omega)]; congr 1; omega
      rw [e2, ← g5 (j - 1) k (by omega) hk, ← e1]
      generalize (z' + 60 - j) % 60 = r at hne ⊢
      have n0 : ¬ 6 * r + k = 6 * z' := by omega
      have n1 : ¬ 6 * r + k = 6 * z' + 1 := by omega
      have n2 : ¬ 6 * r + k = 6 * z' + 2 := by omega
      have n3 : ¬ 6 * r + k = 6 * z' + 3 := by omega
      have n4 : ¬ 6 * r + k = 6 * z' + 4 := by omega
      have n5 : ¬ 6 * r + k = 6 * z' + 5 := by omega
      simp [mx_up, n0, n1, n2, n3, n4, n5]
theorem lo_rel.cm {I K : mx_I} {lo N z : Nat} {m m' : Nat → Int32} (h : lo_rel I lo m N z) (e0 : K lo = I lo) (e1 : K (lo + 1) = I (lo + 1)) (e9 : m' 9 = m 9) (em : ∀ k, 259 ≤ k → k < 619 → m' k = m k) : lo_rel K lo m' N z := by
  obtain ⟨g0, g1, g2, g3, g4, g5⟩ := h
  refine ⟨by rw [e0]; exact g0, e9.trans g1, g2, by rw [e0]; exact g3, g4, fun j k hj hk => ?_⟩
  rw [e1, em _ (by omega) (by omega)]; exact g5 j k hj hk
theorem c_Lo_add {N z : Nat} (hLo : lo_ok S P lo) (hLr : lo_rel I lo m N z) {b c d e f : Int32} : mx_C l E M_Lo_add 1 0 0 [.ref (lo), .int ((m 6)), .int (b), .int (c), .int (d), .int (e), .int (f)] (t, S, I, P, J) (mx_sR none t S P J (fun K => mx_off (fun c => c = lo ∨ c = lo + 1) I K ∧ ∃ N z, lo_rel K lo (w_lg m b c d e f) N z)) := by
  obtain ⟨hL0, hLp, hLs⟩ := id hLo
  obtain ⟨g0, g1, g2, g3, g4, g5⟩ := id hLr
  refine mx_C_of (ls0 := [some (.ref (lo)), some (.int ((m 6))), some (.int (b)), some (.int (c)), some (.int (d)), some (.int (e)), some (.int (f)), none]) (by decide +kernel) rfl rfl (Nat.le_of_ble_eq_true rfl) rfl ?_
  refine mx_al0 d_Lo_add_0 ?_
  refine mx_al0 d_Lo_add_1 ?_
  refine mx_getI d_Lo_add_2 fl_Lo_15 (by assumption) ?_
  refine mx_ti (y := nI (z)) (g3) ?_
  refine mx_in_1 d_Lo_add_5 ?_
  refine mx_iaddN d_Lo_add_6 ?_
  refine mx_bip 60 d_Lo_add_7 (by decide) ?_
  refine mx_icN_ge 21 d_Lo_add_9 (by decide) (by omega) (by omega) (fun c_9 => ?_) (fun c_9 => ?_)
  · skip
    refine mx_in_0 d_Lo_add_21 ?_
    refine mx_putI d_Lo_add_22 fl_Lo_15 (by assumption) ?_
    refine mx_al0 d_Lo_add_25 ?_
    refine mx_al0 d_Lo_add_26 ?_
    refine mx_getI d_Lo_add_27 fl_Lo_9 (by assumption) ?_
    refine mx_ti (y := nI (N)) ((by simp [mx_up, g0])) ?_
    refine mx_bip 60 d_Lo_add_30 (by decide) ?_
    refine mx_icN_ge 44 d_Lo_add_32 (by decide) (by omega) (by omega) (fun c_32 => ?_) (fun c_32 => ?_)
    · skip
      refine mx_bip 60 d_Lo_add_44 (by decide) ?_
      refine mx_putI d_Lo_add_46 fl_Lo_9 (by assumption) ?_
      refine mx_bip 6 d_Lo_add_49 (by decide) ?_
      refine mx_al0 d_Lo_add_51 ?_
      refine mx_getI d_Lo_add_52 fl_Lo_15 (by assumption) ?_
      refine mx_ti (y := nI (0)) ((by simp [mx_up])) ?_
      refine mx_imulN d_Lo_add_55 ?_
      refine mx_is7 d_Lo_add_56 ?_
      refine mx_al0 d_Lo_add_58 ?_
      refine mx_getR d_Lo_add_59 fl_Lo_18 (by assumption) (by assumption) ?_
      refine mx_il7 d_Lo_add_62 ?_
      refine mx_il1 d_Lo_add_64 ?_
      refine mx_cSN3v d_Lo_add_65 (c_put (k := 6 * 0) (by assumption) (by omega) (by omega)) ok_Vh_put ml_Lo_26 (by decide) (Nat.le_of_ble_eq_true rfl) ?_
      refine mx_al0 d_Lo_add_68 ?_
      refine mx_getR d_Lo_add_69 fl_Lo_18 (by assumption) (by assumption) ?_
      refine mx_il7 d_Lo_add_72 ?_
      refine mx_in_1 d_Lo_add_74 ?_
      refine mx_iaddN d_Lo_add_75 ?_
      refine mx_il2 d_Lo_add_76 ?_
      refine mx_cSN3v d_Lo_add_77 (c_put (k := 6 * 0 + 1) (by assumption) (by omega) (by omega)) ok_Vh_put ml_Lo_26 (by decide) (Nat.le_of_ble_eq_true rfl) ?_
      refine mx_al0 d_Lo_add_80 ?_
      refine mx_getR d_Lo_add_81 fl_Lo_18 (by assumption) (by assumption) ?_
      refine mx_il7 d_Lo_add_84 ?_
      refine mx_in_2 d_Lo_add_86 ?_
      refine mx_iaddN d_Lo_add_87 ?_
      refine mx_il3 d_Lo_add_88 ?_
      refine mx_cSN3v d_Lo_add_89 (c_put (k := 6 * 0 + 2) (by assumption) (by omega) (by omega)) ok_Vh_put ml_Lo_26 (by decide) (Nat.le_of_ble_eq_true rfl) ?_
      refine mx_al0 d_Lo_add_92 ?_
      refine mx_getR d_Lo_add_93 fl_Lo_18 (by assumption) (by assumption) ?_
      refine mx_il7 d_Lo_add_96 ?_
      refine mx_in_3 d_Lo_add_98 ?_
      refine mx_iaddN d_Lo_add_99 ?_
      refine mx_il4 d_Lo_add_100 ?_
      refine mx_cSN3v d_Lo_add_102 (c_put (k := 6 * 0 + 3) (by assumption) (by omega) (by omega)) ok_Vh_put ml_Lo_26 (by decide) (Nat.le_of_ble_eq_true rfl) ?_
      refine mx_al0 d_Lo_add_105 ?_
      refine mx_getR d_Lo_add_106 fl_Lo_18 (by assumption) (by assumption) ?_
      refine mx_il7 d_Lo_add_109 ?_
      refine mx_in_4 d_Lo_add_111 ?_
      refine mx_iaddN d_Lo_add_112 ?_
      refine mx_il5 d_Lo_add_113 ?_
      refine mx_cSN3v d_Lo_add_115 (c_put (k := 6 * 0 + 4) (by assumption) (by omega) (by omega)) ok_Vh_put ml_Lo_26 (by decide) (Nat.le_of_ble_eq_true rfl) ?_
      refine mx_al0 d_Lo_add_118 ?_
      refine mx_getR d_Lo_add_119 fl_Lo_18 (by assumption) (by assumption) ?_
      refine mx_il7 d_Lo_add_122 ?_
      refine mx_in_5 d_Lo_add_124 ?_
      refine mx_iaddN d_Lo_add_125 ?_
      refine mx_il6 d_Lo_add_126 ?_
      refine mx_cSN3v d_Lo_add_128 (c_put (k := 6 * 0 + 5) (by assumption) (by omega) (by omega)) ok_Vh_put ml_Lo_26 (by decide) (Nat.le_of_ble_eq_true rfl) ?_
      exact mx_vret d_Lo_add_131 rfl (mx_sR_of rfl ⟨fun c hc => (by (repeat rw [mx_up_ne (fun z => hc (Or.inr z))]); rw [mx_up_ne (fun z => hc (Or.inl z)), mx_up_ne (fun z => hc (Or.inl z))]), _, _, lo_add (N' := 60) (z' := 0) hLr (by first | (rw [if_pos (by omega)]; done) | (rw [if_neg (by omega)]; done)) (by first | (rw [if_pos (by omega)]; done) | (rw [if_neg (by omega)]; done))⟩)
    · skip
      refine mx_al0 d_Lo_add_35 ?_
      refine mx_getI d_Lo_add_36 fl_Lo_9 (by assumption) ?_
      refine mx_ti (y := nI (N)) ((by simp [mx_up, g0])) ?_
      refine mx_in_1 d_Lo_add_39 ?_
      refine mx_iaddN d_Lo_add_40 ?_
      refine mx_goto 46 d_Lo_add_41 (by decide) ?_
      refine mx_putI d_Lo_add_46 fl_Lo_9 (by assumption) ?_
      refine mx_bip 6 d_Lo_add_49 (by decide) ?_
      refine mx_al0 d_Lo_add_51 ?_
      refine mx_getI d_Lo_add_52 fl_Lo_15 (by assumption) ?_
      refine mx_ti (y := nI (0)) ((by simp [mx_up])) ?_
      refine mx_imulN d_Lo_add_55 ?_
      refine mx_is7 d_Lo_add_56 ?_
      refine mx_al0 d_Lo_add_58 ?_
      refine mx_getR d_Lo_add_59 fl_Lo_18 (by assumption) (by assumption) ?_
      refine mx_il7 d_Lo_add_62 ?_
      refine mx_il1 d_Lo_add_64 ?_
      refine mx_cSN3v d_Lo_add_65 (c_put (k := 6 * 0) (by assumption) (by omega) (by omega)) ok_Vh_put ml_Lo_26 (by decide) (Nat.le_of_ble_eq_true rfl) ?_
      refine mx_al0 d_Lo_add_68 ?_
      refine mx_getR d_Lo_add_69 fl_Lo_18 (by assumption) (by assumption) ?_
      refine mx_il7 d_Lo_add_72 ?_
      refine mx_in_1 d_Lo_add_74 ?_
      refine mx_iaddN d_Lo_add_75 ?_
      refine mx_il2 d_Lo_add_76 ?_
      refine mx_cSN3v d_Lo_add_77 (c_put (k := 6 * 0 + 1) (by assumption) (by omega) (by omega)) ok_Vh_put ml_Lo_26 (by decide) (Nat.le_of_ble_eq_true rfl) ?_
      refine mx_al0 d_Lo_add_80 ?_
      refine mx_getR d_Lo_add_81 fl_Lo_18 (by assumption) (by assumption) ?_
      refine mx_il7 d_Lo_add_84 ?_
      refine mx_in_2 d_Lo_add_86 ?_
      refine mx_iaddN d_Lo_add_87 ?_
      refine mx_il3 d_Lo_add_88 ?_
      refine mx_cSN3v d_Lo_add_89 (c_put (k := 6 * 0 + 2) (by assumption) (by omega) (by omega)) ok_Vh_put ml_Lo_26 (by decide) (Nat.le_of_ble_eq_true rfl) ?_
      refine mx_al0 d_Lo_add_92 ?_
      refine mx_getR d_Lo_add_93 fl_Lo_18 (by assumption) (by assumption) ?_
      refine mx_il7 d_Lo_add_96 ?_
      refine mx_in_3 d_Lo_add_98 ?_
      refine mx_iaddN d_Lo_add_99 ?_
      refine mx_il4 d_Lo_add_100 ?_
      refine mx_cSN3v d_Lo_add_102 (c_put (k := 6 * 0 + 3) (by assumption) (by omega) (by omega)) ok_Vh_put ml_Lo_26 (by decide) (Nat.le_of_ble_eq_true rfl) ?_
      refine mx_al0 d_Lo_add_105 ?_
      refine mx_getR d_Lo_add_106 fl_Lo_18 (by assumption) (by assumption) ?_
      refine mx_il7 d_Lo_add_109 ?_
      refine mx_in_4 d_Lo_add_111 ?_
      refine mx_iaddN d_Lo_add_112 ?_
      refine mx_il5 d_Lo_add_113 ?_
      refine mx_cSN3v d_Lo_add_115 (c_put (k := 6 * 0 + 4) (by assumption) (by omega) (by omega)) ok_Vh_put ml_Lo_26 (by decide) (Nat.le_of_ble_eq_true rfl) ?_
      refine mx_al0 d_Lo_add_118 ?_
      refine mx_getR d_Lo_add_119 fl_Lo_18 (by assumption) (by assumption) ?_
      refine mx_il7 d_Lo_add_122 ?_
      refine mx_in_5 d_Lo_add_124 ?_
      refine mx_iaddN d_Lo_add_125 ?_
      refine mx_il6 d_Lo_add_126 ?_
      refine mx_cSN3v d_Lo_add_128 (c_put (k := 6 * 0 + 5) (by assumption) (by omega) (by omega)) ok_Vh_put ml_Lo_26 (by decide) (Nat.le_of_ble_eq_true rfl) ?_
      exact mx_vret d_Lo_add_131 rfl (mx_sR_of rfl ⟨fun c hc => (by (repeat rw [mx_up_ne (fun z => hc (Or.inr z))]); rw [mx_up_ne (fun z => hc (Or.inl z)), mx_up_ne (fun z => hc (Or.inl z))]), _, _, lo_add (N' := N + 1) (z' := 0) hLr (by first | (rw [if_pos (by omega)]; done) | (rw [if_neg (by omega)]; done)) (by first | (rw [if_pos (by omega)]; done) | (rw [if_neg (by omega)]; done))⟩)
  · skip
    refine mx_al0 d_Lo_add_12 ?_
    refine mx_getI d_Lo_add_13 fl_Lo_15 (by assumption) ?_
    refine mx_ti (y := nI (z)) (g3) ?_
    refine mx_in_1 d_Lo_add_16 ?_
    refine mx_iaddN d_Lo_add_17 ?_
    refine mx_goto 22 d_Lo_add_18 (by decide) ?_
    refine mx_putI d_Lo_add_22 fl_Lo_15 (by assumption) ?_
    refine mx_al0 d_Lo_add_25 ?_
    refine mx_al0 d_Lo_add_26 ?_
    refine mx_getI d_Lo_add_27 fl_Lo_9 (by assumption) ?_
    refine mx_ti (y := nI (N)) ((by simp [mx_up, g0])) ?_
    refine mx_bip 60 d_Lo_add_30 (by decide) ?_
    refine mx_icN_ge 44 d_Lo_add_32 (by decide) (by omega) (by omega) (fun c_32 => ?_) (fun c_32 => ?_)
    · skip
      refine mx_bip 60 d_Lo_add_44 (by decide) ?_
      refine mx_putI d_Lo_add_46 fl_Lo_9 (by assumption) ?_
      refine mx_bip 6 d_Lo_add_49 (by decide) ?_
      refine mx_al0 d_Lo_add_51 ?_
      refine mx_getI d_Lo_add_52 fl_Lo_15 (by assumption) ?_
      refine mx_ti (y := nI (z + 1)) ((by simp [mx_up])) ?_
      refine mx_imulN d_Lo_add_55 ?_
      refine mx_is7 d_Lo_add_56 ?_
      refine mx_al0 d_Lo_add_58 ?_
      refine mx_getR d_Lo_add_59 fl_Lo_18 (by assumption) (by assumption) ?_
      refine mx_il7 d_Lo_add_62 ?_
      refine mx_il1 d_Lo_add_64 ?_
      refine mx_cSN3v d_Lo_add_65 (c_put (k := 6 * (z + 1)) (by assumption) (by omega) (by omega)) ok_Vh_put ml_Lo_26 (by decide) (Nat.le_of_ble_eq_true rfl) ?_
      refine mx_al0 d_Lo_add_68 ?_
      refine mx_getR d_Lo_add_69 fl_Lo_18 (by assumption) (by assumption) ?_
      refine mx_il7 d_Lo_add_72 ?_
      refine mx_in_1 d_Lo_add_74 ?_
      refine mx_iaddN d_Lo_add_75 ?_
      refine mx_il2 d_Lo_add_76 ?_
      refine mx_cSN3v d_Lo_add_77 (c_put (k := 6 * (z + 1) + 1) (by assumption) (by omega) (by omega)) ok_Vh_put ml_Lo_26 (by decide) (Nat.le_of_ble_eq_true rfl) ?_
      refine mx_al0 d_Lo_add_80 ?_
      refine mx_getR d_Lo_add_81 fl_Lo_18 (by assumption) (by assumption) ?_
      refine mx_il7 d_Lo_add_84 ?_
      refine mx_in_2 d_Lo_add_86 ?_
      refine mx_iaddN d_Lo_add_87 ?_
      refine mx_il3 d_Lo_add_88 ?_
      refine mx_cSN3v d_Lo_add_89 (c_put (k := 6 * (z + 1) + 2) (by assumption) (by omega) (by omega)) ok_Vh_put ml_Lo_26 (by decide) (Nat.le_of_ble_eq_true rfl) ?_
      refine mx_al0 d_Lo_add_92 ?_
      refine mx_getR d_Lo_add_93 fl_Lo_18 (by assumption) (by assumption) ?_
      refine mx_il7 d_Lo_add_96 ?_
      refine mx_in_3 d_Lo_add_98 ?_
      refine mx_iaddN d_Lo_add_99 ?_
      refine mx_il4 d_Lo_add_100 ?_
      refine mx_cSN3v d_Lo_add_102 (c_put (k := 6 * (z + 1) + 3) (by assumption) (by omega) (by omega)) ok_Vh_put ml_Lo_26 (by decide) (Nat.le_of_ble_eq_true rfl) ?_
      refine mx_al0 d_Lo_add_105 ?_
      refine mx_getR d_Lo_add_106 fl_Lo_18 (by assumption) (by assumption) ?_
      refine mx_il7 d_Lo_add_109 ?_
      refine mx_in_4 d_Lo_add_111 ?_
      refine mx_iaddN d_Lo_add_112 ?_
      refine mx_il5 d_Lo_add_113 ?_
      refine mx_cSN3v d_Lo_add_115 (c_put (k := 6 * (z + 1) + 4) (by assumption) (by omega) (by omega)) ok_Vh_put ml_Lo_26 (by decide) (Nat.le_of_ble_eq_true rfl) ?_
      refine mx_al0 d_Lo_add_118 ?_
      refine mx_getR d_Lo_add_119 fl_Lo_18 (by assumption) (by assumption) ?_
      refine mx_il7 d_Lo_add_122 ?_
      refine mx_in_5 d_Lo_add_124 ?_
      refine mx_iaddN d_Lo_add_125 ?_
      refine mx_il6 d_Lo_add_126 ?_
      refine mx_cSN3v d_Lo_add_128 (c_put (k := 6 * (z + 1) + 5) (by assumption) (by omega) (by omega)) ok_Vh_put ml_Lo_26 (by decide) (Nat.le_of_ble_eq_true rfl) ?_
      exact mx_vret d_Lo_add_131 rfl (mx_sR_of rfl ⟨fun c hc => (by (repeat rw [mx_up_ne (fun z => hc (Or.inr z))]); rw [mx_up_ne (fun z => hc (Or.inl z)), mx_up_ne (fun z => hc (Or.inl z))]), _, _, lo_add (N' := 60) (z' := z + 1) hLr (by first | (rw [if_pos (by omega)]; done) | (rw [if_neg (by omega)]; done)) (by first | (rw [if_pos (by omega)]; done) | (rw [if_neg (by omega)]; done))⟩)
    · skip
      refine mx_al0 d_Lo_add_35 ?_
      refine mx_getI d_Lo_add_36 fl_Lo_9 (by assumption) ?_
      refine mx_ti (y := nI (N)) ((by simp [mx_up, g0])) ?_
      refine mx_in_1 d_Lo_add_39 ?_
      refine mx_iaddN d_Lo_add_40 ?_
      refine mx_goto 46 d_Lo_add_41 (by decide) ?_
      refine mx_putI d_Lo_add_46 fl_Lo_9 (by assumption) ?_
      refine mx_bip 6 d_Lo_add_49 (by decide) ?_
      refine mx_al0 d_Lo_add_51 ?_
      refine mx_getI d_Lo_add_52 fl_Lo_15 (by assumption) ?_
      refine mx_ti (y := nI (z + 1)) ((by simp [mx_up])) ?_
      refine mx_imulN d_Lo_add_55 ?_
      refine mx_is7 d_Lo_add_56 ?_
      refine mx_al0 d_Lo_add_58 ?_
      refine mx_getR d_Lo_add_59 fl_Lo_18 (by assumption) (by assumption) ?_
      refine mx_il7 d_Lo_add_62 ?_
      refine mx_il1 d_Lo_add_64 ?_
      refine mx_cSN3v d_Lo_add_65 (c_put (k := 6 * (z + 1)) (by assumption) (by omega) (by omega)) ok_Vh_put ml_Lo_26 (by decide) (Nat.le_of_ble_eq_true rfl) ?_
      refine mx_al0 d_Lo_add_68 ?_
      refine mx_getR d_Lo_add_69 fl_Lo_18 (by assumption) (by assumption) ?_
      refine mx_il7 d_Lo_add_72 ?_
      refine mx_in_1 d_Lo_add_74 ?_
      refine mx_iaddN d_Lo_add_75 ?_
      refine mx_il2 d_Lo_add_76 ?_
      refine mx_cSN3v d_Lo_add_77 (c_put (k := 6 * (z + 1) + 1) (by assumption) (by omega) (by omega)) ok_Vh_put ml_Lo_26 (by decide) (Nat.le_of_ble_eq_true rfl) ?_
      refine mx_al0 d_Lo_add_80 ?_
      refine mx_getR d_Lo_add_81 fl_Lo_18 (by assumption) (by assumption) ?_
      refine mx_il7 d_Lo_add_84 ?_
      refine mx_in_2 d_Lo_add_86 ?_
      refine mx_iaddN d_Lo_add_87 ?_
      refine mx_il3 d_Lo_add_88 ?_
      refine mx_cSN3v d_Lo_add_89 (c_put (k := 6 * (z + 1) + 2) (by assumption) (by omega) (by omega)) ok_Vh_put ml_Lo_26 (by decide) (Nat.le_of_ble_eq_true rfl) ?_
      refine mx_al0 d_Lo_add_92 ?_
      refine mx_getR d_Lo_add_93 fl_Lo_18 (by assumption) (by assumption) ?_
      refine mx_il7 d_Lo_add_96 ?_
      refine mx_in_3 d_Lo_add_98 ?_
      refine mx_iaddN d_Lo_add_99 ?_
      refine mx_il4 d_Lo_add_100 ?_
      refine mx_cSN3v d_Lo_add_102 (c_put (k := 6 * (z + 1) + 3) (by assumption) (by omega) (by omega)) ok_Vh_put ml_Lo_26 (by decide) (Nat.le_of_ble_eq_true rfl) ?_
      refine mx_al0 d_Lo_add_105 ?_
      refine mx_getR d_Lo_add_106 fl_Lo_18 (by assumption) (by assumption) ?_
      refine mx_il7 d_Lo_add_109 ?_
      refine mx_in_4 d_Lo_add_111 ?_
      refine mx_iaddN d_Lo_add_112 ?_
      refine mx_il5 d_Lo_add_113 ?_
      refine mx_cSN3v d_Lo_add_115 (c_put (k := 6 * (z + 1) + 4) (by assumption) (by omega) (by omega)) ok_Vh_put ml_Lo_26 (by decide) (Nat.le_of_ble_eq_true rfl) ?_
      refine mx_al0 d_Lo_add_118 ?_
      refine mx_getR d_Lo_add_119 fl_Lo_18 (by assumption) (by assumption) ?_
      refine mx_il7 d_Lo_add_122 ?_
      refine mx_in_5 d_Lo_add_124 ?_
      refine mx_iaddN d_Lo_add_125 ?_
      refine mx_il6 d_Lo_add_126 ?_
      refine mx_cSN3v d_Lo_add_128 (c_put (k := 6 * (z + 1) + 5) (by assumption) (by omega) (by omega)) ok_Vh_put ml_Lo_26 (by decide) (Nat.le_of_ble_eq_true rfl) ?_
      exact mx_vret d_Lo_add_131 rfl (mx_sR_of rfl ⟨fun c hc => (by (repeat rw [mx_up_ne (fun z => hc (Or.inr z))]); rw [mx_up_ne (fun z => hc (Or.inl z)), mx_up_ne (fun z => hc (Or.inl z))]), _, _, lo_add (N' := N + 1) (z' := z + 1) hLr (by first | (rw [if_pos (by omega)]; done) | (rw [if_neg (by omega)]; done)) (by first | (rw [if_pos (by omega)]; done) | (rw [if_neg (by omega)]; done))⟩)
/-- the next seed, and what is drawn -/
def w_sd (v : Int32) : Int32 := 1103515245 * v + nI 12345
def w_out (v : Int32) : Int32 := mx_ushr v (nI 16) &&& nI 32767
def w_pc (v : Int32) : Int32 := v - v / nI 100 * nI 100
theorem c_St_draw (h0 : S s = some (0, 6)) : mx_C l E M_St_draw 1 0 0 [.ref (s)] (t, S, I, P, J) (mx_ri (w_out (w_sd (I s 8))) (t, S, mx_up I s 8 (w_sd (I s 8)), P, J)) := by
  refine mx_C_of (ls0 := [some (.ref (s))]) (by decide +kernel) rfl rfl (Nat.le_of_ble_eq_true rfl) rfl ?_
  refine mx_al0 d_St_draw_0 ?_
  refine mx_ldc d_St_draw_1 cn_St_140 ?_
  refine mx_al0 d_St_draw_3 ?_
  refine mx_getI d_St_draw_4 fl_St_41 (by assumption) ?_
  refine mx_imul d_St_draw_7 ?_
  refine mx_sip 12345 d_St_draw_8 (by decide) ?_
  refine mx_iadd d_St_draw_11 ?_
  refine mx_ti (y := (w_sd (I s 8))) (rfl) ?_
  refine mx_putI d_St_draw_12 fl_St_41 (by assumption) ?_
  refine mx_al0 d_St_draw_15 ?_
  refine mx_getI d_St_draw_16 fl_St_41 (by assumption) ?_
  refine mx_ti (y := (w_sd (I s 8))) (vs_upx) ?_
  refine mx_bip 16 d_St_draw_19 (by decide) ?_
  refine mx_iushr d_St_draw_21 ?_
  refine mx_sip 32767 d_St_draw_22 (by decide) ?_
  refine mx_iand d_St_draw_25 ?_
  exact mx_iret d_St_draw_26 rfl (mx_ri_of rfl)
theorem c_Mo_logs (hM : mo_ok S P mo) (hm : I (mo + 1) = m) {b c d e f : Int32} : mx_C l E M_Mo_logs 1 0 0 [.ref (mo), .int (b), .int (c), .int (d), .int (e), .int (f)] (t, S, I, P, J) (mx_rv (t, S, vs_rw I (mo + 1) (w_lg m b c d e f), P, J)) := by
  obtain ⟨hM0, hMp1, hMp2, hMp4, hMp5, hMp7, hMp14, hMp21, hMp22, hMp23, hMp24, hMp25, hMp26, hMp27, hMs1, hMs2, hMs3, hMs4, hMs5, hMs6, hMs7, hMs8, hMs9, hMs10, hMs11, hMs12, hMs13⟩ := id hM
  refine mx_C_of (ls0 := [some (.ref (mo)), some (.int (b)), some (.int (c)), some (.int (d)), some (.int (e)), some (.int (f)), none]) (by decide +kernel) rfl rfl (Nat.le_of_ble_eq_true rfl) rfl ?_
  refine mx_sip 359 d_Mo_logs_0 (by decide) ?_
  have e0 : (t, S, I, P, J) = (t, S, vs_rw I (mo + 1) (w_sh m 0), P, J) := by rw [w_sh_0, ← hm, vs_rw_id]
  rw [e0]
  refine mx_is6 d_Mo_logs_3 ?_
  refine mx_loop (N := 354) (ls := fun i => [some (.ref (mo)), some (.int (b)), some (.int (c)), some (.int (d)), some (.int (e)), some (.int (f)), some (.int (nI (359 - i)))]) (X := fun i => (t, S, (vs_rw I (mo + 1) (w_sh m i)), P, J)) (fun i hi ih => ?_) ?_
  · try dsimp only
    refine mx_il6 d_Mo_logs_5 ?_
    refine mx_bip 6 d_Mo_logs_7 (by decide) ?_
    refine mx_icN_lt 43 d_Mo_logs_9 (by decide) (by omega) (by omega) (fun c_9 => absurd c_9 (by omega)) (fun c_9 => ?_)
    refine mx_al0 d_Mo_logs_12 ?_
    refine mx_getR d_Mo_logs_13 fl_Mo_7 (by assumption) (by assumption) ?_
    refine mx_sip 259 d_Mo_logs_16 (by decide) ?_
    refine mx_il6 d_Mo_logs_19 ?_
    refine mx_iaddN d_Mo_logs_21 ?_
    refine mx_al0 d_Mo_logs_22 ?_
    refine mx_getR d_Mo_logs_23 fl_Mo_7 (by assumption) (by assumption) ?_
    refine mx_sip 259 d_Mo_logs_26 (by decide) ?_
    refine mx_il6 d_Mo_logs_29 ?_
    refine mx_iaddN d_Mo_logs_31 ?_
    refine mx_bip 6 d_Mo_logs_32 (by decide) ?_
    refine mx_isubN d_Mo_logs_34 (by omega) ?_
    refine mx_iald d_Mo_logs_35 (by assumption) (nI_inb (by omega) (by omega)) ?_
    refine mx_ti (y := (vs_rw I (mo + 1) (w_sh m i)) (mo + 1) ((259 + (359 - i)) - 6)) (by rw [nI_clamp (by omega)]) ?_
    refine mx_ti (y := (m (259 + (359 - i) - 6))) ((by rw [vs_rw_at]; exact w_sh_n (by omega))) ?_
    refine mx_iast d_Mo_logs_36 (by assumption) (nI_inb (by omega) (by omega)) ?_
    rw [nI_clamp (by omega)]
    refine mx_ii6 (v := -1) d_Mo_logs_37 (by decide) ?_
    refine mx_goto 5 d_Mo_logs_40 (by decide) ?_
    have e6 : (nI (359 - i) + -1) = nI (359 - (i + 1)) := by rw [nI_dec (by omega), Nat.sub_sub]
    refine mx_lsc (congrArg (fun z9 => ([some (.ref (mo)), some (.int (b)), some (.int (c)), some (.int (d)), some (.int (e)), some (.int (f)), some (.int (z9))] : List (Option Value))) e6) ?_
    have eh2 : (mx_up (vs_rw I (mo + 1) (w_sh m i)) (mo + 1) (259 + (359 - i)) ((m (259 + (359 - i) - 6)))) = (vs_rw I (mo + 1) (w_sh m (i + 1))) := by rw [vs_rw_up, w_sh_s (by omega)]
    rw [eh2]
    exact ih
  · try dsimp only
    refine mx_il6 d_Mo_logs_5 ?_
    refine mx_bip 6 d_Mo_logs_7 (by decide) ?_
    refine mx_icN_lt 43 d_Mo_logs_9 (by decide) (by omega) (by omega) (fun c_9 => ?_) (fun c_9 => absurd c_9 (by omega))
    refine mx_al0 d_Mo_logs_43 ?_
    refine mx_getR d_Mo_logs_44 fl_Mo_7 (by assumption) (by assumption) ?_
    refine mx_sip 259 d_Mo_logs_47 (by decide) ?_
    refine mx_al0 d_Mo_logs_50 ?_
    refine mx_getR d_Mo_logs_51 fl_Mo_7 (by assumption) (by assumption) ?_
    refine mx_bip 6 d_Mo_logs_54 (by decide) ?_
    refine mx_iald d_Mo_logs_56 (by assumption) (nI_inb (by omega) (by omega)) ?_
    refine mx_ti (y := (vs_rw I (mo + 1) (w_sh m 354)) (mo + 1) (6)) (by rw [nI_clamp (by omega)]) ?_
    refine mx_ti (y := (m 6)) ((by rw [vs_rw_at]; exact w_sh_n (by omega))) ?_
    refine mx_iast d_Mo_logs_57 (by assumption) (nI_inb (by omega) (by omega)) ?_
    rw [nI_clamp (by omega)]
    refine mx_al0 d_Mo_logs_58 ?_
    refine mx_getR d_Mo_logs_59 fl_Mo_7 (by assumption) (by assumption) ?_
    refine mx_sip 260 d_Mo_logs_62 (by decide) ?_
    refine mx_il1 d_Mo_logs_65 ?_
    refine mx_iast d_Mo_logs_66 (by assumption) (nI_inb (by omega) (by omega)) ?_
    rw [nI_clamp (by omega)]
    refine mx_al0 d_Mo_logs_67 ?_
    refine mx_getR d_Mo_logs_68 fl_Mo_7 (by assumption) (by assumption) ?_
    refine mx_sip 261 d_Mo_logs_71 (by decide) ?_
    refine mx_il2 d_Mo_logs_74 ?_
    refine mx_iast d_Mo_logs_75 (by assumption) (nI_inb (by omega) (by omega)) ?_
    rw [nI_clamp (by omega)]
    refine mx_al0 d_Mo_logs_76 ?_
    refine mx_getR d_Mo_logs_77 fl_Mo_7 (by assumption) (by assumption) ?_
    refine mx_sip 262 d_Mo_logs_80 (by decide) ?_
    refine mx_il3 d_Mo_logs_83 ?_
    refine mx_iast d_Mo_logs_84 (by assumption) (nI_inb (by omega) (by omega)) ?_
    rw [nI_clamp (by omega)]
    refine mx_al0 d_Mo_logs_85 ?_
    refine mx_getR d_Mo_logs_86 fl_Mo_7 (by assumption) (by assumption) ?_
    refine mx_sip 263 d_Mo_logs_89 (by decide) ?_
    refine mx_il4 d_Mo_logs_92 ?_
    refine mx_iast d_Mo_logs_94 (by assumption) (nI_inb (by omega) (by omega)) ?_
    rw [nI_clamp (by omega)]
    refine mx_al0 d_Mo_logs_95 ?_
    refine mx_getR d_Mo_logs_96 fl_Mo_7 (by assumption) (by assumption) ?_
    refine mx_sip 264 d_Mo_logs_99 (by decide) ?_
    refine mx_il5 d_Mo_logs_102 ?_
    refine mx_iast d_Mo_logs_104 (by assumption) (nI_inb (by omega) (by omega)) ?_
    rw [nI_clamp (by omega)]
    refine mx_al0 d_Mo_logs_105 ?_
    refine mx_getR d_Mo_logs_106 fl_Mo_7 (by assumption) (by assumption) ?_
    refine mx_bip 9 d_Mo_logs_109 (by decide) ?_
    refine mx_bip 60 d_Mo_logs_111 (by decide) ?_
    refine mx_al0 d_Mo_logs_113 ?_
    refine mx_getR d_Mo_logs_114 fl_Mo_7 (by assumption) (by assumption) ?_
    refine mx_bip 9 d_Mo_logs_117 (by decide) ?_
    refine mx_iald d_Mo_logs_119 (by assumption) (nI_inb (by omega) (by omega)) ?_
    refine mx_ti (y := (mx_up (mx_up (mx_up (mx_up (mx_up (mx_up (vs_rw I (mo + 1) (w_sh m 354)) (mo + 1) (259) ((m 6))) (mo + 1) (260) (b)) (mo + 1) (261) (c)) (mo + 1) (262) (d)) (mo + 1) (263) (e)) (mo + 1) (264) (f)) (mo + 1) (9)) (by rw [nI_clamp (by omega)]) ?_
    refine mx_ti (y := (m 9)) ((by simp [mx_up]; rw [vs_rw_at]; exact w_sh_n (by omega))) ?_
    refine mx_in_1 d_Mo_logs_120 ?_
    refine mx_iadd d_Mo_logs_121 ?_
    refine mx_cS2i d_Mo_logs_122 (c_Mo_lesser) ok_Mo_lesser ml_Mo_124 (by decide) (Nat.le_of_ble_eq_true rfl) ?_
    refine mx_ti (y := (mn9 (m 9 + nI 1) (nI 60))) ((mn9_le _ _)) ?_
    refine mx_iast d_Mo_logs_125 (by assumption) (nI_inb (by omega) (by omega)) ?_
    rw [nI_clamp (by omega)]
    exact mx_vret d_Mo_logs_126 rfl (mx_rv_of (by rw [w_lg_fin]))
end AF40
