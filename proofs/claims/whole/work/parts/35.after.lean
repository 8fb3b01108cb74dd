/-! AFTERNOON, LEND -/
section AA35
variable {l : Launch} {E : mx_Env} {t : Nat} {S : mx_S} {I : mx_I} {P : mx_P} {J : mx_G} {m : Nat → Int32} {x mo H G n : Nat}
def vs_gA (m : Nat → Int32) (q a b : Nat) : Nat := if vs_can m a b q = true then 1 else 0
def vs_gL (m : Nat → Int32) (H a b : Nat) : Nat := if vs_busyK m (nI a) H = 0 ∧ vs_seesK m b 8 = 0 ∧ vs_may m b a = true then RK m b a else 0
theorem vs_gA_le (m : Nat → Int32) (q : Nat) {H G : Nat} (hH : H ≤ 8) (hG : G ≤ 8) : ∀ a b, gcut (vs_gA m q) H G a b ≤ 9 := gcut_le (fun a b _ _ => by unfold vs_gA; split <;> omega) hH hG
theorem vs_gL_le (hr : rk9 m) (H9 : Nat) {H G : Nat} (hH : H ≤ 8) (hG : G ≤ 8) : ∀ a b, gcut (vs_gL m H9) G H a b ≤ 9 := gcut_le (fun a b ha hb => by unfold vs_gL; split; exact (hr.r hb ha).1; omega) hG hH
def sp_afternoon (m : Nat → Int32) (H G : Nat) (v w : Int32) : Nat × Int32 := if vs_isN v 8 then (if w = -1 then (0, nI (vs_op (gcut (vs_gA m v.toNatClampNeg) H G) H G H 0)) else if vs_isN w H then (0, mtv (op_way (gcut (vs_gA m v.toNatClampNeg) H G) H G (w.toNatClampNeg + 1)).2) else (1, nI 0)) else (1, nI 0)
def sp_lend (m : Nat → Int32) (H G : Nat) (v : Int32) : Nat × Int32 := if v = -1 then (0, nI (vs_op (gcut (vs_gL m H) G H) G H G 0)) else if vs_isN v G then (0, mtv (op_way (gcut (vs_gL m H) G H) G H (v.toNatClampNeg + 1)).2) else (1, nI 0)
theorem vs_b255 {b : Nat} (hb : b < 8) : bt (nI 255) b = true := (by decide +kernel : ∀ b, b < 8 → bt (nI 255) b = true) b hb
/-- the gains are told: MATCH is ready -/
theorem al_rel {K : mx_I} {ma R C : Nat} {g : Nat → Nat → Nat} (h : al_inv (vs_fill (mx_up (mx_up I ma 0 (nI R)) ma 1 (nI C)) (ma + 1) 64 (nI 0)) K ma g C R 0) : ma_rel K ma (gcut g R C) R C := by
  refine ⟨?_, ?_, al_end h⟩
  · rw [mx_offn h.1 (show ma ≠ ma + 1 by omega)]; simp [vs_fill, mx_up]
  · rw [mx_offn h.1 (show ma ≠ ma + 1 by omega)]; simp [vs_fill, mx_up]
theorem al_oth {K : mx_I} {ma R C a b c : Nat} {g : Nat → Nat → Nat} (h : al_inv (vs_fill (mx_up (mx_up I ma 0 (nI R)) ma 1 (nI C)) (ma + 1) 64 (nI 0)) K ma g C a b) (h1 : c ≠ ma) (h2 : c ≠ ma + 1) : K c = I c := by
  rw [mx_offn h.1 h2]; funext j; simp [vs_fill, mx_up, h1, h2]
theorem al_init {ma R C : Nat} {g : Nat → Nat → Nat} : al_inv (vs_fill (mx_up (mx_up I ma 0 (nI R)) ma 1 (nI C)) (ma + 1) 64 (nI 0)) (vs_fill (mx_up (mx_up I ma 0 (nI R)) ma 1 (nI C)) (ma + 1) 64 (nI 0)) ma g C 0 0 := al_inv0 (fun i hi => by simp [vs_fill, hi])
theorem ma_fin {x a b R C : Nat} {K K2 : mx_I} {g : Nat → Nat → Nat} (h : al_inv (vs_fill (mx_up (mx_up I (x + 9) 0 (nI R)) (x + 9) 1 (nI C)) (x + 9 + 1) 64 (nI 0)) K (x + 9) g C a b) (h2 : mx_off (fun c => c = x + 9 + 2) K K2) : mx_off (fun c => x + 9 ≤ c ∧ c ≤ x + 11) I K2 := fun c hc => by
  have hc : ¬ (x + 9 ≤ c ∧ c ≤ x + 11) := hc
  rw [mx_offn h2 (by omega)]
  exact al_oth h (by omega) (by omega)
theorem c_Vh_afternoon (htr : l.stackTraces = false) (hV : vh_ok S P x) (hSt : st_ok S P (x + 23)) (hSr : st_rel I (x + 23) m) (hH : m 3 = nI H) (hH8 : H ≤ 8) (hG : m 4 = nI G) (hG8 : G ≤ 8) (hMa : ma_ok S P (x + 9)) (hr : rk9 m) {v w : Int32} : mx_C l E M_Vh_afternoon 7 2 12 [.ref (x), .int (v), .int (w)] (t, S, I, P, J) (mx_pR (fun _ => "java/lang/IndexOutOfBoundsException") (sp_afternoon m H G v w) t S P J (fun K => mx_off (fun c => x + 9 ≤ c ∧ c ≤ x + 11) I K)) := by
  obtain ⟨hV0, hVp0, hVp1, hVp2, hVp3, hVp4, hVp5, hVp7, hVp8, hVp9, hVp10, hVp11, hVp12, hVs15, hVs16, hVs68⟩ := id hV
  obtain ⟨hC0, hC1, hC2, hC3, hC4, hC5, hC6, hD1, hD2, hD3, hD4, hPe, hLo⟩ := id hSt
  obtain ⟨hPr, u0, u1, u2, u3, u4, u5, u6, u7, u8⟩ := id hSr
  obtain ⟨hA0, hA1, hA2, hA3, hA4, hA5, hA6, hA7, hB1, hB2, hB3, hB4, hB5, hB6, hB7⟩ := id hPe
  obtain ⟨r0, r1, r2, r3, r4, r5, r6, r7, r8⟩ := id hPr
  have hSrI := hSr
  have hMz := hMa.1
  have hk := hr.ok
  refine mx_C_of (ls0 := [some (.ref (x)), some (.int (v)), some (.int (w)), none, none]) (by decide +kernel) rfl rfl (Nat.le_of_ble_eq_true rfl) rfl ?_
  refine mx_il1 d_Vh_afternoon_0 ?_
  refine mx_nS1 d_Vh_afternoon_1 (c_needQuarter htr) ok_Vh_needQuarter ml_Vh_226 rfl (by decide) (by decide) (by decide) (Nat.le_of_ble_eq_true rfl) (fun hb1 t9 ht => mx_pR_x ht 0 (by simp_all [sp_afternoon]) rfl mx_off.rf) (fun hb1 => ?_)
  obtain ⟨q, hqL, rfl⟩ := vs_isN_of (by omega) hb1
  have hqc : (nI q).toNatClampNeg = q := nI_clamp (by omega)
  have hqL8 : q < 8 := by omega
  refine mx_il2 d_Vh_afternoon_4 ?_
  refine mx_ic_m1 d_Vh_afternoon_5 ?_
  refine mx_icmp_eq 14 d_Vh_afternoon_6 (by decide) (fun c_6 => ?_) (fun c_6 => ?_)
  · skip
    refine mx_al0 d_Vh_afternoon_14 ?_
    refine mx_getR d_Vh_afternoon_15 fl_Vh_23 (by assumption) (by assumption) ?_
    refine mx_al0 d_Vh_afternoon_18 ?_
    refine mx_getR d_Vh_afternoon_19 fl_Vh_51 (by assumption) (by assumption) ?_
    refine mx_getR d_Vh_afternoon_22 fl_Vh_162 (by assumption) (by assumption) ?_
    refine mx_getI d_Vh_afternoon_25 fl_Vh_290 (by assumption) ?_
    refine mx_ti (y := nI (H)) (r0.trans hH) ?_
    refine mx_al0 d_Vh_afternoon_28 ?_
    refine mx_getR d_Vh_afternoon_29 fl_Vh_51 (by assumption) (by assumption) ?_
    refine mx_getR d_Vh_afternoon_32 fl_Vh_162 (by assumption) (by assumption) ?_
    refine mx_getI d_Vh_afternoon_35 fl_Vh_325 (by assumption) ?_
    refine mx_ti (y := nI (G)) (r1.trans hG) ?_
    refine mx_cV2v d_Vh_afternoon_38 (c_Ma_begin hMa (R := H) (C := G)) ok_Ma_begin ml_Vh_336 (by assumption) ⟨rfl, rfl⟩ (by decide) (Nat.le_of_ble_eq_true rfl) ?_
    refine mx_in_0 d_Vh_afternoon_41 ?_
    refine mx_is3 d_Vh_afternoon_42 ?_
    refine mx_loopX (α := (mx_I)) (N := H) (a0 := (vs_fill (mx_up (mx_up I (x + 9) 0 (nI (H))) (x + 9) 1 (nI (G))) (x + 9 + 1) 64 (nI (0)))) (fun a z9 => al_inv (vs_fill (mx_up (mx_up I (x + 9) 0 (nI (H))) (x + 9) 1 (nI (G))) (x + 9 + 1) 64 (nI (0))) z9 (x + 9) (vs_gA m q) G a 0) (ls := fun a z9 => [some (.ref (x)), some (.int (nI (q))), some (.int (w)), some (.int (nI (a))), none]) (X := fun a z9 => (t, S, z9, P, J)) (al_init) (fun a ha z9 hinv ih => ?_) (fun z9 hinv => ?_)
    · skip
      obtain ⟨K, hz9⟩ : ∃ q, q = z9 := ⟨_, rfl⟩
      subst hz9
      try dsimp only at hinv ih ⊢
      have hKI : ∀ c, c ≠ x + 9 → c ≠ x + 9 + 1 → K c = I c := fun c h1 h2 => al_oth hinv h1 h2
      have hSr : st_rel K (x + 23) m := hSrI.congr (fun c h1 h2 => hKI c (by omega) (by omega))
      have hPr : pe_rel K (x + 23 + 1) m := hSr.1
      refine mx_il3 d_Vh_afternoon_43 ?_
      refine mx_al0 d_Vh_afternoon_44 ?_
      refine mx_getR d_Vh_afternoon_45 fl_Vh_51 (by assumption) (by assumption) ?_
      refine mx_getR d_Vh_afternoon_48 fl_Vh_162 (by assumption) (by assumption) ?_
      refine mx_getI d_Vh_afternoon_51 fl_Vh_290 (by assumption) ?_
      refine mx_ti (y := nI (H)) (hPr.1.trans hH) ?_
      refine mx_icN_ge 119 d_Vh_afternoon_54 (by decide) (by omega) (by omega) (fun c_54 => absurd c_54 (by omega)) (fun c_54 => ?_)
      refine mx_in_0 d_Vh_afternoon_57 ?_
      refine mx_is4 d_Vh_afternoon_58 ?_
      have ih43 := ih
      have hinv43 := hinv
      refine mx_loopX (α := (mx_I)) (N := G) (a0 := K) (fun b z9 => al_inv (vs_fill (mx_up (mx_up I (x + 9) 0 (nI (H))) (x + 9) 1 (nI (G))) (x + 9 + 1) 64 (nI (0))) z9 (x + 9) (vs_gA m q) G a b) (ls := fun b z9 => [some (.ref (x)), some (.int (nI (q))), some (.int (w)), some (.int (nI (a))), some (.int (nI (b)))]) (X := fun b z9 => (t, S, z9, P, J)) (hinv) (fun b hb z9 hinv ih => ?_) (fun z9 hinv => ?_)
      · skip
        obtain ⟨K, hz9⟩ : ∃ q, q = z9 := ⟨_, rfl⟩
        subst hz9
        try dsimp only at hinv ih ⊢
        have hKI : ∀ c, c ≠ x + 9 → c ≠ x + 9 + 1 → K c = I c := fun c h1 h2 => al_oth hinv h1 h2
        have hSr : st_rel K (x + 23) m := hSrI.congr (fun c h1 h2 => hKI c (by omega) (by omega))
        have hPr : pe_rel K (x + 23 + 1) m := hSr.1
        refine mx_il4 d_Vh_afternoon_60 ?_
        refine mx_al0 d_Vh_afternoon_62 ?_
        refine mx_getR d_Vh_afternoon_63 fl_Vh_51 (by assumption) (by assumption) ?_
        refine mx_getR d_Vh_afternoon_66 fl_Vh_162 (by assumption) (by assumption) ?_
        refine mx_getI d_Vh_afternoon_69 fl_Vh_325 (by assumption) ?_
        refine mx_ti (y := nI (G)) (hPr.2.1.trans hG) ?_
        refine mx_icN_ge 113 d_Vh_afternoon_72 (by decide) (by omega) (by omega) (fun c_72 => absurd c_72 (by omega)) (fun c_72 => ?_)
        refine mx_al0 d_Vh_afternoon_75 ?_
        refine mx_getR d_Vh_afternoon_76 fl_Vh_23 (by assumption) (by assumption) ?_
        refine mx_il3 d_Vh_afternoon_79 ?_
        refine mx_il4 d_Vh_afternoon_80 ?_
        refine mx_al0 d_Vh_afternoon_82 ?_
        refine mx_getR d_Vh_afternoon_83 fl_Vh_51 (by assumption) (by assumption) ?_
        refine mx_getR d_Vh_afternoon_86 fl_Vh_162 (by assumption) (by assumption) ?_
        refine mx_il3 d_Vh_afternoon_89 ?_
        refine mx_il4 d_Vh_afternoon_90 ?_
        refine mx_il1 d_Vh_afternoon_92 ?_
        refine mx_cV3i d_Vh_afternoon_93 (c_Pe_canMeet hPe hPr hk (h := a) (g := b) (q := q) (by omega) (by omega) (by omega)) ok_Pe_canMeet ml_Vh_237 (by assumption) ⟨rfl, rfl⟩ (by decide) (Nat.le_of_ble_eq_true rfl) ?_
        refine mx_ifB_eq 103 d_Vh_afternoon_96 (by decide) (fun c_96 => ?_) (fun c_96 => ?_)
        · skip
          refine mx_in_0 d_Vh_afternoon_103 ?_
          refine mx_cV3v d_Vh_afternoon_104 (c_Ma_allow hMa (a := a) (b := b) (by omega) (by omega)) ok_Ma_allow ml_Vh_339 (by assumption) ⟨rfl, rfl⟩ (by decide) (Nat.le_of_ble_eq_true rfl) ?_
          refine mx_iN4 d_Vh_afternoon_107 ?_
          refine mx_goto 60 d_Vh_afternoon_110 (by decide) ?_
          exact ih (mx_up K (x + 9 + 1) (8 * (a) + b) (nI (0))) (al_step (by omega) hG8 hinv (by unfold vs_gA; rw [c_96]; rfl))
        · skip
          refine mx_in_1 d_Vh_afternoon_99 ?_
          refine mx_goto 104 d_Vh_afternoon_100 (by decide) ?_
          refine mx_cV3v d_Vh_afternoon_104 (c_Ma_allow hMa (a := a) (b := b) (by omega) (by omega)) ok_Ma_allow ml_Vh_339 (by assumption) ⟨rfl, rfl⟩ (by decide) (Nat.le_of_ble_eq_true rfl) ?_
          refine mx_iN4 d_Vh_afternoon_107 ?_
          refine mx_goto 60 d_Vh_afternoon_110 (by decide) ?_
          exact ih (mx_up K (x + 9 + 1) (8 * (a) + b) (nI (1))) (al_step (by omega) hG8 hinv (by unfold vs_gA; rw [c_96]; rfl))
      · skip
        obtain ⟨K, hz9⟩ : ∃ q, q = z9 := ⟨_, rfl⟩
        subst hz9
        try dsimp only at hinv ⊢
        have hKI : ∀ c, c ≠ x + 9 → c ≠ x + 9 + 1 → K c = I c := fun c h1 h2 => al_oth hinv h1 h2
        have hSr : st_rel K (x + 23) m := hSrI.congr (fun c h1 h2 => hKI c (by omega) (by omega))
        have hPr : pe_rel K (x + 23 + 1) m := hSr.1
        refine mx_il4 d_Vh_afternoon_60 ?_
        refine mx_al0 d_Vh_afternoon_62 ?_
        refine mx_getR d_Vh_afternoon_63 fl_Vh_51 (by assumption) (by assumption) ?_
        refine mx_getR d_Vh_afternoon_66 fl_Vh_162 (by assumption) (by assumption) ?_
        refine mx_getI d_Vh_afternoon_69 fl_Vh_325 (by assumption) ?_
        refine mx_ti (y := nI (G)) (hPr.2.1.trans hG) ?_
        refine mx_icN_ge 113 d_Vh_afternoon_72 (by decide) (by omega) (by omega) (fun c_72 => ?_) (fun c_72 => absurd c_72 (by omega))
        refine mx_iN3 d_Vh_afternoon_113 ?_
        refine mx_goto 43 d_Vh_afternoon_116 (by decide) ?_
        refine mx_dn4 ?_
        exact ih K (al_next hinv)
    · skip
      obtain ⟨K, hz9⟩ : ∃ q, q = z9 := ⟨_, rfl⟩
      subst hz9
      try dsimp only at hinv ⊢
      have hKI : ∀ c, c ≠ x + 9 → c ≠ x + 9 + 1 → K c = I c := fun c h1 h2 => al_oth hinv h1 h2
      have hSr : st_rel K (x + 23) m := hSrI.congr (fun c h1 h2 => hKI c (by omega) (by omega))
      have hPr : pe_rel K (x + 23 + 1) m := hSr.1
      refine mx_il3 d_Vh_afternoon_43 ?_
      refine mx_al0 d_Vh_afternoon_44 ?_
      refine mx_getR d_Vh_afternoon_45 fl_Vh_51 (by assumption) (by assumption) ?_
      refine mx_getR d_Vh_afternoon_48 fl_Vh_162 (by assumption) (by assumption) ?_
      refine mx_getI d_Vh_afternoon_51 fl_Vh_290 (by assumption) ?_
      refine mx_ti (y := nI (H)) (hPr.1.trans hH) ?_
      refine mx_icN_ge 119 d_Vh_afternoon_54 (by decide) (by omega) (by omega) (fun c_54 => ?_) (fun c_54 => absurd c_54 (by omega))
      refine mx_al0 d_Vh_afternoon_119 ?_
      refine mx_getR d_Vh_afternoon_120 fl_Vh_23 (by assumption) (by assumption) ?_
      refine mx_cV0vR d_Vh_afternoon_123 (c_Ma_solve hMa (al_rel hinv) (vs_gA_le m q hH8 hG8) hH8 hG8) ok_Ma_solve ml_Vh_342 (by assumption) ⟨rfl, rfl⟩ (by decide) (Nat.le_of_ble_eq_true rfl) (fun K2 hK2 => ?_)
      refine mx_il2 d_Vh_afternoon_126 ?_
      refine mx_ic_m1 d_Vh_afternoon_127 ?_
      refine mx_icmp_ne 141 d_Vh_afternoon_128 (by decide) (fun c_128 => absurd c_128 (fun z => z c_6)) (fun c_128 => ?_)
      refine mx_al0 d_Vh_afternoon_131 ?_
      refine mx_getR d_Vh_afternoon_132 fl_Vh_23 (by assumption) (by assumption) ?_
      refine mx_cV0i d_Vh_afternoon_135 (c_Ma_total hMa hK2.2) ok_Ma_total ml_Vh_345 (by assumption) ⟨rfl, rfl⟩ (by decide) (Nat.le_of_ble_eq_true rfl) ?_
      refine mx_goto 149 d_Vh_afternoon_138 (by decide) ?_
      exact mx_iret d_Vh_afternoon_149 rfl (mx_pR_i (by simp [sp_afternoon, *]) (ma_fin hinv hK2.1))
  · skip
    refine mx_al0 d_Vh_afternoon_9 ?_
    refine mx_il2 d_Vh_afternoon_10 ?_
    refine mx_nV1 d_Vh_afternoon_11 (c_needHost htr hV hSt hSr hH hH8) ok_Vh_needHost ml_Vh_159 (by assumption) ⟨rfl, rfl⟩ rfl (by decide) (by decide) (by decide) (Nat.le_of_ble_eq_true rfl) (fun hb11 t9 ht => mx_pR_x ht 0 (by simp_all [sp_afternoon]) rfl mx_off.rf) (fun hb11 => ?_)
    obtain ⟨h, hhL, rfl⟩ := vs_isN_of (by omega) hb11
    have hhc : (nI h).toNatClampNeg = h := nI_clamp (by omega)
    have hhL8 : h < 8 := by omega
    refine mx_al0 d_Vh_afternoon_14 ?_
    refine mx_getR d_Vh_afternoon_15 fl_Vh_23 (by assumption) (by assumption) ?_
    refine mx_al0 d_Vh_afternoon_18 ?_
    refine mx_getR d_Vh_afternoon_19 fl_Vh_51 (by assumption) (by assumption) ?_
    refine mx_getR d_Vh_afternoon_22 fl_Vh_162 (by assumption) (by assumption) ?_
    refine mx_getI d_Vh_afternoon_25 fl_Vh_290 (by assumption) ?_
    refine mx_ti (y := nI (H)) (r0.trans hH) ?_
    refine mx_al0 d_Vh_afternoon_28 ?_
    refine mx_getR d_Vh_afternoon_29 fl_Vh_51 (by assumption) (by assumption) ?_
    refine mx_getR d_Vh_afternoon_32 fl_Vh_162 (by assumption) (by assumption) ?_
    refine mx_getI d_Vh_afternoon_35 fl_Vh_325 (by assumption) ?_
    refine mx_ti (y := nI (G)) (r1.trans hG) ?_
    refine mx_cV2v d_Vh_afternoon_38 (c_Ma_begin hMa (R := H) (C := G)) ok_Ma_begin ml_Vh_336 (by assumption) ⟨rfl, rfl⟩ (by decide) (Nat.le_of_ble_eq_true rfl) ?_
    refine mx_in_0 d_Vh_afternoon_41 ?_
    refine mx_is3 d_Vh_afternoon_42 ?_
    refine mx_loopX (α := (mx_I)) (N := H) (a0 := (vs_fill (mx_up (mx_up I (x + 9) 0 (nI (H))) (x + 9) 1 (nI (G))) (x + 9 + 1) 64 (nI (0)))) (fun a z9 => al_inv (vs_fill (mx_up (mx_up I (x + 9) 0 (nI (H))) (x + 9) 1 (nI (G))) (x + 9 + 1) 64 (nI (0))) z9 (x + 9) (vs_gA m q) G a 0) (ls := fun a z9 => [some (.ref (x)), some (.int (nI (q))), some (.int (nI (h))), some (.int (nI (a))), none]) (X := fun a z9 => (t, S, z9, P, J)) (al_init) (fun a ha z9 hinv ih => ?_) (fun z9 hinv => ?_)
    · skip
      obtain ⟨K, hz9⟩ : ∃ q, q = z9 := ⟨_, rfl⟩
      subst hz9
      try dsimp only at hinv ih ⊢
      have hKI : ∀ c, c ≠ x + 9 → c ≠ x + 9 + 1 → K c = I c := fun c h1 h2 => al_oth hinv h1 h2
      have hSr : st_rel K (x + 23) m := hSrI.congr (fun c h1 h2 => hKI c (by omega) (by omega))
      have hPr : pe_rel K (x + 23 + 1) m := hSr.1
      refine mx_il3 d_Vh_afternoon_43 ?_
      refine mx_al0 d_Vh_afternoon_44 ?_
      refine mx_getR d_Vh_afternoon_45 fl_Vh_51 (by assumption) (by assumption) ?_
      refine mx_getR d_Vh_afternoon_48 fl_Vh_162 (by assumption) (by assumption) ?_
      refine mx_getI d_Vh_afternoon_51 fl_Vh_290 (by assumption) ?_
      refine mx_ti (y := nI (H)) (hPr.1.trans hH) ?_
      refine mx_icN_ge 119 d_Vh_afternoon_54 (by decide) (by omega) (by omega) (fun c_54 => absurd c_54 (by omega)) (fun c_54 => ?_)
      refine mx_in_0 d_Vh_afternoon_57 ?_
      refine mx_is4 d_Vh_afternoon_58 ?_
      have ih43 := ih
      have hinv43 := hinv
      refine mx_loopX (α := (mx_I)) (N := G) (a0 := K) (fun b z9 => al_inv (vs_fill (mx_up (mx_up I (x + 9) 0 (nI (H))) (x + 9) 1 (nI (G))) (x + 9 + 1) 64 (nI (0))) z9 (x + 9) (vs_gA m q) G a b) (ls := fun b z9 => [some (.ref (x)), some (.int (nI (q))), some (.int (nI (h))), some (.int (nI (a))), some (.int (nI (b)))]) (X := fun b z9 => (t, S, z9, P, J)) (hinv) (fun b hb z9 hinv ih => ?_) (fun z9 hinv => ?_)
      · skip
        obtain ⟨K, hz9⟩ : ∃ q, q = z9 := ⟨_, rfl⟩
        subst hz9
        try dsimp only at hinv ih ⊢
        have hKI : ∀ c, c ≠ x + 9 → c ≠ x + 9 + 1 → K c = I c := fun c h1 h2 => al_oth hinv h1 h2
        have hSr : st_rel K (x + 23) m := hSrI.congr (fun c h1 h2 => hKI c (by omega) (by omega))
        have hPr : pe_rel K (x + 23 + 1) m := hSr.1
        refine mx_il4 d_Vh_afternoon_60 ?_
        refine mx_al0 d_Vh_afternoon_62 ?_
        refine mx_getR d_Vh_afternoon_63 fl_Vh_51 (by assumption) (by assumption) ?_
        refine mx_getR d_Vh_afternoon_66 fl_Vh_162 (by assumption) (by assumption) ?_
        refine mx_getI d_Vh_afternoon_69 fl_Vh_325 (by assumption) ?_
        refine mx_ti (y := nI (G)) (hPr.2.1.trans hG) ?_
        refine mx_icN_ge 113 d_Vh_afternoon_72 (by decide) (by omega) (by omega) (fun c_72 => absurd c_72 (by omega)) (fun c_72 => ?_)
        refine mx_al0 d_Vh_afternoon_75 ?_
        refine mx_getR d_Vh_afternoon_76 fl_Vh_23 (by assumption) (by assumption) ?_
        refine mx_il3 d_Vh_afternoon_79 ?_
        refine mx_il4 d_Vh_afternoon_80 ?_
        refine mx_al0 d_Vh_afternoon_82 ?_
        refine mx_getR d_Vh_afternoon_83 fl_Vh_51 (by assumption) (by assumption) ?_
        refine mx_getR d_Vh_afternoon_86 fl_Vh_162 (by assumption) (by assumption) ?_
        refine mx_il3 d_Vh_afternoon_89 ?_
        refine mx_il4 d_Vh_afternoon_90 ?_
        refine mx_il1 d_Vh_afternoon_92 ?_
        refine mx_cV3i d_Vh_afternoon_93 (c_Pe_canMeet hPe hPr hk (h := a) (g := b) (q := q) (by omega) (by omega) (by omega)) ok_Pe_canMeet ml_Vh_237 (by assumption) ⟨rfl, rfl⟩ (by decide) (Nat.le_of_ble_eq_true rfl) ?_
        refine mx_ifB_eq 103 d_Vh_afternoon_96 (by decide) (fun c_96 => ?_) (fun c_96 => ?_)
        · skip
          refine mx_in_0 d_Vh_afternoon_103 ?_
          refine mx_cV3v d_Vh_afternoon_104 (c_Ma_allow hMa (a := a) (b := b) (by omega) (by omega)) ok_Ma_allow ml_Vh_339 (by assumption) ⟨rfl, rfl⟩ (by decide) (Nat.le_of_ble_eq_true rfl) ?_
          refine mx_iN4 d_Vh_afternoon_107 ?_
          refine mx_goto 60 d_Vh_afternoon_110 (by decide) ?_
          exact ih (mx_up K (x + 9 + 1) (8 * (a) + b) (nI (0))) (al_step (by omega) hG8 hinv (by unfold vs_gA; rw [c_96]; rfl))
        · skip
          refine mx_in_1 d_Vh_afternoon_99 ?_
          refine mx_goto 104 d_Vh_afternoon_100 (by decide) ?_
          refine mx_cV3v d_Vh_afternoon_104 (c_Ma_allow hMa (a := a) (b := b) (by omega) (by omega)) ok_Ma_allow ml_Vh_339 (by assumption) ⟨rfl, rfl⟩ (by decide) (Nat.le_of_ble_eq_true rfl) ?_
          refine mx_iN4 d_Vh_afternoon_107 ?_
          refine mx_goto 60 d_Vh_afternoon_110 (by decide) ?_
          exact ih (mx_up K (x + 9 + 1) (8 * (a) + b) (nI (1))) (al_step (by omega) hG8 hinv (by unfold vs_gA; rw [c_96]; rfl))
      · skip
        obtain ⟨K, hz9⟩ : ∃ q, q = z9 := ⟨_, rfl⟩
        subst hz9
        try dsimp only at hinv ⊢
        have hKI : ∀ c, c ≠ x + 9 → c ≠ x + 9 + 1 → K c = I c := fun c h1 h2 => al_oth hinv h1 h2
        have hSr : st_rel K (x + 23) m := hSrI.congr (fun c h1 h2 => hKI c (by omega) (by omega))
        have hPr : pe_rel K (x + 23 + 1) m := hSr.1
        refine mx_il4 d_Vh_afternoon_60 ?_
        refine mx_al0 d_Vh_afternoon_62 ?_
        refine mx_getR d_Vh_afternoon_63 fl_Vh_51 (by assumption) (by assumption) ?_
        refine mx_getR d_Vh_afternoon_66 fl_Vh_162 (by assumption) (by assumption) ?_
        refine mx_getI d_Vh_afternoon_69 fl_Vh_325 (by assumption) ?_
        refine mx_ti (y := nI (G)) (hPr.2.1.trans hG) ?_
        refine mx_icN_ge 113 d_Vh_afternoon_72 (by decide) (by omega) (by omega) (fun c_72 => ?_) (fun c_72 => absurd c_72 (by omega))
        refine mx_iN3 d_Vh_afternoon_113 ?_
        refine mx_goto 43 d_Vh_afternoon_116 (by decide) ?_
        refine mx_dn4 ?_
        exact ih K (al_next hinv)
    · skip
      obtain ⟨K, hz9⟩ : ∃ q, q = z9 := ⟨_, rfl⟩
      subst hz9
      try dsimp only at hinv ⊢
      have hKI : ∀ c, c ≠ x + 9 → c ≠ x + 9 + 1 → K c = I c := fun c h1 h2 => al_oth hinv h1 h2
      have hSr : st_rel K (x + 23) m := hSrI.congr (fun c h1 h2 => hKI c (by omega) (by omega))
      have hPr : pe_rel K (x + 23 + 1) m := hSr.1
      refine mx_il3 d_Vh_afternoon_43 ?_
      refine mx_al0 d_Vh_afternoon_44 ?_
      refine mx_getR d_Vh_afternoon_45 fl_Vh_51 (by assumption) (by assumption) ?_
      refine mx_getR d_Vh_afternoon_48 fl_Vh_162 (by assumption) (by assumption) ?_
      refine mx_getI d_Vh_afternoon_51 fl_Vh_290 (by assumption) ?_
      refine mx_ti (y := nI (H)) (hPr.1.trans hH) ?_
      refine mx_icN_ge 119 d_Vh_afternoon_54 (by decide) (by omega) (by omega) (fun c_54 => ?_) (fun c_54 => absurd c_54 (by omega))
      refine mx_al0 d_Vh_afternoon_119 ?_
      refine mx_getR d_Vh_afternoon_120 fl_Vh_23 (by assumption) (by assumption) ?_
      refine mx_cV0vR d_Vh_afternoon_123 (c_Ma_solve hMa (al_rel hinv) (vs_gA_le m q hH8 hG8) hH8 hG8) ok_Ma_solve ml_Vh_342 (by assumption) ⟨rfl, rfl⟩ (by decide) (Nat.le_of_ble_eq_true rfl) (fun K2 hK2 => ?_)
      refine mx_il2 d_Vh_afternoon_126 ?_
      refine mx_ic_m1 d_Vh_afternoon_127 ?_
      refine mx_icmp_ne 141 d_Vh_afternoon_128 (by decide) (fun c_128 => ?_) (fun c_128 => absurd c_128 (nI_m1 (by omega)))
      refine mx_al0 d_Vh_afternoon_141 ?_
      refine mx_getR d_Vh_afternoon_142 fl_Vh_23 (by assumption) (by assumption) ?_
      refine mx_il2 d_Vh_afternoon_145 ?_
      refine mx_cV1i d_Vh_afternoon_146 (c_Ma_columnOf hMa ((al_rel hinv).congr (mx_offn hK2.1 (by omega)) (mx_offn hK2.1 (by omega))) (vs_gA_le m q hH8 hG8) hH8 hG8 hK2.2 (r := h) (by omega)) ok_Ma_columnOf ml_Vh_348 (by assumption) ⟨rfl, rfl⟩ (by decide) (Nat.le_of_ble_eq_true rfl) ?_
      exact mx_iret d_Vh_afternoon_149 rfl (mx_pR_i (by simp [sp_afternoon, *]) (ma_fin hinv hK2.1))
theorem c_Vh_lendingJoy (hV : vh_ok S P x) (hSt : st_ok S P (x + 23)) (hSr : st_rel I (x + 23) m) (hH : m 3 = nI H) (hH8 : H ≤ 8) (hr : rk9 m) {a b : Nat} (ha : a < 8) (hb : b < 8) : mx_C l E M_Vh_lendingJoy 3 0 0 [.ref (x), .int (nI (a)), .int (nI (b))] (t, S, I, P, J) (mx_ri (nI (vs_gL m H a b)) (t, S, I, P, J)) := by
  obtain ⟨hV0, hVp0, hVp1, hVp2, hVp3, hVp4, hVp5, hVp7, hVp8, hVp9, hVp10, hVp11, hVp12, hVs15, hVs16, hVs68⟩ := id hV
  obtain ⟨hC0, hC1, hC2, hC3, hC4, hC5, hC6, hD1, hD2, hD3, hD4, hPe, hLo⟩ := id hSt
  obtain ⟨hPr, u0, u1, u2, u3, u4, u5, u6, u7, u8⟩ := id hSr
  obtain ⟨hA0, hA1, hA2, hA3, hA4, hA5, hA6, hA7, hB1, hB2, hB3, hB4, hB5, hB6, hB7⟩ := id hPe
  obtain ⟨r0, r1, r2, r3, r4, r5, r6, r7, r8⟩ := id hPr
  have hk := hr.ok
  refine mx_C_of (ls0 := [some (.ref (x)), some (.int (nI (a))), some (.int (nI (b))), none]) (by decide +kernel) rfl rfl (Nat.le_of_ble_eq_true rfl) rfl ?_
  refine mx_al0 d_Vh_lendingJoy_0 ?_
  refine mx_getR d_Vh_lendingJoy_1 fl_Vh_51 (by assumption) (by assumption) ?_
  refine mx_il1 d_Vh_lendingJoy_4 ?_
  refine mx_cV1i d_Vh_lendingJoy_5 (c_St_busyOf hSt hSr hH hH8) ok_St_busyOf ml_Vh_211 (by assumption) ⟨rfl, rfl⟩ (by decide) (Nat.le_of_ble_eq_true rfl) ?_
  refine mx_if_ne 41 d_Vh_lendingJoy_8 (by decide) (fun c_8 => ?_) (fun c_8 => ?_)
  · skip
    refine mx_in_0 d_Vh_lendingJoy_41 ?_
    refine mx_is3 d_Vh_lendingJoy_42 ?_
    refine mx_il3 d_Vh_lendingJoy_43 ?_
    refine mx_if_eq 63 d_Vh_lendingJoy_44 (by decide) (fun c_44 => ?_) (fun c_44 => absurd (by decide) c_44)
    refine mx_in_0 d_Vh_lendingJoy_63 ?_
    exact mx_iret d_Vh_lendingJoy_64 rfl (mx_ri_of (by unfold vs_gL; first | (rw [if_pos ⟨c_8, c_19, c_34⟩]; done) | (rw [if_neg (fun z => by simp_all)]; done)))
  · skip
    refine mx_al0 d_Vh_lendingJoy_11 ?_
    refine mx_getR d_Vh_lendingJoy_12 fl_Vh_51 (by assumption) (by assumption) ?_
    refine mx_il2 d_Vh_lendingJoy_15 ?_
    refine mx_cV1i d_Vh_lendingJoy_16 (c_St_seenBy hSt hSr (h := b) (by omega)) ok_St_seenBy ml_Vh_188 (by assumption) ⟨rfl, rfl⟩ (by decide) (Nat.le_of_ble_eq_true rfl) ?_
    refine mx_if_ne 41 d_Vh_lendingJoy_19 (by decide) (fun c_19 => ?_) (fun c_19 => ?_)
    · skip
      refine mx_in_0 d_Vh_lendingJoy_41 ?_
      refine mx_is3 d_Vh_lendingJoy_42 ?_
      refine mx_il3 d_Vh_lendingJoy_43 ?_
      refine mx_if_eq 63 d_Vh_lendingJoy_44 (by decide) (fun c_44 => ?_) (fun c_44 => absurd (by decide) c_44)
      refine mx_in_0 d_Vh_lendingJoy_63 ?_
      exact mx_iret d_Vh_lendingJoy_64 rfl (mx_ri_of (by unfold vs_gL; first | (rw [if_pos ⟨c_8, c_19, c_34⟩]; done) | (rw [if_neg (fun z => by simp_all)]; done)))
    · skip
      refine mx_al0 d_Vh_lendingJoy_22 ?_
      refine mx_getR d_Vh_lendingJoy_23 fl_Vh_51 (by assumption) (by assumption) ?_
      refine mx_getR d_Vh_lendingJoy_26 fl_Vh_162 (by assumption) (by assumption) ?_
      refine mx_il2 d_Vh_lendingJoy_29 ?_
      refine mx_il1 d_Vh_lendingJoy_30 ?_
      refine mx_cV2i d_Vh_lendingJoy_31 (c_Pe_mayMeet hPe hPr hk (h := b) (g := a) (by omega) (by omega)) ok_Pe_mayMeet ml_Vh_485 (by assumption) ⟨rfl, rfl⟩ (by decide) (Nat.le_of_ble_eq_true rfl) ?_
      refine mx_ifB_eq 41 d_Vh_lendingJoy_34 (by decide) (fun c_34 => ?_) (fun c_34 => ?_)
      · skip
        refine mx_in_0 d_Vh_lendingJoy_41 ?_
        refine mx_is3 d_Vh_lendingJoy_42 ?_
        refine mx_il3 d_Vh_lendingJoy_43 ?_
        refine mx_if_eq 63 d_Vh_lendingJoy_44 (by decide) (fun c_44 => ?_) (fun c_44 => absurd (by decide) c_44)
        refine mx_in_0 d_Vh_lendingJoy_63 ?_
        exact mx_iret d_Vh_lendingJoy_64 rfl (mx_ri_of (by unfold vs_gL; first | (rw [if_pos ⟨c_8, c_19, c_34⟩]; done) | (rw [if_neg (fun z => by simp_all)]; done)))
      · skip
        refine mx_in_1 d_Vh_lendingJoy_37 ?_
        refine mx_goto 42 d_Vh_lendingJoy_38 (by decide) ?_
        refine mx_is3 d_Vh_lendingJoy_42 ?_
        refine mx_il3 d_Vh_lendingJoy_43 ?_
        refine mx_if_eq 63 d_Vh_lendingJoy_44 (by decide) (fun c_44 => absurd c_44 (by decide)) (fun c_44 => ?_)
        refine mx_al0 d_Vh_lendingJoy_47 ?_
        refine mx_getR d_Vh_lendingJoy_48 fl_Vh_51 (by assumption) (by assumption) ?_
        refine mx_getR d_Vh_lendingJoy_51 fl_Vh_162 (by assumption) (by assumption) ?_
        refine mx_il2 d_Vh_lendingJoy_54 ?_
        refine mx_il1 d_Vh_lendingJoy_55 ?_
        refine mx_in_1 d_Vh_lendingJoy_56 ?_
        refine mx_cV3i d_Vh_lendingJoy_57 (c_Pe_rank1 hPe hPr (h := b) (g := a) (by omega) (by omega)) ok_Pe_rankOf ml_Vh_222 (by assumption) ⟨rfl, rfl⟩ (by decide) (Nat.le_of_ble_eq_true rfl) ?_
        refine mx_ti (y := nI (RK m b a)) ((hr.r hb ha).2) ?_
        refine mx_goto 64 d_Vh_lendingJoy_60 (by decide) ?_
        exact mx_iret d_Vh_lendingJoy_64 rfl (mx_ri_of (by unfold vs_gL; first | (rw [if_pos ⟨c_8, c_19, c_34⟩]; done) | (rw [if_neg (fun z => by simp_all)]; done)))
theorem c_Vh_lend (htr : l.stackTraces = false) (hV : vh_ok S P x) (hSt : st_ok S P (x + 23)) (hSr : st_rel I (x + 23) m) (hH : m 3 = nI H) (hH8 : H ≤ 8) (hG : m 4 = nI G) (hG8 : G ≤ 8) (hMa : ma_ok S P (x + 9)) (hr : rk9 m) {v : Int32} : mx_C l E M_Vh_lend 7 1 6 [.ref (x), .int (v)] (t, S, I, P, J) (mx_pR (fun _ => "java/lang/IndexOutOfBoundsException") (sp_lend m H G v) t S P J (fun K => mx_off (fun c => x + 9 ≤ c ∧ c ≤ x + 11) I K)) := by
  obtain ⟨hV0, hVp0, hVp1, hVp2, hVp3, hVp4, hVp5, hVp7, hVp8, hVp9, hVp10, hVp11, hVp12, hVs15, hVs16, hVs68⟩ := id hV
  obtain ⟨hC0, hC1, hC2, hC3, hC4, hC5, hC6, hD1, hD2, hD3, hD4, hPe, hLo⟩ := id hSt
  obtain ⟨hPr, u0, u1, u2, u3, u4, u5, u6, u7, u8⟩ := id hSr
  obtain ⟨hA0, hA1, hA2, hA3, hA4, hA5, hA6, hA7, hB1, hB2, hB3, hB4, hB5, hB6, hB7⟩ := id hPe
  obtain ⟨r0, r1, r2, r3, r4, r5, r6, r7, r8⟩ := id hPr
  have hSrI := hSr
  have hMz := hMa.1
  have hk := hr.ok
  refine mx_C_of (ls0 := [some (.ref (x)), some (.int (v)), none, none]) (by decide +kernel) rfl rfl (Nat.le_of_ble_eq_true rfl) rfl ?_
  refine mx_il1 d_Vh_lend_0 ?_
  refine mx_ic_m1 d_Vh_lend_1 ?_
  refine mx_icmp_eq 10 d_Vh_lend_2 (by decide) (fun c_2 => ?_) (fun c_2 => ?_)
  · skip
    refine mx_al0 d_Vh_lend_10 ?_
    refine mx_getR d_Vh_lend_11 fl_Vh_23 (by assumption) (by assumption) ?_
    refine mx_al0 d_Vh_lend_14 ?_
    refine mx_getR d_Vh_lend_15 fl_Vh_51 (by assumption) (by assumption) ?_
    refine mx_getR d_Vh_lend_18 fl_Vh_162 (by assumption) (by assumption) ?_
    refine mx_getI d_Vh_lend_21 fl_Vh_325 (by assumption) ?_
    refine mx_ti (y := nI (G)) (r1.trans hG) ?_
    refine mx_al0 d_Vh_lend_24 ?_
    refine mx_getR d_Vh_lend_25 fl_Vh_51 (by assumption) (by assumption) ?_
    refine mx_getR d_Vh_lend_28 fl_Vh_162 (by assumption) (by assumption) ?_
    refine mx_getI d_Vh_lend_31 fl_Vh_290 (by assumption) ?_
    refine mx_ti (y := nI (H)) (r0.trans hH) ?_
    refine mx_cV2v d_Vh_lend_34 (c_Ma_begin hMa (R := G) (C := H)) ok_Ma_begin ml_Vh_336 (by assumption) ⟨rfl, rfl⟩ (by decide) (Nat.le_of_ble_eq_true rfl) ?_
    refine mx_in_0 d_Vh_lend_37 ?_
    refine mx_is2 d_Vh_lend_38 ?_
    refine mx_loopX (α := (mx_I)) (N := G) (a0 := (vs_fill (mx_up (mx_up I (x + 9) 0 (nI (G))) (x + 9) 1 (nI (H))) (x + 9 + 1) 64 (nI (0)))) (fun a z9 => al_inv (vs_fill (mx_up (mx_up I (x + 9) 0 (nI (G))) (x + 9) 1 (nI (H))) (x + 9 + 1) 64 (nI (0))) z9 (x + 9) (vs_gL m H) H a 0) (ls := fun a z9 => [some (.ref (x)), some (.int (v)), some (.int (nI (a))), none]) (X := fun a z9 => (t, S, z9, P, J)) (al_init) (fun a ha z9 hinv ih => ?_) (fun z9 hinv => ?_)
    · skip
      obtain ⟨K, hz9⟩ : ∃ q, q = z9 := ⟨_, rfl⟩
      subst hz9
      try dsimp only at hinv ih ⊢
      have hKI : ∀ c, c ≠ x + 9 → c ≠ x + 9 + 1 → K c = I c := fun c h1 h2 => al_oth hinv h1 h2
      have hSr : st_rel K (x + 23) m := hSrI.congr (fun c h1 h2 => hKI c (by omega) (by omega))
      have hPr : pe_rel K (x + 23 + 1) m := hSr.1
      refine mx_il2 d_Vh_lend_39 ?_
      refine mx_al0 d_Vh_lend_40 ?_
      refine mx_getR d_Vh_lend_41 fl_Vh_51 (by assumption) (by assumption) ?_
      refine mx_getR d_Vh_lend_44 fl_Vh_162 (by assumption) (by assumption) ?_
      refine mx_getI d_Vh_lend_47 fl_Vh_325 (by assumption) ?_
      refine mx_ti (y := nI (G)) (hPr.2.1.trans hG) ?_
      refine mx_icN_ge 96 d_Vh_lend_50 (by decide) (by omega) (by omega) (fun c_50 => absurd c_50 (by omega)) (fun c_50 => ?_)
      refine mx_in_0 d_Vh_lend_53 ?_
      refine mx_is3 d_Vh_lend_54 ?_
      have ih39 := ih
      have hinv39 := hinv
      refine mx_loopX (α := (mx_I)) (N := H) (a0 := K) (fun b z9 => al_inv (vs_fill (mx_up (mx_up I (x + 9) 0 (nI (G))) (x + 9) 1 (nI (H))) (x + 9 + 1) 64 (nI (0))) z9 (x + 9) (vs_gL m H) H a b) (ls := fun b z9 => [some (.ref (x)), some (.int (v)), some (.int (nI (a))), some (.int (nI (b)))]) (X := fun b z9 => (t, S, z9, P, J)) (hinv) (fun b hb z9 hinv ih => ?_) (fun z9 hinv => ?_)
      · skip
        obtain ⟨K, hz9⟩ : ∃ q, q = z9 := ⟨_, rfl⟩
        subst hz9
        try dsimp only at hinv ih ⊢
        have hKI : ∀ c, c ≠ x + 9 → c ≠ x + 9 + 1 → K c = I c := fun c h1 h2 => al_oth hinv h1 h2
        have hSr : st_rel K (x + 23) m := hSrI.congr (fun c h1 h2 => hKI c (by omega) (by omega))
        have hPr : pe_rel K (x + 23 + 1) m := hSr.1
        refine mx_il3 d_Vh_lend_55 ?_
        refine mx_al0 d_Vh_lend_56 ?_
        refine mx_getR d_Vh_lend_57 fl_Vh_51 (by assumption) (by assumption) ?_
        refine mx_getR d_Vh_lend_60 fl_Vh_162 (by assumption) (by assumption) ?_
        refine mx_getI d_Vh_lend_63 fl_Vh_290 (by assumption) ?_
        refine mx_ti (y := nI (H)) (hPr.1.trans hH) ?_
        refine mx_icN_ge 90 d_Vh_lend_66 (by decide) (by omega) (by omega) (fun c_66 => absurd c_66 (by omega)) (fun c_66 => ?_)
        refine mx_al0 d_Vh_lend_69 ?_
        refine mx_getR d_Vh_lend_70 fl_Vh_23 (by assumption) (by assumption) ?_
        refine mx_il2 d_Vh_lend_73 ?_
        refine mx_il3 d_Vh_lend_74 ?_
        refine mx_al0 d_Vh_lend_75 ?_
        refine mx_il2 d_Vh_lend_76 ?_
        refine mx_il3 d_Vh_lend_77 ?_
        refine mx_cV2i d_Vh_lend_78 (c_Vh_lendingJoy (hV) hSt hSr hH hH8 hr (a := a) (b := b) (by omega) (by omega)) ok_Vh_lendingJoy ml_Vh_377 (by assumption) ⟨rfl, rfl⟩ (by decide) (Nat.le_of_ble_eq_true rfl) ?_
        refine mx_cV3v d_Vh_lend_81 (c_Ma_allow hMa (a := a) (b := b) (by omega) (by omega)) ok_Ma_allow ml_Vh_339 (by assumption) ⟨rfl, rfl⟩ (by decide) (Nat.le_of_ble_eq_true rfl) ?_
        refine mx_iN3 d_Vh_lend_84 ?_
        refine mx_goto 55 d_Vh_lend_87 (by decide) ?_
        exact ih (mx_up K (x + 9 + 1) (8 * (a) + b) (nI (vs_gL m H (a) (b)))) (al_step (by omega) hH8 hinv rfl)
      · skip
        obtain ⟨K, hz9⟩ : ∃ q, q = z9 := ⟨_, rfl⟩
        subst hz9
        try dsimp only at hinv ⊢
        have hKI : ∀ c, c ≠ x + 9 → c ≠ x + 9 + 1 → K c = I c := fun c h1 h2 => al_oth hinv h1 h2
        have hSr : st_rel K (x + 23) m := hSrI.congr (fun c h1 h2 => hKI c (by omega) (by omega))
        have hPr : pe_rel K (x + 23 + 1) m := hSr.1
        refine mx_il3 d_Vh_lend_55 ?_
        refine mx_al0 d_Vh_lend_56 ?_
        refine mx_getR d_Vh_lend_57 fl_Vh_51 (by assumption) (by assumption) ?_
        refine mx_getR d_Vh_lend_60 fl_Vh_162 (by assumption) (by assumption) ?_
        refine mx_getI d_Vh_lend_63 fl_Vh_290 (by assumption) ?_
        refine mx_ti (y := nI (H)) (hPr.1.trans hH) ?_
        refine mx_icN_ge 90 d_Vh_lend_66 (by decide) (by omega) (by omega) (fun c_66 => ?_) (fun c_66 => absurd c_66 (by omega))
        refine mx_iN2 d_Vh_lend_90 ?_
        refine mx_goto 39 d_Vh_lend_93 (by decide) ?_
        refine mx_dn3 ?_
        exact ih K (al_next hinv)
    · skip
      obtain ⟨K, hz9⟩ : ∃ q, q = z9 := ⟨_, rfl⟩
      subst hz9
      try dsimp only at hinv ⊢
      have hKI : ∀ c, c ≠ x + 9 → c ≠ x + 9 + 1 → K c = I c := fun c h1 h2 => al_oth hinv h1 h2
      have hSr : st_rel K (x + 23) m := hSrI.congr (fun c h1 h2 => hKI c (by omega) (by omega))
      have hPr : pe_rel K (x + 23 + 1) m := hSr.1
      refine mx_il2 d_Vh_lend_39 ?_
      refine mx_al0 d_Vh_lend_40 ?_
      refine mx_getR d_Vh_lend_41 fl_Vh_51 (by assumption) (by assumption) ?_
      refine mx_getR d_Vh_lend_44 fl_Vh_162 (by assumption) (by assumption) ?_
      refine mx_getI d_Vh_lend_47 fl_Vh_325 (by assumption) ?_
      refine mx_ti (y := nI (G)) (hPr.2.1.trans hG) ?_
      refine mx_icN_ge 96 d_Vh_lend_50 (by decide) (by omega) (by omega) (fun c_50 => ?_) (fun c_50 => absurd c_50 (by omega))
      refine mx_al0 d_Vh_lend_96 ?_
      refine mx_getR d_Vh_lend_97 fl_Vh_23 (by assumption) (by assumption) ?_
      refine mx_cV0vR d_Vh_lend_100 (c_Ma_solve hMa (al_rel hinv) (vs_gL_le hr H hH8 hG8) hG8 hH8) ok_Ma_solve ml_Vh_342 (by assumption) ⟨rfl, rfl⟩ (by decide) (Nat.le_of_ble_eq_true rfl) (fun K2 hK2 => ?_)
      refine mx_il1 d_Vh_lend_103 ?_
      refine mx_ic_m1 d_Vh_lend_104 ?_
      refine mx_icmp_ne 118 d_Vh_lend_105 (by decide) (fun c_105 => absurd c_105 (fun z => z c_2)) (fun c_105 => ?_)
      refine mx_al0 d_Vh_lend_108 ?_
      refine mx_getR d_Vh_lend_109 fl_Vh_23 (by assumption) (by assumption) ?_
      refine mx_cV0i d_Vh_lend_112 (c_Ma_total hMa hK2.2) ok_Ma_total ml_Vh_345 (by assumption) ⟨rfl, rfl⟩ (by decide) (Nat.le_of_ble_eq_true rfl) ?_
      refine mx_goto 126 d_Vh_lend_115 (by decide) ?_
      exact mx_iret d_Vh_lend_126 rfl (mx_pR_i (by simp [sp_lend, *]) (ma_fin hinv hK2.1))
  · skip
    refine mx_al0 d_Vh_lend_5 ?_
    refine mx_il1 d_Vh_lend_6 ?_
    refine mx_nV1 d_Vh_lend_7 (c_needGuest htr hV hSt hSr hG hG8) ok_Vh_needGuest ml_Vh_199 (by assumption) ⟨rfl, rfl⟩ rfl (by decide) (by decide) (by decide) (Nat.le_of_ble_eq_true rfl) (fun hb7 t9 ht => mx_pR_x ht 0 (by simp_all [sp_lend]) rfl mx_off.rf) (fun hb7 => ?_)
    obtain ⟨g, hgL, rfl⟩ := vs_isN_of (by omega) hb7
    have hgc : (nI g).toNatClampNeg = g := nI_clamp (by omega)
    have hgL8 : g < 8 := by omega
    refine mx_al0 d_Vh_lend_10 ?_
    refine mx_getR d_Vh_lend_11 fl_Vh_23 (by assumption) (by assumption) ?_
    refine mx_al0 d_Vh_lend_14 ?_
    refine mx_getR d_Vh_lend_15 fl_Vh_51 (by assumption) (by assumption) ?_
    refine mx_getR d_Vh_lend_18 fl_Vh_162 (by assumption) (by assumption) ?_
    refine mx_getI d_Vh_lend_21 fl_Vh_325 (by assumption) ?_
    refine mx_ti (y := nI (G)) (r1.trans hG) ?_
    refine mx_al0 d_Vh_lend_24 ?_
    refine mx_getR d_Vh_lend_25 fl_Vh_51 (by assumption) (by assumption) ?_
    refine mx_getR d_Vh_lend_28 fl_Vh_162 (by assumption) (by assumption) ?_
    refine mx_getI d_Vh_lend_31 fl_Vh_290 (by assumption) ?_
    refine mx_ti (y := nI (H)) (r0.trans hH) ?_
    refine mx_cV2v d_Vh_lend_34 (c_Ma_begin hMa (R := G) (C := H)) ok_Ma_begin ml_Vh_336 (by assumption) ⟨rfl, rfl⟩ (by decide) (Nat.le_of_ble_eq_true rfl) ?_
    refine mx_in_0 d_Vh_lend_37 ?_
    refine mx_is2 d_Vh_lend_38 ?_
    refine mx_loopX (α := (mx_I)) (N := G) (a0 := (vs_fill (mx_up (mx_up I (x + 9) 0 (nI (G))) (x + 9) 1 (nI (H))) (x + 9 + 1) 64 (nI (0)))) (fun a z9 => al_inv (vs_fill (mx_up (mx_up I (x + 9) 0 (nI (G))) (x + 9) 1 (nI (H))) (x + 9 + 1) 64 (nI (0))) z9 (x + 9) (vs_gL m H) H a 0) (ls := fun a z9 => [some (.ref (x)), some (.int (nI (g))), some (.int (nI (a))), none]) (X := fun a z9 => (t, S, z9, P, J)) (al_init) (fun a ha z9 hinv ih => ?_) (fun z9 hinv => ?_)
    · skip
      obtain ⟨K, hz9⟩ : ∃ q, q = z9 := ⟨_, rfl⟩
      subst hz9
      try dsimp only at hinv ih ⊢
      have hKI : ∀ c, c ≠ x + 9 → c ≠ x + 9 + 1 → K c = I c := fun c h1 h2 => al_oth hinv h1 h2
      have hSr : st_rel K (x + 23) m := hSrI.congr (fun c h1 h2 => hKI c (by omega) (by omega))
      have hPr : pe_rel K (x + 23 + 1) m := hSr.1
      refine mx_il2 d_Vh_lend_39 ?_
      refine mx_al0 d_Vh_lend_40 ?_
      refine mx_getR d_Vh_lend_41 fl_Vh_51 (by assumption) (by assumption) ?_
      refine mx_getR d_Vh_lend_44 fl_Vh_162 (by assumption) (by assumption) ?_
      refine mx_getI d_Vh_lend_47 fl_Vh_325 (by assumption) ?_
      refine mx_ti (y := nI (G)) (hPr.2.1.trans hG) ?_
      refine mx_icN_ge 96 d_Vh_lend_50 (by decide) (by omega) (by omega) (fun c_50 => absurd c_50 (by omega)) (fun c_50 => ?_)
      refine mx_in_0 d_Vh_lend_53 ?_
      refine mx_is3 d_Vh_lend_54 ?_
      have ih39 := ih
      have hinv39 := hinv
      refine mx_loopX (α := (mx_I)) (N := H) (a0 := K) (fun b z9 => al_inv (vs_fill (mx_up (mx_up I (x + 9) 0 (nI (G))) (x + 9) 1 (nI (H))) (x + 9 + 1) 64 (nI (0))) z9 (x + 9) (vs_gL m H) H a b) (ls := fun b z9 => [some (.ref (x)), some (.int (nI (g))), some (.int (nI (a))), some (.int (nI (b)))]) (X := fun b z9 => (t, S, z9, P, J)) (hinv) (fun b hb z9 hinv ih => ?_) (fun z9 hinv => ?_)
      · skip
        obtain ⟨K, hz9⟩ : ∃ q, q = z9 := ⟨_, rfl⟩
        subst hz9
        try dsimp only at hinv ih ⊢
        have hKI : ∀ c, c ≠ x + 9 → c ≠ x + 9 + 1 → K c = I c := fun c h1 h2 => al_oth hinv h1 h2
        have hSr : st_rel K (x + 23) m := hSrI.congr (fun c h1 h2 => hKI c (by omega) (by omega))
        have hPr : pe_rel K (x + 23 + 1) m := hSr.1
        refine mx_il3 d_Vh_lend_55 ?_
        refine mx_al0 d_Vh_lend_56 ?_
        refine mx_getR d_Vh_lend_57 fl_Vh_51 (by assumption) (by assumption) ?_
        refine mx_getR d_Vh_lend_60 fl_Vh_162 (by assumption) (by assumption) ?_
        refine mx_getI d_Vh_lend_63 fl_Vh_290 (by assumption) ?_
        refine mx_ti (y := nI (H)) (hPr.1.trans hH) ?_
        refine mx_icN_ge 90 d_Vh_lend_66 (by decide) (by omega) (by omega) (fun c_66 => absurd c_66 (by omega)) (fun c_66 => ?_)
        refine mx_al0 d_Vh_lend_69 ?_
        refine mx_getR d_Vh_lend_70 fl_Vh_23 (by assumption) (by assumption) ?_
        refine mx_il2 d_Vh_lend_73 ?_
        refine mx_il3 d_Vh_lend_74 ?_
        refine mx_al0 d_Vh_lend_75 ?_
        refine mx_il2 d_Vh_lend_76 ?_
        refine mx_il3 d_Vh_lend_77 ?_
        refine mx_cV2i d_Vh_lend_78 (c_Vh_lendingJoy (hV) hSt hSr hH hH8 hr (a := a) (b := b) (by omega) (by omega)) ok_Vh_lendingJoy ml_Vh_377 (by assumption) ⟨rfl, rfl⟩ (by decide) (Nat.le_of_ble_eq_true rfl) ?_
        refine mx_cV3v d_Vh_lend_81 (c_Ma_allow hMa (a := a) (b := b) (by omega) (by omega)) ok_Ma_allow ml_Vh_339 (by assumption) ⟨rfl, rfl⟩ (by decide) (Nat.le_of_ble_eq_true rfl) ?_
        refine mx_iN3 d_Vh_lend_84 ?_
        refine mx_goto 55 d_Vh_lend_87 (by decide) ?_
        exact ih (mx_up K (x + 9 + 1) (8 * (a) + b) (nI (vs_gL m H (a) (b)))) (al_step (by omega) hH8 hinv rfl)
      · skip
        obtain ⟨K, hz9⟩ : ∃ q, q = z9 := ⟨_, rfl⟩
        subst hz9
        try dsimp only at hinv ⊢
        have hKI : ∀ c, c ≠ x + 9 → c ≠ x + 9 + 1 → K c = I c := fun c h1 h2 => al_oth hinv h1 h2
        have hSr : st_rel K (x + 23) m := hSrI.congr (fun c h1 h2 => hKI c (by omega) (by omega))
        have hPr : pe_rel K (x + 23 + 1) m := hSr.1
        refine mx_il3 d_Vh_lend_55 ?_
        refine mx_al0 d_Vh_lend_56 ?_
        refine mx_getR d_Vh_lend_57 fl_Vh_51 (by assumption) (by assumption) ?_
        refine mx_getR d_Vh_lend_60 fl_Vh_162 (by assumption) (by assumption) ?_
        refine mx_getI d_Vh_lend_63 fl_Vh_290 (by assumption) ?_
        refine mx_ti (y := nI (H)) (hPr.1.trans hH) ?_
        refine mx_icN_ge 90 d_Vh_lend_66 (by decide) (by omega) (by omega) (fun c_66 => ?_) (fun c_66 => absurd c_66 (by omega))
        refine mx_iN2 d_Vh_lend_90 ?_
        refine mx_goto 39 d_Vh_lend_93 (by decide) ?_
        refine mx_dn3 ?_
        exact ih K (al_next hinv)
    · skip
      obtain ⟨K, hz9⟩ : ∃ q, q = z9 := ⟨_, rfl⟩
      subst hz9
      try dsimp only at hinv ⊢
      have hKI : ∀ c, c ≠ x + 9 → c ≠ x + 9 + 1 → K c = I c := fun c h1 h2 => al_oth hinv h1 h2
      have hSr : st_rel K (x + 23) m := hSrI.congr (fun c h1 h2 => hKI c (by omega) (by omega))
      have hPr : pe_rel K (x + 23 + 1) m := hSr.1
      refine mx_il2 d_Vh_lend_39 ?_
      refine mx_al0 d_Vh_lend_40 ?_
      refine mx_getR d_Vh_lend_41 fl_Vh_51 (by assumption) (by assumption) ?_
      refine mx_getR d_Vh_lend_44 fl_Vh_162 (by assumption) (by assumption) ?_
      refine mx_getI d_Vh_lend_47 fl_Vh_325 (by assumption) ?_
      refine mx_ti (y := nI (G)) (hPr.2.1.trans hG) ?_
      refine mx_icN_ge 96 d_Vh_lend_50 (by decide) (by omega) (by omega) (fun c_50 => ?_) (fun c_50 => absurd c_50 (by omega))
      refine mx_al0 d_Vh_lend_96 ?_
      refine mx_getR d_Vh_lend_97 fl_Vh_23 (by assumption) (by assumption) ?_
      refine mx_cV0vR d_Vh_lend_100 (c_Ma_solve hMa (al_rel hinv) (vs_gL_le hr H hH8 hG8) hG8 hH8) ok_Ma_solve ml_Vh_342 (by assumption) ⟨rfl, rfl⟩ (by decide) (Nat.le_of_ble_eq_true rfl) (fun K2 hK2 => ?_)
      refine mx_il1 d_Vh_lend_103 ?_
      refine mx_ic_m1 d_Vh_lend_104 ?_
      refine mx_icmp_ne 118 d_Vh_lend_105 (by decide) (fun c_105 => ?_) (fun c_105 => absurd c_105 (nI_m1 (by omega)))
      refine mx_al0 d_Vh_lend_118 ?_
      refine mx_getR d_Vh_lend_119 fl_Vh_23 (by assumption) (by assumption) ?_
      refine mx_il1 d_Vh_lend_122 ?_
      refine mx_cV1i d_Vh_lend_123 (c_Ma_columnOf hMa ((al_rel hinv).congr (mx_offn hK2.1 (by omega)) (mx_offn hK2.1 (by omega))) (vs_gL_le hr H hH8 hG8) hG8 hH8 hK2.2 (r := g) (by omega)) ok_Ma_columnOf ml_Vh_348 (by assumption) ⟨rfl, rfl⟩ (by decide) (Nat.le_of_ble_eq_true rfl) ?_
      exact mx_iret d_Vh_lend_126 rfl (mx_pR_i (by simp [sp_lend, *]) (ma_fin hinv hK2.1))
theorem c_Mo_bringsQ (hM : mo_ok S P mo) (hm : I (mo + 1) = m) (hH : m 3 = nI H) (hH8 : H ≤ 8) (hG : m 4 = nI G) (hG8 : G ≤ 8) {q a b : Nat} (hq : q < 8) (ha : a < H) (hb : b < G) {lv : Int32} : mx_C l E M_Mo_brings 4 0 0 [.ref (mo), .int (nI (a)), .int (nI (b)), .int (nI (q)), .int (lv)] (t, S, I, P, J) (mx_ri (brv (gcut (vs_gA m q) H G a b)) (t, S, I, P, J)) := by
  obtain ⟨hM0, hMp1, hMp2, hMp4, hMp5, hMp7, hMp14, hMp21, hMp22, hMp23, hMp24, hMp25, hMp26, hMp27, hMs1, hMs2, hMs3, hMs4, hMs5, hMs6, hMs7, hMs8, hMs9, hMs10, hMs11, hMs12, hMs13⟩ := id hM
  refine mx_C_of (ls0 := [some (.ref (mo)), some (.int (nI (a))), some (.int (nI (b))), some (.int (nI (q))), some (.int (lv)), none]) (by decide +kernel) rfl rfl (Nat.le_of_ble_eq_true rfl) rfl ?_
  refine mx_il3 d_Mo_brings_0 ?_
  refine mx_ic_m1 d_Mo_brings_1 ?_
  refine mx_icmp_eq 21 d_Mo_brings_2 (by decide) (fun c_2 => absurd c_2 (nI_m1 (by omega))) (fun c_2 => ?_)
  refine mx_al0 d_Mo_brings_5 ?_
  refine mx_il1 d_Mo_brings_6 ?_
  refine mx_il2 d_Mo_brings_7 ?_
  refine mx_il3 d_Mo_brings_8 ?_
  refine mx_cV3i d_Mo_brings_9 (cm_canMeet hM hm (h := a) (g := b) (q := q) (by omega) (by omega) (by omega)) ok_Mo_canMeet ml_Mo_280 (by assumption) ⟨rfl, rfl⟩ (by decide) (Nat.le_of_ble_eq_true rfl) ?_
  refine mx_ifB_eq 19 d_Mo_brings_12 (by decide) (fun c_12 => ?_) (fun c_12 => ?_)
  · skip
    refine mx_ic_m1 d_Mo_brings_19 ?_
    exact mx_iret d_Mo_brings_20 rfl (mx_ri_of (by rw [gcut, if_pos ⟨ha, hb⟩, vs_gA, c_12]; rfl))
  · skip
    refine mx_in_1 d_Mo_brings_15 ?_
    refine mx_goto 20 d_Mo_brings_16 (by decide) ?_
    exact mx_iret d_Mo_brings_20 rfl (mx_ri_of (by rw [gcut, if_pos ⟨ha, hb⟩, vs_gA, c_12]; rfl))
theorem c_Mo_bringsL (hM : mo_ok S P mo) (hm : I (mo + 1) = m) (hH : m 3 = nI H) (hH8 : H ≤ 8) (hG : m 4 = nI G) (hG8 : G ≤ 8) (hr : rk9 m) {a b : Nat} (ha : a < G) (hb : b < H) : mx_C l E M_Mo_brings 4 0 0 [.ref (mo), .int (nI (a)), .int (nI (b)), .int ((-1)), .int (nI (255))] (t, S, I, P, J) (mx_ri (brv (gcut (vs_gL m H) G H a b)) (t, S, I, P, J)) := by
  obtain ⟨hM0, hMp1, hMp2, hMp4, hMp5, hMp7, hMp14, hMp21, hMp22, hMp23, hMp24, hMp25, hMp26, hMp27, hMs1, hMs2, hMs3, hMs4, hMs5, hMs6, hMs7, hMs8, hMs9, hMs10, hMs11, hMs12, hMs13⟩ := id hM
  refine mx_C_of (ls0 := [some (.ref (mo)), some (.int (nI (a))), some (.int (nI (b))), some (.int ((-1))), some (.int (nI (255))), none]) (by decide +kernel) rfl rfl (Nat.le_of_ble_eq_true rfl) rfl ?_
  refine mx_il3 d_Mo_brings_0 ?_
  refine mx_ic_m1 d_Mo_brings_1 ?_
  refine mx_icmp_eq 21 d_Mo_brings_2 (by decide) (fun c_2 => ?_) (fun c_2 => absurd c_2 (fun z => z rfl))
  refine mx_il4 d_Mo_brings_21 ?_
  refine mx_il2 d_Mo_brings_23 ?_
  refine mx_cS2i d_Mo_brings_24 (c_Mo_isOf (j := b) (by omega)) ok_Mo_isOf ml_Mo_74 (by decide) (Nat.le_of_ble_eq_true rfl) ?_
  refine mx_ifB_eq 59 d_Mo_brings_27 (by decide) (fun c_27 => absurd c_27 (by rw [vs_b255 (by omega)]; decide)) (fun c_27 => ?_)
  refine mx_al0 d_Mo_brings_30 ?_
  refine mx_il2 d_Mo_brings_31 ?_
  refine mx_cV1i d_Mo_brings_32 (cm_seesOf hM hm (h := b) (by omega)) ok_Mo_seesOf ml_Mo_316 (by assumption) ⟨rfl, rfl⟩ (by decide) (Nat.le_of_ble_eq_true rfl) ?_
  refine mx_if_ne 59 d_Mo_brings_35 (by decide) (fun c_35 => ?_) (fun c_35 => ?_)
  · skip
    refine mx_in_0 d_Mo_brings_59 ?_
    refine mx_is5 d_Mo_brings_60 ?_
    refine mx_il5 d_Mo_brings_62 ?_
    refine mx_if_eq 76 d_Mo_brings_64 (by decide) (fun c_64 => ?_) (fun c_64 => absurd (by decide) c_64)
    refine mx_ic_m1 d_Mo_brings_76 ?_
    exact mx_iret d_Mo_brings_77 rfl (mx_ri_of (by rw [gcut, if_pos ⟨ha, hb⟩, vs_gL]; first | (rw [if_pos ⟨c_43, c_35, c_52⟩, brv, if_neg]; rw [vs_may_iff hr (by omega) (by omega)] at c_52; simp only [Bool.and_eq_true, decide_eq_true_eq] at c_52; omega) | (rw [if_neg (fun z => by simp_all)]; rfl)))
  · skip
    refine mx_al0 d_Mo_brings_38 ?_
    refine mx_il1 d_Mo_brings_39 ?_
    refine mx_cV1i d_Mo_brings_40 (cm_busyOf hM hm hH hH8) ok_Mo_busyOf ml_Mo_325 (by assumption) ⟨rfl, rfl⟩ (by decide) (Nat.le_of_ble_eq_true rfl) ?_
    refine mx_if_ne 59 d_Mo_brings_43 (by decide) (fun c_43 => ?_) (fun c_43 => ?_)
    · skip
      refine mx_in_0 d_Mo_brings_59 ?_
      refine mx_is5 d_Mo_brings_60 ?_
      refine mx_il5 d_Mo_brings_62 ?_
      refine mx_if_eq 76 d_Mo_brings_64 (by decide) (fun c_64 => ?_) (fun c_64 => absurd (by decide) c_64)
      refine mx_ic_m1 d_Mo_brings_76 ?_
      exact mx_iret d_Mo_brings_77 rfl (mx_ri_of (by rw [gcut, if_pos ⟨ha, hb⟩, vs_gL]; first | (rw [if_pos ⟨c_43, c_35, c_52⟩, brv, if_neg]; rw [vs_may_iff hr (by omega) (by omega)] at c_52; simp only [Bool.and_eq_true, decide_eq_true_eq] at c_52; omega) | (rw [if_neg (fun z => by simp_all)]; rfl)))
    · skip
      refine mx_al0 d_Mo_brings_46 ?_
      refine mx_il2 d_Mo_brings_47 ?_
      refine mx_il1 d_Mo_brings_48 ?_
      refine mx_cV2i d_Mo_brings_49 (cm_mayMeet hM hm (h := b) (g := a) (by omega) (by omega)) ok_Mo_mayMeet ml_Mo_78 (by assumption) ⟨rfl, rfl⟩ (by decide) (Nat.le_of_ble_eq_true rfl) ?_
      refine mx_ifB_eq 59 d_Mo_brings_52 (by decide) (fun c_52 => ?_) (fun c_52 => ?_)
      · skip
        refine mx_in_0 d_Mo_brings_59 ?_
        refine mx_is5 d_Mo_brings_60 ?_
        refine mx_il5 d_Mo_brings_62 ?_
        refine mx_if_eq 76 d_Mo_brings_64 (by decide) (fun c_64 => ?_) (fun c_64 => absurd (by decide) c_64)
        refine mx_ic_m1 d_Mo_brings_76 ?_
        exact mx_iret d_Mo_brings_77 rfl (mx_ri_of (by rw [gcut, if_pos ⟨ha, hb⟩, vs_gL]; first | (rw [if_pos ⟨c_43, c_35, c_52⟩, brv, if_neg]; rw [vs_may_iff hr (by omega) (by omega)] at c_52; simp only [Bool.and_eq_true, decide_eq_true_eq] at c_52; omega) | (rw [if_neg (fun z => by simp_all)]; rfl)))
      · skip
        refine mx_in_1 d_Mo_brings_55 ?_
        refine mx_goto 60 d_Mo_brings_56 (by decide) ?_
        refine mx_is5 d_Mo_brings_60 ?_
        refine mx_il5 d_Mo_brings_62 ?_
        refine mx_if_eq 76 d_Mo_brings_64 (by decide) (fun c_64 => absurd c_64 (by decide)) (fun c_64 => ?_)
        refine mx_al0 d_Mo_brings_67 ?_
        refine mx_il2 d_Mo_brings_68 ?_
        refine mx_il1 d_Mo_brings_69 ?_
        refine mx_cV2i d_Mo_brings_70 (cm_rankOf hM hm (h := b) (g := a) (by omega) (by omega)) ok_Mo_rankOf ml_Mo_61 (by assumption) ⟨rfl, rfl⟩ (by decide) (Nat.le_of_ble_eq_true rfl) ?_
        refine mx_ti (y := nI (RK m b a)) ((hr.r (by omega) (by omega)).2) ?_
        refine mx_goto 77 d_Mo_brings_73 (by decide) ?_
        exact mx_iret d_Mo_brings_77 rfl (mx_ri_of (by rw [gcut, if_pos ⟨ha, hb⟩, vs_gL]; first | (rw [if_pos ⟨c_43, c_35, c_52⟩, brv, if_neg]; rw [vs_may_iff hr (by omega) (by omega)] at c_52; simp only [Bool.and_eq_true, decide_eq_true_eq] at c_52; omega) | (rw [if_neg (fun z => by simp_all)]; rfl)))
theorem c_Mo_afternoon (hM : mo_ok S P mo) (hm : I (mo + 1) = m) (hH : m 3 = nI H) (hH8 : H ≤ 8) (hG : m 4 = nI G) (hG8 : G ≤ 8) {v w : Int32} : mx_C l E M_Mo_afternoon 6 0 0 [.ref (mo), .int (v), .int (w)] (t, S, I, P, J) (mx_sR (some (.int (sp_afternoon m H G v w).2)) t S P J (fun K => mx_off (fun c => c = mo + 11) (mx_up I mo 0 (nI (sp_afternoon m H G v w).1)) K)) := by
  obtain ⟨hM0, hMp1, hMp2, hMp4, hMp5, hMp7, hMp14, hMp21, hMp22, hMp23, hMp24, hMp25, hMp26, hMp27, hMs1, hMs2, hMs3, hMs4, hMs5, hMs6, hMs7, hMs8, hMs9, hMs10, hMs11, hMs12, hMs13⟩ := id hM
  refine mx_C_of (ls0 := [some (.ref (mo)), some (.int (v)), some (.int (w))]) (by decide +kernel) rfl rfl (Nat.le_of_ble_eq_true rfl) rfl ?_
  refine mx_al0 d_Mo_afternoon_0 ?_
  refine mx_il1 d_Mo_afternoon_1 ?_
  refine mx_cS1i d_Mo_afternoon_2 (c_Mo_isQuarter) ok_Mo_isQuarter ml_Mo_331 (by decide) (Nat.le_of_ble_eq_true rfl) ?_
  refine mx_ifB_eq 21 d_Mo_afternoon_5 (by decide) (fun c_5 => ?_) (fun c_5 => ?_)
  · skip
    refine mx_in_1 d_Mo_afternoon_21 ?_
    refine mx_goto 26 d_Mo_afternoon_22 (by decide) ?_
    refine mx_putI d_Mo_afternoon_26 fl_Mo_54 (by assumption) ?_
    refine mx_al0 d_Mo_afternoon_29 ?_
    refine mx_getI d_Mo_afternoon_30 fl_Mo_54 (by assumption) ?_
    refine mx_ti (y := nI (1)) (vs_upx) ?_
    refine mx_if_le 38 d_Mo_afternoon_33 (by decide) (fun c_33 => absurd c_33 (by decide)) (fun c_33 => ?_)
    refine mx_in_0 d_Mo_afternoon_36 ?_
    exact mx_iret d_Mo_afternoon_37 rfl (mx_sR_i (by simp [sp_afternoon, *]) (by rw [show (sp_afternoon m H G _ _).1 = 1 from by simp [sp_afternoon, *]]; exact mx_off.rf))
  · skip
    obtain ⟨q, hqL, rfl⟩ := vs_isN_of (by omega) c_5
    have hqc : (nI q).toNatClampNeg = q := nI_clamp (by omega)
    have hqL8 : q < 8 := by omega
    refine mx_il2 d_Mo_afternoon_8 ?_
    refine mx_ic_m1 d_Mo_afternoon_9 ?_
    refine mx_icmp_eq 25 d_Mo_afternoon_10 (by decide) (fun c_10 => ?_) (fun c_10 => ?_)
    · skip
      refine mx_in_0 d_Mo_afternoon_25 ?_
      refine mx_putI d_Mo_afternoon_26 fl_Mo_54 (by assumption) ?_
      refine mx_al0 d_Mo_afternoon_29 ?_
      refine mx_getI d_Mo_afternoon_30 fl_Mo_54 (by assumption) ?_
      refine mx_ti (y := nI (0)) (vs_upx) ?_
      refine mx_if_le 38 d_Mo_afternoon_33 (by decide) (fun c_33 => ?_) (fun c_33 => absurd (by decide) c_33)
      refine mx_al0 d_Mo_afternoon_38 ?_
      refine mx_al0 d_Mo_afternoon_39 ?_
      refine mx_getR d_Mo_afternoon_40 fl_Mo_7 (by assumption) (by assumption) ?_
      refine mx_in_3 d_Mo_afternoon_43 ?_
      refine mx_iald d_Mo_afternoon_44 (by assumption) (nI_inb (by omega) (by omega)) ?_
      refine mx_ti (y := (mx_up I (mo) 0 (nI (0))) (mo + 1) (3)) (by rw [nI_clamp (by omega)]) ?_
      refine mx_ti (y := nI (H)) ((congrFun (vs_hm hm) 3).trans hH) ?_
      refine mx_al0 d_Mo_afternoon_45 ?_
      refine mx_getR d_Mo_afternoon_46 fl_Mo_7 (by assumption) (by assumption) ?_
      refine mx_in_4 d_Mo_afternoon_49 ?_
      refine mx_iald d_Mo_afternoon_50 (by assumption) (nI_inb (by omega) (by omega)) ?_
      refine mx_ti (y := (mx_up I (mo) 0 (nI (0))) (mo + 1) (4)) (by rw [nI_clamp (by omega)]) ?_
      refine mx_ti (y := nI (G)) ((congrFun (vs_hm hm) 4).trans hG) ?_
      refine mx_il1 d_Mo_afternoon_51 ?_
      refine mx_in_0 d_Mo_afternoon_52 ?_
      refine mx_cV4vR d_Mo_afternoon_53 (c_Mo_fills hM (vs_hm hm) (gain := (gcut (vs_gA m q) H G)) (fun I9 a b hm9 ha hb => c_Mo_bringsQ hM hm9 hH hH8 hG hG8 hqL ha hb) (vs_gA_le m q hH8 hG8) hH8 hG8) ok_Mo_fills ml_Mo_389 (by assumption) ⟨rfl, rfl⟩ (by decide) (Nat.le_of_ble_eq_true rfl) (fun K hK => ?_)
      have hmK : K (mo + 1) = m := (mx_offn hK.1 (by omega)).trans (vs_hm hm)
      refine mx_il2 d_Mo_afternoon_56 ?_
      refine mx_ic_m1 d_Mo_afternoon_57 ?_
      refine mx_icmp_ne 70 d_Mo_afternoon_58 (by decide) (fun c_58 => absurd c_58 (fun z => z c_10)) (fun c_58 => ?_)
      refine mx_al0 d_Mo_afternoon_61 ?_
      refine mx_getR d_Mo_afternoon_62 fl_Mo_44 (by assumption) (by assumption) ?_
      refine mx_in_0 d_Mo_afternoon_65 ?_
      refine mx_iald d_Mo_afternoon_66 (by assumption) (nI_inb (by omega) (by omega)) ?_
      refine mx_ti (y := K (mo + 11) (0)) (by rw [nI_clamp (by omega)]) ?_
      refine mx_ti (y := nI (vs_op (gcut (vs_gA m q) H G) H G H 0)) ((by have z := hK.2 H (Nat.le_refl H) 0 (by omega); rw [Nat.sub_self] at z; exact z)) ?_
      refine mx_goto 83 d_Mo_afternoon_67 (by decide) ?_
      exact mx_iret d_Mo_afternoon_83 rfl (mx_sR_i (by simp [sp_afternoon, *]) (by rw [show (sp_afternoon m H G _ _).1 = 0 from by simp [sp_afternoon, *]]; exact hK.1))
    · skip
      refine mx_al0 d_Mo_afternoon_13 ?_
      refine mx_il2 d_Mo_afternoon_14 ?_
      refine mx_cV1i d_Mo_afternoon_15 (cm_isHost hM hm hH hH8) ok_Mo_isHost ml_Mo_310 (by assumption) ⟨rfl, rfl⟩ (by decide) (Nat.le_of_ble_eq_true rfl) ?_
      refine mx_ifB_ne 25 d_Mo_afternoon_18 (by decide) (fun c_18 => ?_) (fun c_18 => ?_)
      · skip
        obtain ⟨h, hhL, rfl⟩ := vs_isN_of (by omega) c_18
        have hhc : (nI h).toNatClampNeg = h := nI_clamp (by omega)
        have hhL8 : h < 8 := by omega
        refine mx_in_0 d_Mo_afternoon_25 ?_
        refine mx_putI d_Mo_afternoon_26 fl_Mo_54 (by assumption) ?_
        refine mx_al0 d_Mo_afternoon_29 ?_
        refine mx_getI d_Mo_afternoon_30 fl_Mo_54 (by assumption) ?_
        refine mx_ti (y := nI (0)) (vs_upx) ?_
        refine mx_if_le 38 d_Mo_afternoon_33 (by decide) (fun c_33 => ?_) (fun c_33 => absurd (by decide) c_33)
        refine mx_al0 d_Mo_afternoon_38 ?_
        refine mx_al0 d_Mo_afternoon_39 ?_
        refine mx_getR d_Mo_afternoon_40 fl_Mo_7 (by assumption) (by assumption) ?_
        refine mx_in_3 d_Mo_afternoon_43 ?_
        refine mx_iald d_Mo_afternoon_44 (by assumption) (nI_inb (by omega) (by omega)) ?_
        refine mx_ti (y := (mx_up I (mo) 0 (nI (0))) (mo + 1) (3)) (by rw [nI_clamp (by omega)]) ?_
        refine mx_ti (y := nI (H)) ((congrFun (vs_hm hm) 3).trans hH) ?_
        refine mx_al0 d_Mo_afternoon_45 ?_
        refine mx_getR d_Mo_afternoon_46 fl_Mo_7 (by assumption) (by assumption) ?_
        refine mx_in_4 d_Mo_afternoon_49 ?_
        refine mx_iald d_Mo_afternoon_50 (by assumption) (nI_inb (by omega) (by omega)) ?_
        refine mx_ti (y := (mx_up I (mo) 0 (nI (0))) (mo + 1) (4)) (by rw [nI_clamp (by omega)]) ?_
        refine mx_ti (y := nI (G)) ((congrFun (vs_hm hm) 4).trans hG) ?_
        refine mx_il1 d_Mo_afternoon_51 ?_
        refine mx_in_0 d_Mo_afternoon_52 ?_
        refine mx_cV4vR d_Mo_afternoon_53 (c_Mo_fills hM (vs_hm hm) (gain := (gcut (vs_gA m q) H G)) (fun I9 a b hm9 ha hb => c_Mo_bringsQ hM hm9 hH hH8 hG hG8 hqL ha hb) (vs_gA_le m q hH8 hG8) hH8 hG8) ok_Mo_fills ml_Mo_389 (by assumption) ⟨rfl, rfl⟩ (by decide) (Nat.le_of_ble_eq_true rfl) (fun K hK => ?_)
        have hmK : K (mo + 1) = m := (mx_offn hK.1 (by omega)).trans (vs_hm hm)
        refine mx_il2 d_Mo_afternoon_56 ?_
        refine mx_ic_m1 d_Mo_afternoon_57 ?_
        refine mx_icmp_ne 70 d_Mo_afternoon_58 (by decide) (fun c_58 => ?_) (fun c_58 => absurd c_58 (nI_m1 (by omega)))
        refine mx_al0 d_Mo_afternoon_70 ?_
        refine mx_il2 d_Mo_afternoon_71 ?_
        refine mx_al0 d_Mo_afternoon_72 ?_
        refine mx_getR d_Mo_afternoon_73 fl_Mo_7 (by assumption) (by assumption) ?_
        refine mx_in_4 d_Mo_afternoon_76 ?_
        refine mx_iald d_Mo_afternoon_77 (by assumption) (nI_inb (by omega) (by omega)) ?_
        refine mx_ti (y := K (mo + 1) (4)) (by rw [nI_clamp (by omega)]) ?_
        refine mx_ti (y := nI (G)) ((congrFun hmK 4).trans hG) ?_
        refine mx_il1 d_Mo_afternoon_78 ?_
        refine mx_in_0 d_Mo_afternoon_79 ?_
        refine mx_cV4i d_Mo_afternoon_80 (c_Mo_firstOf hM hmK (gain := (gcut (vs_gA m q) H G)) (fun I9 a b hm9 ha hb => c_Mo_bringsQ hM hm9 hH hH8 hG hG8 hqL ha hb) (vs_gA_le m q hH8 hG8) hH8 hG8 hK.2 (r := h) hhL) ok_Mo_firstOf ml_Mo_393 (by assumption) ⟨rfl, rfl⟩ (by decide) (Nat.le_of_ble_eq_true rfl) ?_
        exact mx_iret d_Mo_afternoon_83 rfl (mx_sR_i (by simp [sp_afternoon, *]) (by rw [show (sp_afternoon m H G _ _).1 = 0 from by simp [sp_afternoon, *]]; exact hK.1))
      · skip
        refine mx_in_1 d_Mo_afternoon_21 ?_
        refine mx_goto 26 d_Mo_afternoon_22 (by decide) ?_
        refine mx_putI d_Mo_afternoon_26 fl_Mo_54 (by assumption) ?_
        refine mx_al0 d_Mo_afternoon_29 ?_
        refine mx_getI d_Mo_afternoon_30 fl_Mo_54 (by assumption) ?_
        refine mx_ti (y := nI (1)) (vs_upx) ?_
        refine mx_if_le 38 d_Mo_afternoon_33 (by decide) (fun c_33 => absurd c_33 (by decide)) (fun c_33 => ?_)
        refine mx_in_0 d_Mo_afternoon_36 ?_
        exact mx_iret d_Mo_afternoon_37 rfl (mx_sR_i (by simp [sp_afternoon, *]) (by rw [show (sp_afternoon m H G _ _).1 = 1 from by simp [sp_afternoon, *]]; exact mx_off.rf))
theorem c_Mo_lend (hM : mo_ok S P mo) (hm : I (mo + 1) = m) (hH : m 3 = nI H) (hH8 : H ≤ 8) (hG : m 4 = nI G) (hG8 : G ≤ 8) (hr : rk9 m) {v : Int32} : mx_C l E M_Mo_lend 6 0 0 [.ref (mo), .int (v)] (t, S, I, P, J) (mx_sR (some (.int (sp_lend m H G v).2)) t S P J (fun K => mx_off (fun c => c = mo + 11) (mx_up I mo 0 (nI (sp_lend m H G v).1)) K)) := by
  obtain ⟨hM0, hMp1, hMp2, hMp4, hMp5, hMp7, hMp14, hMp21, hMp22, hMp23, hMp24, hMp25, hMp26, hMp27, hMs1, hMs2, hMs3, hMs4, hMs5, hMs6, hMs7, hMs8, hMs9, hMs10, hMs11, hMs12, hMs13⟩ := id hM
  refine mx_C_of (ls0 := [some (.ref (mo)), some (.int (v))]) (by decide +kernel) rfl rfl (Nat.le_of_ble_eq_true rfl) rfl ?_
  refine mx_al0 d_Mo_lend_0 ?_
  refine mx_il1 d_Mo_lend_1 ?_
  refine mx_ic_m1 d_Mo_lend_2 ?_
  refine mx_icmp_eq 18 d_Mo_lend_3 (by decide) (fun c_3 => ?_) (fun c_3 => ?_)
  · skip
    refine mx_in_0 d_Mo_lend_18 ?_
    refine mx_putI d_Mo_lend_19 fl_Mo_54 (by assumption) ?_
    refine mx_al0 d_Mo_lend_22 ?_
    refine mx_getI d_Mo_lend_23 fl_Mo_54 (by assumption) ?_
    refine mx_ti (y := nI (0)) (vs_upx) ?_
    refine mx_if_le 31 d_Mo_lend_26 (by decide) (fun c_26 => ?_) (fun c_26 => absurd (by decide) c_26)
    refine mx_al0 d_Mo_lend_31 ?_
    refine mx_al0 d_Mo_lend_32 ?_
    refine mx_getR d_Mo_lend_33 fl_Mo_7 (by assumption) (by assumption) ?_
    refine mx_in_4 d_Mo_lend_36 ?_
    refine mx_iald d_Mo_lend_37 (by assumption) (nI_inb (by omega) (by omega)) ?_
    refine mx_ti (y := (mx_up I (mo) 0 (nI (0))) (mo + 1) (4)) (by rw [nI_clamp (by omega)]) ?_
    refine mx_ti (y := nI (G)) ((congrFun (vs_hm hm) 4).trans hG) ?_
    refine mx_al0 d_Mo_lend_38 ?_
    refine mx_getR d_Mo_lend_39 fl_Mo_7 (by assumption) (by assumption) ?_
    refine mx_in_3 d_Mo_lend_42 ?_
    refine mx_iald d_Mo_lend_43 (by assumption) (nI_inb (by omega) (by omega)) ?_
    refine mx_ti (y := (mx_up I (mo) 0 (nI (0))) (mo + 1) (3)) (by rw [nI_clamp (by omega)]) ?_
    refine mx_ti (y := nI (H)) ((congrFun (vs_hm hm) 3).trans hH) ?_
    refine mx_ic_m1 d_Mo_lend_44 ?_
    refine mx_sip 255 d_Mo_lend_45 (by decide) ?_
    refine mx_cV4vR d_Mo_lend_48 (c_Mo_fills hM (vs_hm hm) (gain := (gcut (vs_gL m H) G H)) (fun I9 a b hm9 ha hb => c_Mo_bringsL hM hm9 hH hH8 hG hG8 hr ha hb) (vs_gL_le hr H hH8 hG8) hG8 hH8) ok_Mo_fills ml_Mo_389 (by assumption) ⟨rfl, rfl⟩ (by decide) (Nat.le_of_ble_eq_true rfl) (fun K hK => ?_)
    have hmK : K (mo + 1) = m := (mx_offn hK.1 (by omega)).trans (vs_hm hm)
    refine mx_il1 d_Mo_lend_51 ?_
    refine mx_ic_m1 d_Mo_lend_52 ?_
    refine mx_icmp_ne 65 d_Mo_lend_53 (by decide) (fun c_53 => absurd c_53 (fun z => z c_3)) (fun c_53 => ?_)
    refine mx_al0 d_Mo_lend_56 ?_
    refine mx_getR d_Mo_lend_57 fl_Mo_44 (by assumption) (by assumption) ?_
    refine mx_in_0 d_Mo_lend_60 ?_
    refine mx_iald d_Mo_lend_61 (by assumption) (nI_inb (by omega) (by omega)) ?_
    refine mx_ti (y := K (mo + 11) (0)) (by rw [nI_clamp (by omega)]) ?_
    refine mx_ti (y := nI (vs_op (gcut (vs_gL m H) G H) G H G 0)) ((by have z := hK.2 G (Nat.le_refl G) 0 (by omega); rw [Nat.sub_self] at z; exact z)) ?_
    refine mx_goto 80 d_Mo_lend_62 (by decide) ?_
    exact mx_iret d_Mo_lend_80 rfl (mx_sR_i (by simp [sp_lend, *]) (by rw [show (sp_lend m H G _).1 = 0 from by simp [sp_lend, *]]; exact hK.1))
  · skip
    refine mx_al0 d_Mo_lend_6 ?_
    refine mx_il1 d_Mo_lend_7 ?_
    refine mx_cV1i d_Mo_lend_8 (cm_isGuest hM hm hG hG8) ok_Mo_isGuest ml_Mo_322 (by assumption) ⟨rfl, rfl⟩ (by decide) (Nat.le_of_ble_eq_true rfl) ?_
    refine mx_ifB_ne 18 d_Mo_lend_11 (by decide) (fun c_11 => ?_) (fun c_11 => ?_)
    · skip
      obtain ⟨g, hgL, rfl⟩ := vs_isN_of (by omega) c_11
      have hgc : (nI g).toNatClampNeg = g := nI_clamp (by omega)
      have hgL8 : g < 8 := by omega
      refine mx_in_0 d_Mo_lend_18 ?_
      refine mx_putI d_Mo_lend_19 fl_Mo_54 (by assumption) ?_
      refine mx_al0 d_Mo_lend_22 ?_
      refine mx_getI d_Mo_lend_23 fl_Mo_54 (by assumption) ?_
      refine mx_ti (y := nI (0)) (vs_upx) ?_
      refine mx_if_le 31 d_Mo_lend_26 (by decide) (fun c_26 => ?_) (fun c_26 => absurd (by decide) c_26)
      refine mx_al0 d_Mo_lend_31 ?_
      refine mx_al0 d_Mo_lend_32 ?_
      refine mx_getR d_Mo_lend_33 fl_Mo_7 (by assumption) (by assumption) ?_
      refine mx_in_4 d_Mo_lend_36 ?_
      refine mx_iald d_Mo_lend_37 (by assumption) (nI_inb (by omega) (by omega)) ?_
      refine mx_ti (y := (mx_up I (mo) 0 (nI (0))) (mo + 1) (4)) (by rw [nI_clamp (by omega)]) ?_
      refine mx_ti (y := nI (G)) ((congrFun (vs_hm hm) 4).trans hG) ?_
      refine mx_al0 d_Mo_lend_38 ?_
      refine mx_getR d_Mo_lend_39 fl_Mo_7 (by assumption) (by assumption) ?_
      refine mx_in_3 d_Mo_lend_42 ?_
      refine mx_iald d_Mo_lend_43 (by assumption) (nI_inb (by omega) (by omega)) ?_
      refine mx_ti (y := (mx_up I (mo) 0 (nI (0))) (mo + 1) (3)) (by rw [nI_clamp (by omega)]) ?_
      refine mx_ti (y := nI (H)) ((congrFun (vs_hm hm) 3).trans hH) ?_
      refine mx_ic_m1 d_Mo_lend_44 ?_
      refine mx_sip 255 d_Mo_lend_45 (by decide) ?_
      refine mx_cV4vR d_Mo_lend_48 (c_Mo_fills hM (vs_hm hm) (gain := (gcut (vs_gL m H) G H)) (fun I9 a b hm9 ha hb => c_Mo_bringsL hM hm9 hH hH8 hG hG8 hr ha hb) (vs_gL_le hr H hH8 hG8) hG8 hH8) ok_Mo_fills ml_Mo_389 (by assumption) ⟨rfl, rfl⟩ (by decide) (Nat.le_of_ble_eq_true rfl) (fun K hK => ?_)
      have hmK : K (mo + 1) = m := (mx_offn hK.1 (by omega)).trans (vs_hm hm)
      refine mx_il1 d_Mo_lend_51 ?_
      refine mx_ic_m1 d_Mo_lend_52 ?_
      refine mx_icmp_ne 65 d_Mo_lend_53 (by decide) (fun c_53 => ?_) (fun c_53 => absurd c_53 (nI_m1 (by omega)))
      refine mx_al0 d_Mo_lend_65 ?_
      refine mx_il1 d_Mo_lend_66 ?_
      refine mx_al0 d_Mo_lend_67 ?_
      refine mx_getR d_Mo_lend_68 fl_Mo_7 (by assumption) (by assumption) ?_
      refine mx_in_3 d_Mo_lend_71 ?_
      refine mx_iald d_Mo_lend_72 (by assumption) (nI_inb (by omega) (by omega)) ?_
      refine mx_ti (y := K (mo + 1) (3)) (by rw [nI_clamp (by omega)]) ?_
      refine mx_ti (y := nI (H)) ((congrFun hmK 3).trans hH) ?_
      refine mx_ic_m1 d_Mo_lend_73 ?_
      refine mx_sip 255 d_Mo_lend_74 (by decide) ?_
      refine mx_cV4i d_Mo_lend_77 (c_Mo_firstOf hM hmK (gain := (gcut (vs_gL m H) G H)) (fun I9 a b hm9 ha hb => c_Mo_bringsL hM hm9 hH hH8 hG hG8 hr ha hb) (vs_gL_le hr H hH8 hG8) hG8 hH8 hK.2 (r := g) hgL) ok_Mo_firstOf ml_Mo_393 (by assumption) ⟨rfl, rfl⟩ (by decide) (Nat.le_of_ble_eq_true rfl) ?_
      exact mx_iret d_Mo_lend_80 rfl (mx_sR_i (by simp [sp_lend, *]) (by rw [show (sp_lend m H G _).1 = 0 from by simp [sp_lend, *]]; exact hK.1))
    · skip
      refine mx_in_1 d_Mo_lend_14 ?_
      refine mx_goto 19 d_Mo_lend_15 (by decide) ?_
      refine mx_putI d_Mo_lend_19 fl_Mo_54 (by assumption) ?_
      refine mx_al0 d_Mo_lend_22 ?_
      refine mx_getI d_Mo_lend_23 fl_Mo_54 (by assumption) ?_
      refine mx_ti (y := nI (1)) (vs_upx) ?_
      refine mx_if_le 31 d_Mo_lend_26 (by decide) (fun c_26 => absurd c_26 (by decide)) (fun c_26 => ?_)
      refine mx_in_0 d_Mo_lend_29 ?_
      exact mx_iret d_Mo_lend_30 rfl (mx_sR_i (by simp [sp_lend, *]) (by rw [show (sp_lend m H G _).1 = 1 from by simp [sp_lend, *]]; exact mx_off.rf))
end AA35
