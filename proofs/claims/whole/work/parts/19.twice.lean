/-! TWICE, WAITS -/
section K19
variable {l : Launch} {E : mx_Env} {t : Nat} {S : mx_S} {I : mx_I} {P : mx_P} {J : mx_G} {m : Nat → Int32} {x mo H G N z : Nat}
/-- how many of the first n hosts see the guest g -/
def vs_cnt (m : Nat → Int32) (g n : Nat) : Nat := vf n (fun h s => s + (if bt (vs_seesK m h 8) g then 1 else 0)) 0
def vs_once (m : Nat → Int32) (n : Nat) : Int32 := vf n (fun h s => s ||| vs_seesK m h 8) (nI 0)
def vs_more (m : Nat → Int32) (n : Nat) : Int32 := vf n (fun h s => s ||| (vs_once m h &&& vs_seesK m h 8)) (nI 0)
def vs_tw (m : Nat → Int32) (H n : Nat) : Int32 := vf n (fun g s => s ||| (if 1 < vs_cnt m g H then nI 1 <<< (nI g &&& 31) else nI 0)) (nI 0)
def br_ok (m : Nat → Int32) (G : Nat) : Prop := ∀ h q, h < 8 → q < 8 → m (195 + 8 * h + q) = -1 ∨ ∃ k, k < G ∧ m (195 + 8 * h + q) = nI k
theorem vs_b1 {g i : Nat} (hg : g < 32) (hi : i < 32) : bt (nI 1 <<< (nI g &&& 31)) i = decide (i = g) := (by decide +kernel : ∀ g, g < 32 → ∀ i, i < 32 → bt (nI 1 <<< (nI g &&& 31)) i = decide (i = g)) g hg i hi
theorem vs_sees_hi {h n i : Nat} (hb : br_ok m G) (hG8 : G ≤ 8) (hh : h < 8) (hn : n ≤ 8) (hi : i < 32) (hiG : G ≤ i) : bt (vs_seesK m h n) i = false := by
  induction n with
  | zero => exact vs_bit0 hi
  | succ n ih =>
    unfold vs_seesK
    rw [vf_s]
    rcases hb h n hh (by omega) with h1 | ⟨k, hk, h1⟩
    · rw [if_pos h1]; exact ih (by omega)
    · have h2 : ¬ m (195 + 8 * h + n) = -1 := by
        rw [h1]; intro e
        have := congrArg Int32.toInt e
        rw [nI_toInt (by omega)] at this
        have h3 : (-1 : Int32).toInt = -1 := by decide
        omega
      rw [if_neg h2, b_or, h1, vs_b1 (by omega) hi]
      have h4 : bt (vs_seesK m h n) i = false := ih (by omega)
      unfold vs_seesK at h4
      rw [h4]
      simp; omega
theorem vs_once_b {n i : Nat} (hi : i < 32) : bt (vs_once m n) i = decide (0 < vs_cnt m i n) := by
  induction n with
  | zero => exact vs_bit0 hi
  | succ n ih =>
    have e1 : vs_once m (n + 1) = vs_once m n ||| vs_seesK m n 8 := rfl
    have e2 : vs_cnt m i (n + 1) = vs_cnt m i n + (if bt (vs_seesK m n 8) i then 1 else 0) := rfl
    rw [e1, e2, b_or, ih]
    cases bt (vs_seesK m n 8) i <;> simp
theorem vs_more_b {n i : Nat} (hi : i < 32) : bt (vs_more m n) i = decide (1 < vs_cnt m i n) := by
  induction n with
  | zero => exact vs_bit0 hi
  | succ n ih =>
    have e1 : vs_more m (n + 1) = vs_more m n ||| (vs_once m n &&& vs_seesK m n 8) := rfl
    have e2 : vs_cnt m i (n + 1) = vs_cnt m i n + (if bt (vs_seesK m n 8) i then 1 else 0) := rfl
    rw [e1, e2, b_or, b_and, ih, vs_once_b hi]
    cases bt (vs_seesK m n 8) i
    · simp
    · simp; omega
theorem vs_tw_b {H n i : Nat} (hn : n ≤ 8) (hi : i < 32) : bt (vs_tw m H n) i = (decide (i < n) && decide (1 < vs_cnt m i H)) := by
  induction n with
  | zero => rw [show vs_tw m H 0 = nI 0 from rfl]; simp; exact vs_bit0 hi
  | succ n ih =>
    have e1 : vs_tw m H (n + 1) = vs_tw m H n ||| (if 1 < vs_cnt m n H then nI 1 <<< (nI n &&& 31) else nI 0) := rfl
    rw [e1, b_or, ih (by omega)]
    by_cases h1 : i = n
    · subst h1
      by_cases h2 : 1 < vs_cnt m i H
      · rw [if_pos h2, vs_b1 (by omega) hi]; simp [h2]
      · rw [if_neg h2, show bt (nI 0) i = false from vs_bit0 hi]; simp [h2]
    · have e2 : decide (i < n + 1) = decide (i < n) := by simp; omega
      rw [e2]
      split
      · rw [vs_b1 (by omega) hi]; simp [h1]
      · rw [show bt (nI 0) i = false from vs_bit0 hi]; simp
theorem vs_cnt_le {g n : Nat} : vs_cnt m g n ≤ n := by
  induction n with
  | zero => exact Nat.le_refl 0
  | succ n ih =>
    have e2 : vs_cnt m g (n + 1) = vs_cnt m g n + (if bt (vs_seesK m n 8) g then 1 else 0) := rfl
    rw [e2]; split <;> omega
theorem vs_nn0 {v : Int32} {n : Nat} (hn : n < 1000) (h : (decide (nI 0 ≤ v) && decide (v ≤ nI n)) = false) : vs_isN v (n + 1) = false := by rw [← vs_isN_le2 hn]; exact h
theorem vs_cnt_hi {i n : Nat} (hb : br_ok m G) (hG8 : G ≤ 8) (hi : i < 32) (hiG : G ≤ i) (hn : n ≤ 8) : vs_cnt m i n = 0 := by
  induction n with
  | zero => rfl
  | succ n ih =>
    have e2 : vs_cnt m i (n + 1) = vs_cnt m i n + (if bt (vs_seesK m n 8) i then 1 else 0) := rfl
    rw [e2, ih (by omega), vs_sees_hi hb hG8 (by omega) (by omega) hi hiG]; rfl
theorem vs_tw_eq (hb : br_ok m G) (hG8 : G ≤ 8) (hH8 : H ≤ 8) : vs_more m H = vs_tw m H G := by
  apply b_ext
  intro i hi
  rw [vs_more_b hi, vs_tw_b hG8 hi]
  by_cases h : i < G
  · simp [h]
  · rw [vs_cnt_hi hb hG8 hi (by omega) hH8]; simp
theorem c_Vh_twice (hV : vh_ok S P x) (hSt : st_ok S P (x + 23)) (hSr : st_rel I (x + 23) m) (hH : m 3 = nI H) (hH8 : H ≤ 8)  : mx_C l E M_Vh_twice 3 0 0 [.ref (x)] (t, S, I, P, J) (mx_ri (vs_more m H) (t, S, I, P, J)) := by
  obtain ⟨hV0, hVp0, hVp1, hVp2, hVp3, hVp4, hVp5, hVp7, hVp8, hVp9, hVp10, hVp11, hVp12, hVs15, hVs16, hVs68⟩ := id hV
  obtain ⟨hC0, hC1, hC2, hC3, hC4, hC5, hC6, hD1, hD2, hD3, hD4, hPe, hLo⟩ := id hSt
  obtain ⟨hPr, u0, u1, u2, u3, u4, u5, u6, u7, u8⟩ := id hSr
  obtain ⟨hA0, hA1, hA2, hA3, hA4, hA5, hA6, hA7, hB1, hB2, hB3, hB4, hB5, hB6, hB7⟩ := id hPe
  obtain ⟨r0, r1, r2, r3, r4, r5, r6, r7, r8⟩ := id hPr
  refine mx_C_of (ls0 := [some (.ref (x)), none, none, none, none]) (by decide +kernel) rfl rfl (Nat.le_of_ble_eq_true rfl) rfl ?_
  refine mx_in_0 d_Vh_twice_0 ?_
  refine mx_is1 d_Vh_twice_1 ?_
  refine mx_in_0 d_Vh_twice_2 ?_
  refine mx_is2 d_Vh_twice_3 ?_
  refine mx_in_0 d_Vh_twice_4 ?_
  refine mx_is3 d_Vh_twice_5 ?_
  refine mx_loop (N := H) (ls := fun h => [some (.ref (x)), some (.int ((vs_once m h))), some (.int ((vs_more m h))), some (.int (nI (h))), none]) (X := fun h => (t, S, I, P, J)) (fun h hh ih => ?_) ?_
  · try dsimp only
    refine mx_il3 d_Vh_twice_6 ?_
    refine mx_al0 d_Vh_twice_7 ?_
    refine mx_getR d_Vh_twice_8 fl_Vh_51 (by assumption) (by assumption) ?_
    refine mx_getR d_Vh_twice_11 fl_Vh_162 (by assumption) (by assumption) ?_
    refine mx_getI d_Vh_twice_14 fl_Vh_290 (by assumption) ?_
    refine mx_ti (y := nI (H)) (r0.trans hH) ?_
    refine mx_icN_ge 48 d_Vh_twice_17 (by decide) (by omega) (by omega) (fun c_17 => absurd c_17 (by omega)) (fun c_17 => ?_)
    refine mx_al0 d_Vh_twice_20 ?_
    refine mx_getR d_Vh_twice_21 fl_Vh_51 (by assumption) (by assumption) ?_
    refine mx_il3 d_Vh_twice_24 ?_
    refine mx_cV1i d_Vh_twice_25 (c_St_seenBy hSt hSr (h := h) (by omega)) ok_St_seenBy ml_Vh_188 (by assumption) ⟨rfl, rfl⟩ (by decide) (Nat.le_of_ble_eq_true rfl) ?_
    refine mx_is4 d_Vh_twice_28 ?_
    refine mx_il2 d_Vh_twice_30 ?_
    refine mx_il1 d_Vh_twice_31 ?_
    refine mx_il4 d_Vh_twice_32 ?_
    refine mx_iand d_Vh_twice_34 ?_
    refine mx_ior d_Vh_twice_35 ?_
    refine mx_is2 d_Vh_twice_36 ?_
    refine mx_il1 d_Vh_twice_37 ?_
    refine mx_il4 d_Vh_twice_38 ?_
    refine mx_ior d_Vh_twice_40 ?_
    refine mx_is1 d_Vh_twice_41 ?_
    refine mx_iN3 d_Vh_twice_42 ?_
    refine mx_goto 6 d_Vh_twice_45 (by decide) ?_
    refine mx_dn4 ?_
    have e1 : ((vs_once m h) ||| (vs_seesK m (h) 8)) = (vs_once m (h + 1)) := by rfl
    refine mx_lsc (congrArg (fun z9 => ([some (.ref (x)), some (.int (z9)), some (.int (((vs_more m h) ||| ((vs_once m h) &&& (vs_seesK m (h) 8))))), some (.int (nI (h + 1))), none] : List (Option Value))) e1) ?_
    have e2 : ((vs_more m h) ||| ((vs_once m h) &&& (vs_seesK m (h) 8))) = (vs_more m (h + 1)) := by rfl
    refine mx_lsc (congrArg (fun z9 => ([some (.ref (x)), some (.int ((vs_once m (h + 1)))), some (.int (z9)), some (.int (nI (h + 1))), none] : List (Option Value))) e2) ?_
    exact ih
  · try dsimp only
    refine mx_il3 d_Vh_twice_6 ?_
    refine mx_al0 d_Vh_twice_7 ?_
    refine mx_getR d_Vh_twice_8 fl_Vh_51 (by assumption) (by assumption) ?_
    refine mx_getR d_Vh_twice_11 fl_Vh_162 (by assumption) (by assumption) ?_
    refine mx_getI d_Vh_twice_14 fl_Vh_290 (by assumption) ?_
    refine mx_ti (y := nI (H)) (r0.trans hH) ?_
    refine mx_icN_ge 48 d_Vh_twice_17 (by decide) (by omega) (by omega) (fun c_17 => ?_) (fun c_17 => absurd c_17 (by omega))
    refine mx_il2 d_Vh_twice_48 ?_
    exact mx_iret d_Vh_twice_49 rfl (mx_ri_of rfl)
theorem c_Mo_twice (hM : mo_ok S P mo) (hm : I (mo + 1) = m) (hH : m 3 = nI H) (hH8 : H ≤ 8) (hG : m 4 = nI G) (hG8 : G ≤ 8)  : mx_C l E M_Mo_twice 3 0 0 [.ref (mo)] (t, S, I, P, J) (mx_ri (vs_tw m H G) (t, S, mx_up I (mo) 0 (nI 0), P, J)) := by
  obtain ⟨hM0, hMp1, hMp2, hMp4, hMp5, hMp7, hMp14, hMp21, hMp22, hMp23, hMp24, hMp25, hMp26, hMp27, hMs1, hMs2, hMs3, hMs4, hMs5, hMs6, hMs7, hMs8, hMs9, hMs10, hMs11, hMs12, hMs13⟩ := id hM
  refine mx_C_of (ls0 := [some (.ref (mo)), none, none, none, none]) (by decide +kernel) rfl rfl (Nat.le_of_ble_eq_true rfl) rfl ?_
  refine mx_al0 d_Mo_twice_0 ?_
  refine mx_in_0 d_Mo_twice_1 ?_
  refine mx_putI d_Mo_twice_2 fl_Mo_54 (by assumption) ?_
  refine mx_in_0 d_Mo_twice_5 ?_
  refine mx_is1 d_Mo_twice_6 ?_
  refine mx_in_0 d_Mo_twice_7 ?_
  refine mx_is2 d_Mo_twice_8 ?_
  refine mx_loop (N := G) (ls := fun g => [some (.ref (mo)), some (.int ((vs_tw m H g))), some (.int (nI (g))), none, none]) (X := fun g => (t, S, (mx_up I (mo) 0 (nI (0))), P, J)) (fun g hg ih => ?_) ?_
  · try dsimp only
    refine mx_il2 d_Mo_twice_9 ?_
    refine mx_al0 d_Mo_twice_10 ?_
    refine mx_getR d_Mo_twice_11 fl_Mo_7 (by assumption) (by assumption) ?_
    refine mx_in_4 d_Mo_twice_14 ?_
    refine mx_iald d_Mo_twice_15 (by assumption) (nI_inb (by omega) (by omega)) ?_
    refine mx_ti (y := (mx_up I (mo) 0 (nI (0))) (mo + 1) (4)) (by rw [nI_clamp (by omega)]) ?_
    refine mx_ti (y := nI (G)) ((congrFun (vs_hm hm) 4).trans hG) ?_
    refine mx_icN_ge 83 d_Mo_twice_16 (by decide) (by omega) (by omega) (fun c_16 => absurd c_16 (by omega)) (fun c_16 => ?_)
    refine mx_in_0 d_Mo_twice_19 ?_
    refine mx_is3 d_Mo_twice_20 ?_
    refine mx_in_0 d_Mo_twice_21 ?_
    refine mx_is4 d_Mo_twice_22 ?_
    have ih9 := ih
    refine mx_loop (N := H) (ls := fun h => [some (.ref (mo)), some (.int ((vs_tw m H g))), some (.int (nI (g))), some (.int (nI (vs_cnt m g h))), some (.int (nI (h)))]) (X := fun h => (t, S, (mx_up I (mo) 0 (nI (0))), P, J)) (fun h hh ih => ?_) ?_
    · try dsimp only
      refine mx_il4 d_Mo_twice_24 ?_
      refine mx_al0 d_Mo_twice_26 ?_
      refine mx_getR d_Mo_twice_27 fl_Mo_7 (by assumption) (by assumption) ?_
      refine mx_in_3 d_Mo_twice_30 ?_
      refine mx_iald d_Mo_twice_31 (by assumption) (nI_inb (by omega) (by omega)) ?_
      refine mx_ti (y := (mx_up I (mo) 0 (nI (0))) (mo + 1) (3)) (by rw [nI_clamp (by omega)]) ?_
      refine mx_ti (y := nI (H)) ((congrFun (vs_hm hm) 3).trans hH) ?_
      refine mx_icN_ge 62 d_Mo_twice_32 (by decide) (by omega) (by omega) (fun c_32 => absurd c_32 (by omega)) (fun c_32 => ?_)
      refine mx_il3 d_Mo_twice_35 ?_
      refine mx_al0 d_Mo_twice_36 ?_
      refine mx_il4 d_Mo_twice_37 ?_
      refine mx_cV1i d_Mo_twice_39 (cm_seesOf hM (vs_hm hm) (h := h) (by omega)) ok_Mo_seesOf ml_Mo_316 (by assumption) ⟨rfl, rfl⟩ (by decide) (Nat.le_of_ble_eq_true rfl) ?_
      refine mx_il2 d_Mo_twice_42 ?_
      refine mx_cS2i d_Mo_twice_43 (c_Mo_isOf (j := g) (by omega)) ok_Mo_isOf ml_Mo_74 (by decide) (Nat.le_of_ble_eq_true rfl) ?_
      refine mx_ifB_eq 53 d_Mo_twice_46 (by decide) (fun c_46 => ?_) (fun c_46 => ?_)
      · skip
        have k0 : bt (vs_seesK m h 8) g = false := c_46
        refine mx_in_0 d_Mo_twice_53 ?_
        refine mx_iaddN d_Mo_twice_54 ?_
        refine mx_is3 d_Mo_twice_55 ?_
        refine mx_iN4 d_Mo_twice_56 ?_
        refine mx_goto 24 d_Mo_twice_59 (by decide) ?_
        have e3 : nI (vs_cnt m g h + 0) = nI (vs_cnt m g (h + 1)) := by (show nI _ = nI (vs_cnt m g h + (if bt (vs_seesK m h 8) g then 1 else 0))); rw [k0]; rfl
        refine mx_lsc (congrArg (fun z9 => ([some (.ref (mo)), some (.int ((vs_tw m H g))), some (.int (nI (g))), some (.int (z9)), some (.int (nI (h + 1)))] : List (Option Value))) e3) ?_
        exact ih
      · skip
        have k0 : bt (vs_seesK m h 8) g = true := c_46
        refine mx_in_1 d_Mo_twice_49 ?_
        refine mx_goto 54 d_Mo_twice_50 (by decide) ?_
        refine mx_iaddN d_Mo_twice_54 ?_
        refine mx_is3 d_Mo_twice_55 ?_
        refine mx_iN4 d_Mo_twice_56 ?_
        refine mx_goto 24 d_Mo_twice_59 (by decide) ?_
        have e3 : nI (vs_cnt m g h + 1) = nI (vs_cnt m g (h + 1)) := by (show nI _ = nI (vs_cnt m g h + (if bt (vs_seesK m h 8) g then 1 else 0))); rw [k0]; rfl
        refine mx_lsc (congrArg (fun z9 => ([some (.ref (mo)), some (.int ((vs_tw m H g))), some (.int (nI (g))), some (.int (z9)), some (.int (nI (h + 1)))] : List (Option Value))) e3) ?_
        exact ih
    · try dsimp only
      refine mx_il4 d_Mo_twice_24 ?_
      refine mx_al0 d_Mo_twice_26 ?_
      refine mx_getR d_Mo_twice_27 fl_Mo_7 (by assumption) (by assumption) ?_
      refine mx_in_3 d_Mo_twice_30 ?_
      refine mx_iald d_Mo_twice_31 (by assumption) (nI_inb (by omega) (by omega)) ?_
      refine mx_ti (y := (mx_up I (mo) 0 (nI (0))) (mo + 1) (3)) (by rw [nI_clamp (by omega)]) ?_
      refine mx_ti (y := nI (H)) ((congrFun (vs_hm hm) 3).trans hH) ?_
      refine mx_icN_ge 62 d_Mo_twice_32 (by decide) (by omega) (by omega) (fun c_32 => ?_) (fun c_32 => absurd c_32 (by omega))
      refine mx_il1 d_Mo_twice_62 ?_
      refine mx_il3 d_Mo_twice_63 ?_
      refine mx_in_1 d_Mo_twice_64 ?_
      have hcl := vs_cnt_le (m := m) (g := g) (n := H)
      refine mx_icN_le 74 d_Mo_twice_65 (by decide) (by omega) (by omega) (fun c_65 => ?_) (fun c_65 => ?_)
      · skip
        refine mx_in_0 d_Mo_twice_74 ?_
        refine mx_ior d_Mo_twice_75 ?_
        refine mx_is1 d_Mo_twice_76 ?_
        refine mx_iN2 d_Mo_twice_77 ?_
        refine mx_goto 9 d_Mo_twice_80 (by decide) ?_
        refine mx_dn3 ?_
        refine mx_dn4 ?_
        have e1 : ((vs_tw m H g) ||| nI (0)) = (vs_tw m H (g + 1)) := by (show _ = vs_tw m H g ||| (if 1 < vs_cnt m g H then nI 1 <<< (nI g &&& 31) else nI 0)); first | rw [if_pos (by omega)] | rw [if_neg (by omega)]
        refine mx_lsc (congrArg (fun z9 => ([some (.ref (mo)), some (.int (z9)), some (.int (nI (g + 1))), none, none] : List (Option Value))) e1) ?_
        exact ih
      · skip
        refine mx_in_1 d_Mo_twice_68 ?_
        refine mx_il2 d_Mo_twice_69 ?_
        refine mx_ishl d_Mo_twice_70 ?_
        refine mx_goto 75 d_Mo_twice_71 (by decide) ?_
        refine mx_ior d_Mo_twice_75 ?_
        refine mx_is1 d_Mo_twice_76 ?_
        refine mx_iN2 d_Mo_twice_77 ?_
        refine mx_goto 9 d_Mo_twice_80 (by decide) ?_
        refine mx_dn3 ?_
        refine mx_dn4 ?_
        have e1 : ((vs_tw m H g) ||| (nI (1) <<< (nI (g) &&& 31))) = (vs_tw m H (g + 1)) := by (show _ = vs_tw m H g ||| (if 1 < vs_cnt m g H then nI 1 <<< (nI g &&& 31) else nI 0)); first | rw [if_pos (by omega)] | rw [if_neg (by omega)]
        refine mx_lsc (congrArg (fun z9 => ([some (.ref (mo)), some (.int (z9)), some (.int (nI (g + 1))), none, none] : List (Option Value))) e1) ?_
        exact ih
  · try dsimp only
    refine mx_il2 d_Mo_twice_9 ?_
    refine mx_al0 d_Mo_twice_10 ?_
    refine mx_getR d_Mo_twice_11 fl_Mo_7 (by assumption) (by assumption) ?_
    refine mx_in_4 d_Mo_twice_14 ?_
    refine mx_iald d_Mo_twice_15 (by assumption) (nI_inb (by omega) (by omega)) ?_
    refine mx_ti (y := (mx_up I (mo) 0 (nI (0))) (mo + 1) (4)) (by rw [nI_clamp (by omega)]) ?_
    refine mx_ti (y := nI (G)) ((congrFun (vs_hm hm) 4).trans hG) ?_
    refine mx_icN_ge 83 d_Mo_twice_16 (by decide) (by omega) (by omega) (fun c_16 => ?_) (fun c_16 => absurd c_16 (by omega))
    refine mx_il1 d_Mo_twice_83 ?_
    exact mx_iret d_Mo_twice_84 rfl (mx_ri_of2 rfl rfl)
def rn_ok (m : Nat → Int32) : Prop := ∃ r, r ≤ 100 ∧ m 5 = nI r
def vs_some (m : Nat → Int32) (n : Nat) : Int64 := vs_pow 100 n - vs_pow (m 5).toInt64 n
def vs_waitV (m : Nat → Int32) (n : Nat) : Int32 := if n < 2 then (vs_some m n * vs_pow 100 (2 - n)).toInt32 else (vs_div (vs_some m n) (vs_pow 100 (n - 2))).toInt32
def sp_waits (m : Nat → Int32) (v u : Int32) : Nat × Int32 := if vs_isN u 8 then (if vs_isN v 9 then (0, vs_waitV m v.toNatClampNeg) else (2, nI 0)) else (1, nI 0)
theorem vs_p100 : (nI 100).toInt64 = 100 := by decide
theorem vs_pow0 {n : Nat} (hn : n < 9) : ¬ vs_pow 100 n = 0 := (by decide +kernel : ∀ n, n < 9 → ¬ vs_pow 100 n = 0) n hn
theorem vs_wait1 {n : Nat} (hr : rn_ok m) (hn : n < 2) : (10000 * vs_some m n / vs_pow 100 n).toInt32 = (vs_some m n * vs_pow 100 (2 - n)).toInt32 := by
  obtain ⟨r, hr, e⟩ := hr
  unfold vs_some
  rw [e]
  exact (by decide +kernel : ∀ r, r < 101 → ∀ n, n < 2 → (10000 * (vs_pow 100 n - vs_pow (nI r).toInt64 n) / vs_pow 100 n).toInt32 = ((vs_pow 100 n - vs_pow (nI r).toInt64 n) * vs_pow 100 (2 - n)).toInt32) r (by omega) n hn
theorem c_Mo_power {v : Int32} {n : Nat} (hn : n < 1000) : mx_C l E M_Mo_power 0 0 0 [.int (v), .int (nI (n))] (t, S, I, P, J) (mx_rl (vs_pow v.toInt64 n) (t, S, I, P, J)) := by
  refine mx_C_of (ls0 := [some (.int (v)), some (.int (nI (n))), none, none, none]) (by decide +kernel) rfl rfl (Nat.le_of_ble_eq_true rfl) rfl ?_
  refine mx_lc_1 d_Mo_power_0 ?_
  refine mx_ls2 d_Mo_power_1 ?_
  refine mx_in_0 d_Mo_power_2 ?_
  refine mx_is4 d_Mo_power_3 ?_
  refine mx_loop (N := n) (ls := fun i => [some (.int (v)), some (.int (nI (n))), some (.long ((vs_pow v.toInt64 i))), none, some (.int (nI (i)))]) (X := fun i => (t, S, I, P, J)) (fun i hi ih => ?_) ?_
  · try dsimp only
    refine mx_il4 d_Mo_power_5 ?_
    refine mx_il1 d_Mo_power_7 ?_
    refine mx_icN_ge 22 d_Mo_power_8 (by decide) (by omega) (by omega) (fun c_8 => absurd c_8 (by omega)) (fun c_8 => ?_)
    refine mx_ll2 d_Mo_power_11 ?_
    refine mx_il0 d_Mo_power_12 ?_
    refine mx_i2l d_Mo_power_13 ?_
    refine mx_lmul d_Mo_power_14 ?_
    refine mx_ls2 d_Mo_power_15 ?_
    refine mx_iN4 d_Mo_power_16 ?_
    refine mx_goto 5 d_Mo_power_19 (by decide) ?_
    have e2 : ((vs_pow v.toInt64 i) * (v).toInt64) = (vs_pow v.toInt64 (i + 1)) := by rfl
    refine mx_lsc (congrArg (fun z9 => ([some (.int (v)), some (.int (nI (n))), some (.long (z9)), none, some (.int (nI (i + 1)))] : List (Option Value))) e2) ?_
    exact ih
  · try dsimp only
    refine mx_il4 d_Mo_power_5 ?_
    refine mx_il1 d_Mo_power_7 ?_
    refine mx_icN_ge 22 d_Mo_power_8 (by decide) (by omega) (by omega) (fun c_8 => ?_) (fun c_8 => absurd c_8 (by omega))
    refine mx_ll2 d_Mo_power_22 ?_
    exact mx_lret d_Mo_power_23 rfl (mx_rl_of rfl)
theorem c_Vh_waits (htr : l.stackTraces = false) (hV : vh_ok S P x) (hSt : st_ok S P (x + 23)) (hSr : st_rel I (x + 23) m) {v u : Int32} : mx_C l E M_Vh_waits 7 2 12 [.ref (x), .int (v), .int (u)] (t, S, I, P, J) (mx_po (fun c => if c = 1 then "java/lang/IndexOutOfBoundsException" else "java/lang/IllegalArgumentException") (sp_waits m v u) (t, S, I, P, J)) := by
  obtain ⟨hV0, hVp0, hVp1, hVp2, hVp3, hVp4, hVp5, hVp7, hVp8, hVp9, hVp10, hVp11, hVp12, hVs15, hVs16, hVs68⟩ := id hV
  obtain ⟨hC0, hC1, hC2, hC3, hC4, hC5, hC6, hD1, hD2, hD3, hD4, hPe, hLo⟩ := id hSt
  obtain ⟨hPr, u0, u1, u2, u3, u4, u5, u6, u7, u8⟩ := id hSr
  obtain ⟨hA0, hA1, hA2, hA3, hA4, hA5, hA6, hA7, hB1, hB2, hB3, hB4, hB5, hB6, hB7⟩ := id hPe
  obtain ⟨r0, r1, r2, r3, r4, r5, r6, r7, r8⟩ := id hPr
  refine mx_C_of (ls0 := [some (.ref (x)), some (.int (v)), some (.int (u)), none, none]) (by decide +kernel) rfl rfl (Nat.le_of_ble_eq_true rfl) rfl ?_
  obtain ⟨-, -, urain, -⟩ := id hSr
  refine mx_il2 d_Vh_waits_0 ?_
  refine mx_nS1 d_Vh_waits_1 (c_needQuarter htr ) ok_Vh_needQuarter ml_Vh_226 rfl (by decide) (by decide) (by decide) (Nat.le_of_ble_eq_true rfl) (fun hb1 t9 ht => mx_po_x ht 0 (by simp_all [sp_waits]) rfl) (fun hb1 => ?_)
  obtain ⟨q, hqL, rfl⟩ := vs_isN_of (by omega) hb1
  have hqc : (nI q).toNatClampNeg = q := nI_clamp (by omega)
  have hqL8 : q < 8 := by omega
  refine mx_il1 d_Vh_waits_4 ?_
  refine mx_in_0 d_Vh_waits_5 ?_
  refine mx_bip 8 d_Vh_waits_6 (by decide) ?_
  refine mx_nS3 d_Vh_waits_8 (c_needNumber htr) ok_Vh_needNumber ml_Vh_269 rfl (by decide) (by decide) (by decide) (Nat.le_of_ble_eq_true rfl) (fun hb8 t9 ht => mx_po_x ht 1 (by have hnO := vs_nn0 (n := 8) (by omega) hb8; simp_all [sp_waits]) rfl) (fun hb8 => ?_)
  have hnv : vs_isN v 9 = true := by rw [← vs_isN_le2 (n := 8) (by omega)]; exact hb8
  obtain ⟨n, hnL, rfl⟩ := vs_isN_of (by omega) hnv
  have hnc : (nI n).toNatClampNeg = n := nI_clamp (by omega)
  refine mx_ldc2 d_Vh_waits_11 cn_Vh_393 ?_
  refine mx_il1 d_Vh_waits_14 ?_
  refine mx_cS2l d_Vh_waits_15 (c_power (n := n) (by omega)) ok_Vh_power ml_Vh_387 (by decide) (Nat.le_of_ble_eq_true rfl) ?_
  refine mx_al0 d_Vh_waits_18 ?_
  refine mx_getR d_Vh_waits_19 fl_Vh_51 (by assumption) (by assumption) ?_
  refine mx_getI d_Vh_waits_22 fl_Vh_384 (by assumption) ?_
  refine mx_i2l d_Vh_waits_25 ?_
  refine mx_il1 d_Vh_waits_26 ?_
  refine mx_cS2l d_Vh_waits_27 (c_power (n := n) (by omega)) ok_Vh_power ml_Vh_387 (by decide) (Nat.le_of_ble_eq_true rfl) ?_
  refine mx_lsub d_Vh_waits_30 ?_
  refine mx_ls3 d_Vh_waits_31 ?_
  refine mx_il1 d_Vh_waits_32 ?_
  refine mx_in_2 d_Vh_waits_33 ?_
  refine mx_icN_ge 51 d_Vh_waits_34 (by decide) (by omega) (by omega) (fun c_34 => ?_) (fun c_34 => ?_)
  · skip
    have n2 : ¬ n < 2 := by omega
    refine mx_ll3 d_Vh_waits_51 ?_
    refine mx_ldc2 d_Vh_waits_52 cn_Vh_393 ?_
    refine mx_il1 d_Vh_waits_55 ?_
    refine mx_in_2 d_Vh_waits_56 ?_
    refine mx_isubN d_Vh_waits_57 (by omega) ?_
    refine mx_cS2l d_Vh_waits_58 (c_power (n := n - 2) (by omega)) ok_Vh_power ml_Vh_387 (by decide) (Nat.le_of_ble_eq_true rfl) ?_
    refine mx_cS2l d_Vh_waits_61 (c_divide) ok_Vh_divide ml_Vh_395 (by decide) (Nat.le_of_ble_eq_true rfl) ?_
    refine mx_l2i d_Vh_waits_64 ?_
    exact mx_iret d_Vh_waits_65 rfl (mx_po_i (by simp [sp_waits, vs_waitV, vs_some, *]))
  · skip
    refine mx_ll3 d_Vh_waits_37 ?_
    refine mx_ldc2 d_Vh_waits_38 cn_Vh_393 ?_
    refine mx_in_2 d_Vh_waits_41 ?_
    refine mx_il1 d_Vh_waits_42 ?_
    refine mx_isubN d_Vh_waits_43 (by omega) ?_
    refine mx_cS2l d_Vh_waits_44 (c_power (n := 2 - n) (by omega)) ok_Vh_power ml_Vh_387 (by decide) (Nat.le_of_ble_eq_true rfl) ?_
    refine mx_lmul d_Vh_waits_47 ?_
    refine mx_goto 64 d_Vh_waits_48 (by decide) ?_
    refine mx_l2i d_Vh_waits_64 ?_
    exact mx_iret d_Vh_waits_65 rfl (mx_po_i (by simp [sp_waits, vs_waitV, vs_some, *]))
theorem c_Mo_waits (hM : mo_ok S P mo) (hm : I (mo + 1) = m) (hr : rn_ok m) {v u : Int32} : mx_C l E M_Mo_waits 2 0 0 [.ref (mo), .int (v), .int (u)] (t, S, I, P, J) (mx_ri (sp_waits m v u).2 (t, S, mx_up I (mo) 0 (nI (sp_waits m v u).1), P, J)) := by
  obtain ⟨hM0, hMp1, hMp2, hMp4, hMp5, hMp7, hMp14, hMp21, hMp22, hMp23, hMp24, hMp25, hMp26, hMp27, hMs1, hMs2, hMs3, hMs4, hMs5, hMs6, hMs7, hMs8, hMs9, hMs10, hMs11, hMs12, hMs13⟩ := id hM
  refine mx_C_of (ls0 := [some (.ref (mo)), some (.int (v)), some (.int (u)), none, none]) (by decide +kernel) rfl rfl (Nat.le_of_ble_eq_true rfl) rfl ?_
  refine mx_al0 d_Mo_waits_0 ?_
  refine mx_il2 d_Mo_waits_1 ?_
  refine mx_cS1i d_Mo_waits_2 (c_Mo_isQuarter) ok_Mo_isQuarter ml_Mo_331 (by decide) (Nat.le_of_ble_eq_true rfl) ?_
  refine mx_ifB_ne 12 d_Mo_waits_5 (by decide) (fun c_5 => ?_) (fun c_5 => ?_)
  · skip
    refine mx_il1 d_Mo_waits_12 ?_
    refine mx_in_0 d_Mo_waits_13 ?_
    refine mx_bip 8 d_Mo_waits_14 (by decide) ?_
    refine mx_cS3i d_Mo_waits_16 (cm_isIn0 (x := v) (n := 8) (by omega)) ok_Mo_isIn ml_Mo_57 (by decide) (Nat.le_of_ble_eq_true rfl) ?_
    refine mx_ifB_ne 26 d_Mo_waits_19 (by decide) (fun c_19 => ?_) (fun c_19 => ?_)
    · skip
      obtain ⟨n, hnL, rfl⟩ := vs_isN_of (by omega) c_19
      have hnc : (nI n).toNatClampNeg = n := nI_clamp (by omega)
      refine mx_in_0 d_Mo_waits_26 ?_
      refine mx_putI d_Mo_waits_27 fl_Mo_54 (by assumption) ?_
      refine mx_al0 d_Mo_waits_30 ?_
      refine mx_getI d_Mo_waits_31 fl_Mo_54 (by assumption) ?_
      refine mx_ti (y := nI (0)) (vs_upx) ?_
      refine mx_if_le 39 d_Mo_waits_34 (by decide) (fun c_34 => ?_) (fun c_34 => absurd (by decide) c_34)
      refine mx_bip 100 d_Mo_waits_39 (by decide) ?_
      refine mx_il1 d_Mo_waits_41 ?_
      refine mx_cS2l d_Mo_waits_42 (c_Mo_power (n := n) (by omega)) ok_Mo_power ml_Mo_409 (by decide) (Nat.le_of_ble_eq_true rfl) ?_
      refine mx_al0 d_Mo_waits_45 ?_
      refine mx_getR d_Mo_waits_46 fl_Mo_7 (by assumption) (by assumption) ?_
      refine mx_in_5 d_Mo_waits_49 ?_
      refine mx_iald d_Mo_waits_50 (by assumption) (nI_inb (by omega) (by omega)) ?_
      refine mx_ti (y := (mx_up I (mo) 0 (nI (0))) (mo + 1) (5)) (by rw [nI_clamp (by omega)]) ?_
      refine mx_ti (y := (m 5)) (congrFun (vs_hm hm) 5) ?_
      refine mx_il1 d_Mo_waits_51 ?_
      refine mx_cS2l d_Mo_waits_52 (c_Mo_power (n := n) (by omega)) ok_Mo_power ml_Mo_409 (by decide) (Nat.le_of_ble_eq_true rfl) ?_
      refine mx_lsub d_Mo_waits_55 ?_
      refine mx_ls3 d_Mo_waits_56 ?_
      refine mx_il1 d_Mo_waits_57 ?_
      refine mx_in_2 d_Mo_waits_58 ?_
      refine mx_icN_ge 78 d_Mo_waits_59 (by decide) (by omega) (by omega) (fun c_59 => ?_) (fun c_59 => ?_)
      · skip
        refine mx_ll3 d_Mo_waits_78 ?_
        refine mx_bip 100 d_Mo_waits_79 (by decide) ?_
        refine mx_il1 d_Mo_waits_81 ?_
        refine mx_in_2 d_Mo_waits_82 ?_
        refine mx_isubN d_Mo_waits_83 (by omega) ?_
        refine mx_cS2l d_Mo_waits_84 (c_Mo_power (n := n - 2) (by omega)) ok_Mo_power ml_Mo_409 (by decide) (Nat.le_of_ble_eq_true rfl) ?_
        rw [vs_p100]
        refine mx_ldiv d_Mo_waits_87 (by first | (rw [vs_p100]; exact vs_pow0 (by omega)) | exact vs_pow0 (by omega)) ?_
        refine mx_l2i d_Mo_waits_88 ?_
        exact mx_iret d_Mo_waits_89 rfl (mx_ri_of2 (by simp only [sp_waits, c_5, c_19, hnc, vs_waitV, if_true]; first | (rw [if_pos (by assumption)]; (try simp only [vs_p100]); exact vs_wait1 hr (by assumption)) | (rw [if_neg (by omega)]; (try simp only [vs_p100]); rw [vs_div, if_neg (vs_pow0 (by omega))]; rfl)) (by simp [sp_waits, *]))
      · skip
        refine mx_ldc2 d_Mo_waits_62 cn_Mo_413 ?_
        refine mx_ll3 d_Mo_waits_65 ?_
        refine mx_lmul d_Mo_waits_66 ?_
        refine mx_bip 100 d_Mo_waits_67 (by decide) ?_
        refine mx_il1 d_Mo_waits_69 ?_
        refine mx_cS2l d_Mo_waits_70 (c_Mo_power (n := n) (by omega)) ok_Mo_power ml_Mo_409 (by decide) (Nat.le_of_ble_eq_true rfl) ?_
        rw [vs_p100]
        refine mx_ldiv d_Mo_waits_73 (by first | (rw [vs_p100]; exact vs_pow0 (by omega)) | exact vs_pow0 (by omega)) ?_
        refine mx_l2i d_Mo_waits_74 ?_
        refine mx_goto 89 d_Mo_waits_75 (by decide) ?_
        exact mx_iret d_Mo_waits_89 rfl (mx_ri_of2 (by simp only [sp_waits, c_5, c_19, hnc, vs_waitV, if_true]; first | (rw [if_pos (by assumption)]; (try simp only [vs_p100]); exact vs_wait1 hr (by assumption)) | (rw [if_neg (by omega)]; (try simp only [vs_p100]); rw [vs_div, if_neg (vs_pow0 (by omega))]; rfl)) (by simp [sp_waits, *]))
    · skip
      refine mx_in_2 d_Mo_waits_22 ?_
      refine mx_goto 27 d_Mo_waits_23 (by decide) ?_
      refine mx_putI d_Mo_waits_27 fl_Mo_54 (by assumption) ?_
      refine mx_al0 d_Mo_waits_30 ?_
      refine mx_getI d_Mo_waits_31 fl_Mo_54 (by assumption) ?_
      refine mx_ti (y := nI (2)) (vs_upx) ?_
      refine mx_if_le 39 d_Mo_waits_34 (by decide) (fun c_34 => absurd c_34 (by decide)) (fun c_34 => ?_)
      refine mx_in_0 d_Mo_waits_37 ?_
      exact mx_iret d_Mo_waits_38 rfl (mx_ri_of2 (by simp [sp_waits, *]) (by simp [sp_waits, *]))
  · skip
    refine mx_in_1 d_Mo_waits_8 ?_
    refine mx_goto 27 d_Mo_waits_9 (by decide) ?_
    refine mx_putI d_Mo_waits_27 fl_Mo_54 (by assumption) ?_
    refine mx_al0 d_Mo_waits_30 ?_
    refine mx_getI d_Mo_waits_31 fl_Mo_54 (by assumption) ?_
    refine mx_ti (y := nI (1)) (vs_upx) ?_
    refine mx_if_le 39 d_Mo_waits_34 (by decide) (fun c_34 => absurd c_34 (by decide)) (fun c_34 => ?_)
    refine mx_in_0 d_Mo_waits_37 ?_
    exact mx_iret d_Mo_waits_38 rfl (mx_ri_of2 (by simp [sp_waits, *]) (by simp [sp_waits, *]))
end K19
