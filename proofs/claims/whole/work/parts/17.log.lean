/-! COUNT, THE LOG -/
section I17
variable {l : Launch} {E : mx_Env} {t : Nat} {S : mx_S} {I : mx_I} {P : mx_P} {J : mx_G} {m : Nat → Int32} {x mo H G : Nat}
theorem c_Mo_alike (hM : mo_ok S P mo) (hm : I (mo + 1) = m) (hH : m 3 = nI H) (hH8 : H ≤ 8) (hG : m 4 = nI G) (hG8 : G ≤ 8)  : mx_C l E M_Mo_alike 3 0 0 [.ref (mo)] (t, S, I, P, J) (mx_ri (nI (vs_alk2 m G H H)) (t, S, mx_up I (mo) 0 (nI 0), P, J)) := by
  obtain ⟨hM0, hMp1, hMp2, hMp4, hMp5, hMp7, hMp14, hMp21, hMp22, hMp23, hMp24, hMp25, hMp26, hMp27, hMs1, hMs2, hMs3, hMs4, hMs5, hMs6, hMs7, hMs8, hMs9, hMs10, hMs11, hMs12, hMs13⟩ := id hM
  refine mx_C_of (ls0 := [some (.ref (mo)), none, none, none]) (by decide +kernel) rfl rfl (Nat.le_of_ble_eq_true rfl) rfl ?_
  refine mx_al0 d_Mo_alike_0 ?_
  refine mx_in_0 d_Mo_alike_1 ?_
  refine mx_putI d_Mo_alike_2 fl_Mo_54 (by assumption) ?_
  refine mx_in_0 d_Mo_alike_5 ?_
  refine mx_is1 d_Mo_alike_6 ?_
  refine mx_in_0 d_Mo_alike_7 ?_
  refine mx_is2 d_Mo_alike_8 ?_
  refine mx_loop (N := H) (ls := fun a => [some (.ref (mo)), some (.int (nI (vs_alk2 m G H a))), some (.int (nI (a))), none]) (X := fun a => (t, S, (mx_up I (mo) 0 (nI (0))), P, J)) (fun a ha ih => ?_) ?_
  · try dsimp only
    refine mx_il2 d_Mo_alike_9 ?_
    refine mx_al0 d_Mo_alike_10 ?_
    refine mx_getR d_Mo_alike_11 fl_Mo_7 (by assumption) (by assumption) ?_
    refine mx_in_3 d_Mo_alike_14 ?_
    refine mx_iald d_Mo_alike_15 (by assumption) (nI_inb (by omega) (by omega)) ?_
    refine mx_ti (y := (mx_up I (mo) 0 (nI (0))) (mo + 1) (3)) (by rw [nI_clamp (by omega)]) ?_
    refine mx_ti (y := nI (H)) ((congrFun (vs_hm hm) 3).trans hH) ?_
    refine mx_icN_ge 62 d_Mo_alike_16 (by decide) (by omega) (by omega) (fun c_16 => absurd c_16 (by omega)) (fun c_16 => ?_)
    refine mx_il2 d_Mo_alike_19 ?_
    refine mx_in_1 d_Mo_alike_20 ?_
    refine mx_iaddN d_Mo_alike_21 ?_
    refine mx_is3 d_Mo_alike_22 ?_
    have ih9 := ih
    refine mx_loop (N := H - (a + 1)) (ls := fun j => [some (.ref (mo)), some (.int (nI (vs_alQ m G a j (vs_alk2 m G H a)))), some (.int (nI (a))), some (.int (nI (a + 1 + j)))]) (X := fun j => (t, S, (mx_up I (mo) 0 (nI (0))), P, J)) (fun j hj ih => ?_) ?_
    · try dsimp only
      refine mx_il3 d_Mo_alike_23 ?_
      refine mx_al0 d_Mo_alike_24 ?_
      refine mx_getR d_Mo_alike_25 fl_Mo_7 (by assumption) (by assumption) ?_
      refine mx_in_3 d_Mo_alike_28 ?_
      refine mx_iald d_Mo_alike_29 (by assumption) (nI_inb (by omega) (by omega)) ?_
      refine mx_ti (y := (mx_up I (mo) 0 (nI (0))) (mo + 1) (3)) (by rw [nI_clamp (by omega)]) ?_
      refine mx_ti (y := nI (H)) ((congrFun (vs_hm hm) 3).trans hH) ?_
      refine mx_icN_ge 56 d_Mo_alike_30 (by decide) (by omega) (by omega) (fun c_30 => absurd c_30 (by omega)) (fun c_30 => ?_)
      refine mx_il1 d_Mo_alike_33 ?_
      refine mx_al0 d_Mo_alike_34 ?_
      refine mx_il2 d_Mo_alike_35 ?_
      refine mx_il3 d_Mo_alike_36 ?_
      refine mx_cV2i d_Mo_alike_37 (c_Mo_areAlike hM (vs_hm hm) hG hG8 (a := a) (b := a + 1 + j) (by omega) (by omega)) ok_Mo_areAlike ml_Mo_424 (by assumption) ⟨rfl, rfl⟩ (by decide) (Nat.le_of_ble_eq_true rfl) ?_
      refine mx_ifB_eq 47 d_Mo_alike_40 (by decide) (fun c_40 => ?_) (fun c_40 => ?_)
      · skip
        have k0 : vs_alk m G a (a + 1 + j) = 0 := by unfold vs_alk; rw [c_40]; rfl
        refine mx_in_0 d_Mo_alike_47 ?_
        refine mx_iaddN d_Mo_alike_48 ?_
        refine mx_is1 d_Mo_alike_49 ?_
        refine mx_iN3 d_Mo_alike_50 ?_
        refine mx_goto 23 d_Mo_alike_53 (by decide) ?_
        have e1 : nI (vs_alQ m G a j (vs_alk2 m G H a) + 0) = nI (vs_alQ m G a (j + 1) (vs_alk2 m G H a)) := by first | rfl | (show nI _ = nI (_ + vs_alk _ _ _ _); rw [k0]; rfl)
        refine mx_lsc (congrArg (fun z9 => ([some (.ref (mo)), some (.int (z9)), some (.int (nI (a))), some (.int (nI (a + 1 + j + 1)))] : List (Option Value))) e1) ?_
        have e3 : nI (a + 1 + j + 1) = nI (a + 1 + (j + 1)) := by first | rfl | (show nI _ = nI (_ + vs_alk _ _ _ _); rw [k0]; rfl)
        refine mx_lsc (congrArg (fun z9 => ([some (.ref (mo)), some (.int (nI (vs_alQ m G a (j + 1) (vs_alk2 m G H a)))), some (.int (nI (a))), some (.int (z9))] : List (Option Value))) e3) ?_
        exact ih
      · skip
        have k0 : vs_alk m G a (a + 1 + j) = 1 := by unfold vs_alk; rw [c_40]; rfl
        refine mx_in_1 d_Mo_alike_43 ?_
        refine mx_goto 48 d_Mo_alike_44 (by decide) ?_
        refine mx_iaddN d_Mo_alike_48 ?_
        refine mx_is1 d_Mo_alike_49 ?_
        refine mx_iN3 d_Mo_alike_50 ?_
        refine mx_goto 23 d_Mo_alike_53 (by decide) ?_
        have e1 : nI (vs_alQ m G a j (vs_alk2 m G H a) + 1) = nI (vs_alQ m G a (j + 1) (vs_alk2 m G H a)) := by first | rfl | (show nI _ = nI (_ + vs_alk _ _ _ _); rw [k0]; rfl)
        refine mx_lsc (congrArg (fun z9 => ([some (.ref (mo)), some (.int (z9)), some (.int (nI (a))), some (.int (nI (a + 1 + j + 1)))] : List (Option Value))) e1) ?_
        have e3 : nI (a + 1 + j + 1) = nI (a + 1 + (j + 1)) := by first | rfl | (show nI _ = nI (_ + vs_alk _ _ _ _); rw [k0]; rfl)
        refine mx_lsc (congrArg (fun z9 => ([some (.ref (mo)), some (.int (nI (vs_alQ m G a (j + 1) (vs_alk2 m G H a)))), some (.int (nI (a))), some (.int (z9))] : List (Option Value))) e3) ?_
        exact ih
    · try dsimp only
      refine mx_il3 d_Mo_alike_23 ?_
      refine mx_al0 d_Mo_alike_24 ?_
      refine mx_getR d_Mo_alike_25 fl_Mo_7 (by assumption) (by assumption) ?_
      refine mx_in_3 d_Mo_alike_28 ?_
      refine mx_iald d_Mo_alike_29 (by assumption) (nI_inb (by omega) (by omega)) ?_
      refine mx_ti (y := (mx_up I (mo) 0 (nI (0))) (mo + 1) (3)) (by rw [nI_clamp (by omega)]) ?_
      refine mx_ti (y := nI (H)) ((congrFun (vs_hm hm) 3).trans hH) ?_
      refine mx_icN_ge 56 d_Mo_alike_30 (by decide) (by omega) (by omega) (fun c_30 => ?_) (fun c_30 => absurd c_30 (by omega))
      refine mx_iN2 d_Mo_alike_56 ?_
      refine mx_goto 9 d_Mo_alike_59 (by decide) ?_
      refine mx_dn3 ?_
      have e1 : nI (vs_alQ m G a (H - (a + 1)) (vs_alk2 m G H a)) = nI (vs_alk2 m G H (a + 1)) := by rfl
      refine mx_lsc (congrArg (fun z9 => ([some (.ref (mo)), some (.int (z9)), some (.int (nI (a + 1))), none] : List (Option Value))) e1) ?_
      exact ih
  · try dsimp only
    refine mx_il2 d_Mo_alike_9 ?_
    refine mx_al0 d_Mo_alike_10 ?_
    refine mx_getR d_Mo_alike_11 fl_Mo_7 (by assumption) (by assumption) ?_
    refine mx_in_3 d_Mo_alike_14 ?_
    refine mx_iald d_Mo_alike_15 (by assumption) (nI_inb (by omega) (by omega)) ?_
    refine mx_ti (y := (mx_up I (mo) 0 (nI (0))) (mo + 1) (3)) (by rw [nI_clamp (by omega)]) ?_
    refine mx_ti (y := nI (H)) ((congrFun (vs_hm hm) 3).trans hH) ?_
    refine mx_icN_ge 62 d_Mo_alike_16 (by decide) (by omega) (by omega) (fun c_16 => ?_) (fun c_16 => absurd c_16 (by omega))
    refine mx_il1 d_Mo_alike_62 ?_
    exact mx_iret d_Mo_alike_63 rfl (mx_ri_of2 rfl rfl)
def vs_bkQ (m : Nat → Int32) (h n : Nat) (s : Nat) : Nat := vf n (fun q c => if m (195 + 8 * h + q) = -1 then c else c + 1) s
def vs_bkH (m : Nat → Int32) (n : Nat) : Nat := vf n (fun h s => vs_bkQ m h 8 s) 0
/-- nobody is booked with a host that is not there -/
def bk_ok (m : Nat → Int32) (H : Nat) : Prop := ∀ h q, H ≤ h → h < 8 → q < 8 → m (195 + 8 * h + q) = -1
theorem vs_bkQ0 {h n s : Nat} (hb : ∀ q, q < n → m (195 + 8 * h + q) = -1) : vs_bkQ m h n s = s := by
  induction n with
  | zero => rfl
  | succ n ih => unfold vs_bkQ; rw [vf_s, if_pos (hb n (by omega))]; exact ih (fun q hq => hb q (by omega))
theorem vs_bkH0 {H n : Nat} (hb : bk_ok m H) (hH : H ≤ n) (hn : n ≤ 8) : vs_bkH m n = vs_bkH m H := by
  induction n with
  | zero => have : H = 0 := by omega
            rw [this]
  | succ n ih =>
    by_cases e : H = n + 1
    · rw [e]
    · show vs_bkQ m n 8 (vs_bkH m n) = _
      rw [vs_bkQ0 (fun q hq => hb n q (by omega) (by omega) hq), ih (by omega) (by omega)]
theorem vs_bkq (h q : Nat) : vs_bookK m (8 * h + q) = vs_bkQ m h q (vs_bookK m (8 * h)) := by
  induction q with
  | zero => rfl
  | succ q ih =>
    show (if m (195 + (8 * h + q)) = -1 then vs_bookK m (8 * h + q) else vs_bookK m (8 * h + q) + 1) = (if m (195 + 8 * h + q) = -1 then vs_bkQ m h q (vs_bookK m (8 * h)) else vs_bkQ m h q (vs_bookK m (8 * h)) + 1)
    rw [ih, Nat.add_assoc 195]
theorem vs_bk8 (n : Nat) : vs_bookK m (8 * n) = vs_bkH m n := by
  induction n with
  | zero => rfl
  | succ n ih =>
    rw [Nat.mul_succ, vs_bkq, ih]; rfl
theorem vs_bk64 : vs_bookK m 64 = vs_bkH m 8 := vs_bk8 8
theorem vs_bk_eq {H : Nat} (hb : bk_ok m H) (hH8 : H ≤ 8) : vs_bookK m 64 = vs_bkH m H := by rw [vs_bk64, vs_bkH0 hb hH8 (by omega)]
theorem vs_ic (b : Prop) [Decidable b] (c : Nat) : (if b then c else c + 1) = c + (if b then 0 else 1) := by split <;> rfl
theorem c_Mo_bookings (hM : mo_ok S P mo) (hm : I (mo + 1) = m) (hH : m 3 = nI H) (hH8 : H ≤ 8)  : mx_C l E M_Mo_bookings 2 0 0 [.ref (mo)] (t, S, I, P, J) (mx_ri (nI (vs_bkH m H)) (t, S, I, P, J)) := by
  obtain ⟨hM0, hMp1, hMp2, hMp4, hMp5, hMp7, hMp14, hMp21, hMp22, hMp23, hMp24, hMp25, hMp26, hMp27, hMs1, hMs2, hMs3, hMs4, hMs5, hMs6, hMs7, hMs8, hMs9, hMs10, hMs11, hMs12, hMs13⟩ := id hM
  refine mx_C_of (ls0 := [some (.ref (mo)), none, none, none]) (by decide +kernel) rfl rfl (Nat.le_of_ble_eq_true rfl) rfl ?_
  refine mx_in_0 d_Mo_bookings_0 ?_
  refine mx_is1 d_Mo_bookings_1 ?_
  refine mx_in_0 d_Mo_bookings_2 ?_
  refine mx_is2 d_Mo_bookings_3 ?_
  refine mx_loop (N := H) (ls := fun h => [some (.ref (mo)), some (.int (nI (vs_bkH m h))), some (.int (nI (h))), none]) (X := fun h => (t, S, I, P, J)) (fun h hh ih => ?_) ?_
  · try dsimp only
    refine mx_il2 d_Mo_bookings_4 ?_
    refine mx_al0 d_Mo_bookings_5 ?_
    refine mx_getR d_Mo_bookings_6 fl_Mo_7 (by assumption) (by assumption) ?_
    refine mx_in_3 d_Mo_bookings_9 ?_
    refine mx_iald d_Mo_bookings_10 (by assumption) (nI_inb (by omega) (by omega)) ?_
    refine mx_ti (y := I (mo + 1) (3)) (by rw [nI_clamp (by omega)]) ?_
    refine mx_ti (y := nI (H)) ((congrFun hm 3).trans hH) ?_
    refine mx_icN_ge 52 d_Mo_bookings_11 (by decide) (by omega) (by omega) (fun c_11 => absurd c_11 (by omega)) (fun c_11 => ?_)
    refine mx_in_0 d_Mo_bookings_14 ?_
    refine mx_is3 d_Mo_bookings_15 ?_
    have ih4 := ih
    refine mx_loop (N := 8) (ls := fun q => [some (.ref (mo)), some (.int (nI (vs_bkQ m h q (vs_bkH m h)))), some (.int (nI (h))), some (.int (nI (q)))]) (X := fun q => (t, S, I, P, J)) (fun q hq ih => ?_) ?_
    · try dsimp only
      refine mx_il3 d_Mo_bookings_16 ?_
      refine mx_bip 8 d_Mo_bookings_17 (by decide) ?_
      refine mx_icN_ge 46 d_Mo_bookings_19 (by decide) (by omega) (by omega) (fun c_19 => absurd c_19 (by omega)) (fun c_19 => ?_)
      refine mx_il1 d_Mo_bookings_22 ?_
      refine mx_al0 d_Mo_bookings_23 ?_
      refine mx_il2 d_Mo_bookings_24 ?_
      refine mx_il3 d_Mo_bookings_25 ?_
      refine mx_cV2i d_Mo_bookings_26 (cm_bookedIn hM hm (h := h) (q := q) (by omega) (by omega)) ok_Mo_bookedIn ml_Mo_271 (by assumption) ⟨rfl, rfl⟩ (by decide) (Nat.le_of_ble_eq_true rfl) ?_
      refine mx_ic_m1 d_Mo_bookings_29 ?_
      refine mx_icmp_ne 37 d_Mo_bookings_30 (by decide) (fun c_30 => ?_) (fun c_30 => ?_)
      · skip
        refine mx_in_1 d_Mo_bookings_37 ?_
        refine mx_iaddN d_Mo_bookings_38 ?_
        refine mx_is1 d_Mo_bookings_39 ?_
        refine mx_iN3 d_Mo_bookings_40 ?_
        refine mx_goto 16 d_Mo_bookings_43 (by decide) ?_
        have e1 : nI (vs_bkQ m h q (vs_bkH m h) + 1) = nI (vs_bkQ m h (q + 1) (vs_bkH m h)) := by (show nI _ = nI (if m (195 + 8 * h + q) = -1 then vs_bkQ m h q (vs_bkH m h) else vs_bkQ m h q (vs_bkH m h) + 1); first | (rw [if_pos c_30]; rfl) | (rw [if_neg c_30]; done) | (rw [if_neg c_30]; rfl))
        refine mx_lsc (congrArg (fun z9 => ([some (.ref (mo)), some (.int (z9)), some (.int (nI (h))), some (.int (nI (q + 1)))] : List (Option Value))) e1) ?_
        exact ih
      · skip
        refine mx_in_0 d_Mo_bookings_33 ?_
        refine mx_goto 38 d_Mo_bookings_34 (by decide) ?_
        refine mx_iaddN d_Mo_bookings_38 ?_
        refine mx_is1 d_Mo_bookings_39 ?_
        refine mx_iN3 d_Mo_bookings_40 ?_
        refine mx_goto 16 d_Mo_bookings_43 (by decide) ?_
        have e1 : nI (vs_bkQ m h q (vs_bkH m h) + 0) = nI (vs_bkQ m h (q + 1) (vs_bkH m h)) := by (show nI _ = nI (if m (195 + 8 * h + q) = -1 then vs_bkQ m h q (vs_bkH m h) else vs_bkQ m h q (vs_bkH m h) + 1); first | (rw [if_pos c_30]; rfl) | (rw [if_neg c_30]; done) | (rw [if_neg c_30]; rfl))
        refine mx_lsc (congrArg (fun z9 => ([some (.ref (mo)), some (.int (z9)), some (.int (nI (h))), some (.int (nI (q + 1)))] : List (Option Value))) e1) ?_
        exact ih
    · try dsimp only
      refine mx_il3 d_Mo_bookings_16 ?_
      refine mx_bip 8 d_Mo_bookings_17 (by decide) ?_
      refine mx_icN_ge 46 d_Mo_bookings_19 (by decide) (by omega) (by omega) (fun c_19 => ?_) (fun c_19 => absurd c_19 (by omega))
      refine mx_iN2 d_Mo_bookings_46 ?_
      refine mx_goto 4 d_Mo_bookings_49 (by decide) ?_
      refine mx_dn3 ?_
      have e1 : nI (vs_bkQ m h 8 (vs_bkH m h)) = nI (vs_bkH m (h + 1)) := by rfl
      refine mx_lsc (congrArg (fun z9 => ([some (.ref (mo)), some (.int (z9)), some (.int (nI (h + 1))), none] : List (Option Value))) e1) ?_
      exact ih
  · try dsimp only
    refine mx_il2 d_Mo_bookings_4 ?_
    refine mx_al0 d_Mo_bookings_5 ?_
    refine mx_getR d_Mo_bookings_6 fl_Mo_7 (by assumption) (by assumption) ?_
    refine mx_in_3 d_Mo_bookings_9 ?_
    refine mx_iald d_Mo_bookings_10 (by assumption) (nI_inb (by omega) (by omega)) ?_
    refine mx_ti (y := I (mo + 1) (3)) (by rw [nI_clamp (by omega)]) ?_
    refine mx_ti (y := nI (H)) ((congrFun hm 3).trans hH) ?_
    refine mx_icN_ge 52 d_Mo_bookings_11 (by decide) (by omega) (by omega) (fun c_11 => ?_) (fun c_11 => absurd c_11 (by omega))
    refine mx_il1 d_Mo_bookings_52 ?_
    exact mx_iret d_Mo_bookings_53 rfl (mx_ri_of rfl)
/-- the log at lo: a ring of sixty rows, the row m tells them from the latest on -/
def lo_rel (I : mx_I) (lo : Nat) (m : Nat → Int32) (N z : Nat) : Prop := I lo 0 = nI N ∧ m 9 = nI N ∧ N ≤ 60 ∧ I lo 1 = nI z ∧ z < 60 ∧ ∀ j k, j < N → k < 6 → I (lo + 1) (6 * ((z + 60 - j) % 60) + k) = m (259 + 6 * j + k)
theorem vs_zsub {z j : Nat} (h1 : z < j) (h2 : j < 60) : nI z - nI j + nI 60 = nI (z + 60 - j) := by
  have e : nI (z + 60 - j) = nI (z + 60 - j) + nI j - nI j := by rw [Int32.add_sub_cancel]
  rw [e, nI_add, show z + 60 - j + j = z + 60 by omega, ← nI_add, Int32.sub_eq_add_neg, Int32.sub_eq_add_neg, Int32.add_assoc, Int32.add_assoc, Int32.add_comm (-nI j)]
theorem c_Lo_number {lo N z : Nat} (hLo : lo_ok S P lo) (hLr : lo_rel I lo m N z) {j k : Nat} (hj : j < N) (hk : k < 6) : mx_C l E M_Lo_number 1 0 0 [.ref (lo), .int (nI (j)), .int (nI (k))] (t, S, I, P, J) (mx_ri (m (259 + 6 * j + k)) (t, S, I, P, J)) := by
  obtain ⟨hL0, hLp, hLs⟩ := id hLo
  obtain ⟨g0, g1, g2, g3, g4, g5⟩ := id hLr
  refine mx_C_of (ls0 := [some (.ref (lo)), some (.int (nI (j))), some (.int (nI (k))), none]) (by decide +kernel) rfl rfl (Nat.le_of_ble_eq_true rfl) rfl ?_
  refine mx_al0 d_Lo_number_0 ?_
  refine mx_getI d_Lo_number_1 fl_Lo_15 (by assumption) ?_
  refine mx_ti (y := nI (z)) (g3) ?_
  refine mx_il1 d_Lo_number_4 ?_
  refine mx_icN_lt 17 d_Lo_number_5 (by decide) (by omega) (by omega) (fun c_5 => ?_) (fun c_5 => ?_)
  · skip
    refine mx_al0 d_Lo_number_17 ?_
    refine mx_getI d_Lo_number_18 fl_Lo_15 (by assumption) ?_
    refine mx_ti (y := nI (z)) (g3) ?_
    refine mx_il1 d_Lo_number_21 ?_
    refine mx_isub d_Lo_number_22 ?_
    refine mx_bip 60 d_Lo_number_23 (by decide) ?_
    refine mx_iadd d_Lo_number_25 ?_
    refine mx_ti (y := nI (z + 60 - j)) (vs_zsub (by omega) (by omega)) ?_
    refine mx_is3 d_Lo_number_26 ?_
    refine mx_al0 d_Lo_number_27 ?_
    refine mx_getR d_Lo_number_28 fl_Lo_18 (by assumption) (by assumption) ?_
    refine mx_bip 6 d_Lo_number_31 (by decide) ?_
    refine mx_il3 d_Lo_number_33 ?_
    refine mx_imulN d_Lo_number_34 ?_
    refine mx_il2 d_Lo_number_35 ?_
    refine mx_iaddN d_Lo_number_36 ?_
    refine mx_cSN2i d_Lo_number_37 (c_get (k := 6 * (z + 60 - j) + k) (by assumption) (by omega) (by omega)) ok_Vh_get ml_Lo_30 (by decide) (Nat.le_of_ble_eq_true rfl) ?_
    exact mx_iret d_Lo_number_40 rfl (mx_ri_of (by rw [← g5 j k hj hk]; first | (rw [show (z + 60 - j) % 60 = z - j by omega]; done) | (rw [show (z + 60 - j) % 60 = z + 60 - j by omega])))
  · skip
    refine mx_al0 d_Lo_number_8 ?_
    refine mx_getI d_Lo_number_9 fl_Lo_15 (by assumption) ?_
    refine mx_ti (y := nI (z)) (g3) ?_
    refine mx_il1 d_Lo_number_12 ?_
    refine mx_isub d_Lo_number_13 ?_
    refine mx_ti (y := nI (z - j)) (nI_sub (by omega)) ?_
    refine mx_goto 26 d_Lo_number_14 (by decide) ?_
    refine mx_ti (y := nI (z - j)) (rfl) ?_
    refine mx_is3 d_Lo_number_26 ?_
    refine mx_al0 d_Lo_number_27 ?_
    refine mx_getR d_Lo_number_28 fl_Lo_18 (by assumption) (by assumption) ?_
    refine mx_bip 6 d_Lo_number_31 (by decide) ?_
    refine mx_il3 d_Lo_number_33 ?_
    refine mx_imulN d_Lo_number_34 ?_
    refine mx_il2 d_Lo_number_35 ?_
    refine mx_iaddN d_Lo_number_36 ?_
    refine mx_cSN2i d_Lo_number_37 (c_get (k := 6 * (z - j) + k) (by assumption) (by omega) (by omega)) ok_Vh_get ml_Lo_30 (by decide) (Nat.le_of_ble_eq_true rfl) ?_
    exact mx_iret d_Lo_number_40 rfl (mx_ri_of (by rw [← g5 j k hj hk]; first | (rw [show (z + 60 - j) % 60 = z - j by omega]; done) | (rw [show (z + 60 - j) % 60 = z + 60 - j by omega])))
def vs_isH (m : Nat → Int32) (v : Int32) (j : Nat) : Bool := decide (m (259 + 6 * j + 1) = v)
def vs_rows (m : Nat → Int32) (v : Int32) (n : Nat) : Nat := vf n (fun j s => if m (259 + 6 * j + 1) = v then s + 1 else s) 0
/-- the week of the latest row of v -/
def vs_last (m : Nat → Int32) (v : Int32) : Nat → Int32
  | 0 => -1
  | n + 1 => if vs_any (vs_isH m v) n then vs_last m v n else if m (259 + 6 * n + 1) = v then m (259 + 6 * n + 0) else -1
theorem vs_last_t {v : Int32} {j n : Nat} (hn : ∀ i, i < j → vs_isH m v i = false) (hj : m (259 + 6 * j + 1) = v) (hl : j < n) : vs_last m v n = m (259 + 6 * j + 0) := by
  induction n with
  | zero => omega
  | succ n ih =>
    by_cases e : j = n
    · subst e
      rw [vs_last, vs_any_f hn, if_neg (by decide), if_pos hj]
    · rw [vs_last, vs_any_t (g := j) (by omega) (by simp [vs_isH, hj]), if_pos rfl, ih (by omega)]
theorem vs_last_f {v : Int32} {n : Nat} (hn : ∀ i, i < n → vs_isH m v i = false) : vs_last m v n = -1 := by
  induction n with
  | zero => rfl
  | succ n ih =>
    have h1 := hn n (by omega)
    simp only [vs_isH, decide_eq_false_iff_not] at h1
    rw [vs_last, vs_any_f (fun i hi => hn i (by omega)), if_neg (by decide), if_neg h1]
theorem c_Lo_rowsOf {lo N z : Nat} (hLo : lo_ok S P lo) (hLr : lo_rel I lo m N z) {v : Int32} : mx_C l E M_Lo_rowsOf 2 0 0 [.ref (lo), .int (v)] (t, S, I, P, J) (mx_ri (nI (vs_rows m v N)) (t, S, I, P, J)) := by
  obtain ⟨hL0, hLp, hLs⟩ := id hLo
  obtain ⟨g0, g1, g2, g3, g4, g5⟩ := id hLr
  refine mx_C_of (ls0 := [some (.ref (lo)), some (.int (v)), none, none]) (by decide +kernel) rfl rfl (Nat.le_of_ble_eq_true rfl) rfl ?_
  refine mx_in_0 d_Lo_rowsOf_0 ?_
  refine mx_is2 d_Lo_rowsOf_1 ?_
  refine mx_in_0 d_Lo_rowsOf_2 ?_
  refine mx_is3 d_Lo_rowsOf_3 ?_
  refine mx_loop (N := N) (ls := fun j => [some (.ref (lo)), some (.int (v)), some (.int (nI (vs_rows m v j))), some (.int (nI (j)))]) (X := fun j => (t, S, I, P, J)) (fun j hj ih => ?_) ?_
  · try dsimp only
    refine mx_il3 d_Lo_rowsOf_4 ?_
    refine mx_al0 d_Lo_rowsOf_5 ?_
    refine mx_getI d_Lo_rowsOf_6 fl_Lo_9 (by assumption) ?_
    refine mx_ti (y := nI (N)) (g0) ?_
    refine mx_icN_ge 31 d_Lo_rowsOf_9 (by decide) (by omega) (by omega) (fun c_9 => absurd c_9 (by omega)) (fun c_9 => ?_)
    refine mx_al0 d_Lo_rowsOf_12 ?_
    refine mx_il3 d_Lo_rowsOf_13 ?_
    refine mx_in_1 d_Lo_rowsOf_14 ?_
    refine mx_cV2i d_Lo_rowsOf_15 (c_Lo_number hLo hLr (j := j) (k := 1) (by omega) (by omega)) ok_Lo_number ml_Lo_34 (by assumption) ⟨rfl, rfl⟩ (by decide) (Nat.le_of_ble_eq_true rfl) ?_
    refine mx_il1 d_Lo_rowsOf_18 ?_
    refine mx_icmp_ne 25 d_Lo_rowsOf_19 (by decide) (fun c_19 => ?_) (fun c_19 => ?_)
    · skip
      refine mx_iN3 d_Lo_rowsOf_25 ?_
      refine mx_goto 4 d_Lo_rowsOf_28 (by decide) ?_
      have e2 : nI (vs_rows m v j) = nI (vs_rows m v (j + 1)) := by (show nI _ = nI (if m (259 + 6 * j + 1) = v then vs_rows m v j + 1 else vs_rows m v j); first | (rw [if_pos c_19]; done) | (rw [if_neg c_19]; done) | (rw [if_pos c_19]; rfl) | (rw [if_neg c_19]; rfl))
      refine mx_lsc (congrArg (fun z9 => ([some (.ref (lo)), some (.int (v)), some (.int (z9)), some (.int (nI (j + 1)))] : List (Option Value))) e2) ?_
      exact ih
    · skip
      refine mx_iN2 d_Lo_rowsOf_22 ?_
      refine mx_iN3 d_Lo_rowsOf_25 ?_
      refine mx_goto 4 d_Lo_rowsOf_28 (by decide) ?_
      have e2 : nI (vs_rows m v j + 1) = nI (vs_rows m v (j + 1)) := by (show nI _ = nI (if m (259 + 6 * j + 1) = v then vs_rows m v j + 1 else vs_rows m v j); first | (rw [if_pos c_19]; done) | (rw [if_neg c_19]; done) | (rw [if_pos c_19]; rfl) | (rw [if_neg c_19]; rfl))
      refine mx_lsc (congrArg (fun z9 => ([some (.ref (lo)), some (.int (v)), some (.int (z9)), some (.int (nI (j + 1)))] : List (Option Value))) e2) ?_
      exact ih
  · try dsimp only
    refine mx_il3 d_Lo_rowsOf_4 ?_
    refine mx_al0 d_Lo_rowsOf_5 ?_
    refine mx_getI d_Lo_rowsOf_6 fl_Lo_9 (by assumption) ?_
    refine mx_ti (y := nI (N)) (g0) ?_
    refine mx_icN_ge 31 d_Lo_rowsOf_9 (by decide) (by omega) (by omega) (fun c_9 => ?_) (fun c_9 => absurd c_9 (by omega))
    refine mx_il2 d_Lo_rowsOf_31 ?_
    exact mx_iret d_Lo_rowsOf_32 rfl (mx_ri_of rfl)
theorem c_Lo_latest {lo N z : Nat} (hLo : lo_ok S P lo) (hLr : lo_rel I lo m N z) {v : Int32} : mx_C l E M_Lo_latestWeekOf 2 0 0 [.ref (lo), .int (v)] (t, S, I, P, J) (mx_ri (vs_last m v N) (t, S, I, P, J)) := by
  obtain ⟨hL0, hLp, hLs⟩ := id hLo
  obtain ⟨g0, g1, g2, g3, g4, g5⟩ := id hLr
  refine mx_C_of (ls0 := [some (.ref (lo)), some (.int (v)), none]) (by decide +kernel) rfl rfl (Nat.le_of_ble_eq_true rfl) rfl ?_
  refine mx_in_0 d_Lo_latestWeekOf_0 ?_
  refine mx_is2 d_Lo_latestWeekOf_1 ?_
  refine mx_loopI (N := N) (fun j => ∀ i, i < j → vs_isH m v i = false) (ls := fun j => [some (.ref (lo)), some (.int (v)), some (.int (nI (j)))]) (X := fun j => (t, S, I, P, J)) (by intro j hj; omega) (fun j hj hinv ih => ?_) (fun hinv => ?_)
  · try dsimp only at hinv ih ⊢
    refine mx_il2 d_Lo_latestWeekOf_2 ?_
    refine mx_al0 d_Lo_latestWeekOf_3 ?_
    refine mx_getI d_Lo_latestWeekOf_4 fl_Lo_9 (by assumption) ?_
    refine mx_ti (y := nI (N)) (g0) ?_
    refine mx_icN_ge 33 d_Lo_latestWeekOf_7 (by decide) (by omega) (by omega) (fun c_7 => absurd c_7 (by omega)) (fun c_7 => ?_)
    refine mx_al0 d_Lo_latestWeekOf_10 ?_
    refine mx_il2 d_Lo_latestWeekOf_11 ?_
    refine mx_in_1 d_Lo_latestWeekOf_12 ?_
    refine mx_cV2i d_Lo_latestWeekOf_13 (c_Lo_number hLo hLr (j := j) (k := 1) (by omega) (by omega)) ok_Lo_number ml_Lo_34 (by assumption) ⟨rfl, rfl⟩ (by decide) (Nat.le_of_ble_eq_true rfl) ?_
    refine mx_il1 d_Lo_latestWeekOf_16 ?_
    refine mx_icmp_ne 27 d_Lo_latestWeekOf_17 (by decide) (fun c_17 => ?_) (fun c_17 => ?_)
    · skip
      refine mx_iN2 d_Lo_latestWeekOf_27 ?_
      refine mx_goto 2 d_Lo_latestWeekOf_30 (by decide) ?_
      exact ih (vs_next hinv (by simp [vs_isH, *]))
    · skip
      refine mx_al0 d_Lo_latestWeekOf_20 ?_
      refine mx_il2 d_Lo_latestWeekOf_21 ?_
      refine mx_in_0 d_Lo_latestWeekOf_22 ?_
      refine mx_cV2i d_Lo_latestWeekOf_23 (c_Lo_number hLo hLr (j := j) (k := 0) (by omega) (by omega)) ok_Lo_number ml_Lo_34 (by assumption) ⟨rfl, rfl⟩ (by decide) (Nat.le_of_ble_eq_true rfl) ?_
      exact mx_iret d_Lo_latestWeekOf_26 rfl (mx_ri_of (vs_last_t hinv (by assumption) (by assumption)).symm)
  · try dsimp only at hinv ⊢
    refine mx_il2 d_Lo_latestWeekOf_2 ?_
    refine mx_al0 d_Lo_latestWeekOf_3 ?_
    refine mx_getI d_Lo_latestWeekOf_4 fl_Lo_9 (by assumption) ?_
    refine mx_ti (y := nI (N)) (g0) ?_
    refine mx_icN_ge 33 d_Lo_latestWeekOf_7 (by decide) (by omega) (by omega) (fun c_7 => ?_) (fun c_7 => absurd c_7 (by omega))
    refine mx_ic_m1 d_Lo_latestWeekOf_33 ?_
    exact mx_iret d_Lo_latestWeekOf_34 rfl (mx_ri_of (vs_last_f hinv).symm)
theorem c_Lo_hasRow {lo N z : Nat} (hLo : lo_ok S P lo) (hLr : lo_rel I lo m N z) {v : Int32} : mx_C l E M_Lo_hasRow 0 0 0 [.ref (lo), .int (v)] (t, S, I, P, J) (mx_ri (bI (vs_isN v N)) (t, S, I, P, J)) := by
  obtain ⟨hL0, hLp, hLs⟩ := id hLo
  obtain ⟨g0, g1, g2, g3, g4, g5⟩ := id hLr
  refine mx_C_of (ls0 := [some (.ref (lo)), some (.int (v))]) (by decide +kernel) rfl rfl (Nat.le_of_ble_eq_true rfl) rfl ?_
  refine mx_il1 d_Lo_hasRow_0 ?_
  refine mx_if_lt 16 d_Lo_hasRow_1 (by decide) (fun c_1 => ?_) (fun c_1 => ?_)
  · skip
    refine mx_in_0 d_Lo_hasRow_16 ?_
    exact mx_zret d_Lo_hasRow_17 rfl (by first | exact Or.inl rfl | exact Or.inr rfl) (mx_ri_of (by first | (rw [vs_isN_ge0 c_1]; rfl) | (rw [vs_isN_geN (Int32.not_lt.mp c_9)]; rfl) | (rw [vs_isN_geN c_9]; rfl) | (rw [vs_isN_in (Int32.not_lt.mp c_1) c_9]; rfl) | (rw [vs_isN_in (Int32.not_lt.mp c_1) (Int32.not_le.mp c_9)]; rfl)))
  · skip
    refine mx_il1 d_Lo_hasRow_4 ?_
    refine mx_al0 d_Lo_hasRow_5 ?_
    refine mx_getI d_Lo_hasRow_6 fl_Lo_9 (by assumption) ?_
    refine mx_ti (y := nI (N)) (g0) ?_
    refine mx_icmp_ge 16 d_Lo_hasRow_9 (by decide) (fun c_9 => ?_) (fun c_9 => ?_)
    · skip
      refine mx_in_0 d_Lo_hasRow_16 ?_
      exact mx_zret d_Lo_hasRow_17 rfl (by first | exact Or.inl rfl | exact Or.inr rfl) (mx_ri_of (by first | (rw [vs_isN_ge0 c_1]; rfl) | (rw [vs_isN_geN (Int32.not_lt.mp c_9)]; rfl) | (rw [vs_isN_geN c_9]; rfl) | (rw [vs_isN_in (Int32.not_lt.mp c_1) c_9]; rfl) | (rw [vs_isN_in (Int32.not_lt.mp c_1) (Int32.not_le.mp c_9)]; rfl)))
    · skip
      refine mx_in_1 d_Lo_hasRow_12 ?_
      refine mx_goto 17 d_Lo_hasRow_13 (by decide) ?_
      exact mx_zret d_Lo_hasRow_17 rfl (by first | exact Or.inl rfl | exact Or.inr rfl) (mx_ri_of (by first | (rw [vs_isN_ge0 c_1]; rfl) | (rw [vs_isN_geN (Int32.not_lt.mp c_9)]; rfl) | (rw [vs_isN_geN c_9]; rfl) | (rw [vs_isN_in (Int32.not_lt.mp c_1) c_9]; rfl) | (rw [vs_isN_in (Int32.not_lt.mp c_1) (Int32.not_le.mp c_9)]; rfl)))
end I17
