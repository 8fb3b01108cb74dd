/-! WEEKS AHEAD -/
theorem w_cl_1 {z z' : (Nat → Int32) × Int32} {h : Nat} {b : Bool} (e : z.1 = z'.1) : (w_cl z h b).1 = (w_cl z' h b).1 := by
  unfold w_cl
  rw [e]
  split <;> rfl
theorem w_en_1 {m : Nat → Int32} {v v' s : Int32} {n : Nat} : (w_en (m, v) s n).1 = (w_en (m, v') s n).1 := by
  induction n with
  | zero => rfl
  | succ n ih => rw [w_en_s, w_en_s]; exact w_cl_1 ih
theorem w_en_2 {m : Nat → Int32} {v s : Int32} {n : Nat} : (w_en (m, v) s n).2 = v ||| (w_en (m, nI 0) s n).2 := by
  induction n with
  | zero => exact (Int32.or_zero (a := v)).symm
  | succ n ih =>
    rw [w_en_s, w_en_s]
    unfold w_cl
    rw [w_en_1 (v := v) (v' := nI 0)]
    split
    · rw [ih, Int32.or_assoc]
    · exact ih
theorem w_wk_1 {D : lwD} {m : Nat → Int32} {v v' : Int32} {b : Bool} {H : Nat} : (w_wk D b H (m, v)).1 = (w_wk D b H (m, v')).1 := congrArg w_we w_en_1
theorem w_wk_2 {D : lwD} {m : Nat → Int32} {v : Int32} {b : Bool} {H : Nat} : (w_wk D b H (m, v)).2 = v ||| (w_wk D b H (m, nI 0)).2 := w_en_2
theorem w_ws_1 {D : lwD} {z z' : w_Y} {b : Bool} {H n : Nat} (e : z.1 = z'.1) : (w_ws D b H n z).1 = (w_ws D b H n z').1 := by
  induction n with
  | zero => exact e
  | succ n ih => rw [w_ws_s, w_ws_s]; dsimp only; rw [ih]; exact w_wk_1
/-- the host h settles in the week k + 1 of the weeks ahead -/
def w_sb (D : lwD) (m : Nat → Int32) (H h k : Nat) : Bool := bt (w_wk D false H ((w_ws D false H k (m, nI 0, 0)).1, nI 0)).2 h
theorem w_ws_b {D : lwD} {m : Nat → Int32} {H h k : Nat} (hh : h < 32) (e : ∀ j, j < k → w_sb D m H h j = false) : bt (w_ws D false H k (m, nI 0, 0)).2.1 h = false := by
  induction k with
  | zero => exact (by decide +kernel : ∀ h, h < 32 → bt (nI 0) h = false) h hh
  | succ k ih =>
    rw [w_ws_s]
    dsimp only
    rw [w_wk_2, b_or, ih (fun j hj => e j (by omega))]
    exact e k (by omega)
def st_fn (D : lwD) (m : Nat → Int32) (H h n : Nat) : Int32 := vf n (fun k s => if s = -1 then (if w_sb D m H h k = true then nI (k + 1) else -1) else s) (-1)
theorem st_fn_s (D : lwD) (m : Nat → Int32) (H h n : Nat) : st_fn D m H h (n + 1) = if st_fn D m H h n = -1 then (if w_sb D m H h n = true then nI (n + 1) else -1) else st_fn D m H h n := rfl
theorem st_fn_n {D : lwD} {m : Nat → Int32} {H h n : Nat} (e : ∀ j, j < n → w_sb D m H h j = false) : st_fn D m H h n = -1 := by
  induction n with
  | zero => rfl
  | succ n ih => rw [st_fn_s, if_pos (ih (fun j hj => e j (by omega))), if_neg (by rw [e n (by omega)]; decide)]
theorem st_m1 {k : Nat} (hk : k < 60) : ¬ nI (k + 1) = -1 := (by decide +kernel : ∀ k, k < 60 → ¬ nI (k + 1) = -1) k hk
theorem st_fn_y {D : lwD} {m : Nat → Int32} {H h k n : Nat} (hk : k < n) (hn : n ≤ 60) (e : ∀ j, j < k → w_sb D m H h j = false) (e2 : w_sb D m H h k = true) : st_fn D m H h n = nI (k + 1) := by
  induction n with
  | zero => omega
  | succ n ih =>
    rw [st_fn_s]
    by_cases q : k = n
    · subst q; rw [if_pos (st_fn_n e), if_pos e2]
    · rw [ih (by omega) (by omega), if_neg (st_m1 (by omega))]
theorem updI_id (m : Nat → Int32) (k : Nat) : updI m k (m k) = m := by
  funext j; unfold updI
  by_cases h : j = k
  · rw [if_pos h, h]
  · rw [if_neg h]
/-- what is told of the weeks to come -/
def w_ah (D : lwD) (b : Bool) (H : Nat) (m : Nat → Int32) (v : Int32) : w_Y := w_ws D b H v.toNatClampNeg (m, nI 0, 0)
def sp_weeks (D : lwD) (m : Nat → Int32) (H : Nat) (v : Int32) : Nat × Int32 := if decide (nI 1 ≤ v) && decide (v ≤ nI 60) then (0, nI (w_ah D true H m v).2.2) else (1, nI 0)
def sp_settle (D : lwD) (m : Nat → Int32) (H : Nat) (v : Int32) : Nat × Int32 := if vs_isN v H then (0, st_fn D m H v.toNatClampNeg 60) else (1, nI 0)
def sp_gladder (D : lwD) (m : Nat → Int32) (H : Nat) (v : Int32) : Nat × Int32 := if vs_isN v 61 then (0, vs_gladK (w_ah D false H m v).1 H - vs_gladK m H) else (1, nI 0)
def sp_ahead (D : lwD) (m : Nat → Int32) (H : Nat) (v w u : Int32) : Nat × Int32 := if vs_isN v H then (if vs_isN w 61 then (if vs_isN u 2 then (0, (w_ah D false H m w).1 (11 + 4 * v.toNatClampNeg + (2 + u.toNatClampNeg))) else (3, nI 0)) else (2, nI 0)) else (1, nI 0)
def sp_trial (D : lwD) (m : Nat → Int32) (H : Nat) (v : Int32) (b : Bool) : Nat × Int32 := if vs_isN v 61 then (0, if b = true then (w_ah D true H m v).2.1 else vs_gladK (w_ah D true H m v).1 H) else (1, nI 0)
def sn_g (D : lwD) (m : Nat → Int32) (H n i : Nat) : Int32 := vs_gladK (w_ws D true H n (updI m 10 (nI (i + 1)), nI 0, 0)).1 H
def sn_fn (D : lwD) (m : Nat → Int32) (H n : Nat) (b : Bool) (k : Nat) : Int32 := vf k (fun i s => if s = -1 then sn_g D m H n i else if b = true then (if s ≤ sn_g D m H n i then sn_g D m H n i else s) else (if sn_g D m H n i ≤ s then sn_g D m H n i else s)) (-1)
theorem sn_fn_s (D : lwD) (m : Nat → Int32) (H n : Nat) (b : Bool) (k : Nat) : sn_fn D m H n b (k + 1) = if sn_fn D m H n b k = -1 then sn_g D m H n k else if b = true then (if sn_fn D m H n b k ≤ sn_g D m H n k then sn_g D m H n k else sn_fn D m H n b k) else (if sn_g D m H n k ≤ sn_fn D m H n b k then sn_g D m H n k else sn_fn D m H n b k) := rfl
def sp_span (D : lwD) (m : Nat → Int32) (H : Nat) (v : Int32) (b : Bool) : Nat × Int32 := if vs_isN v 61 then (0, sn_fn D m H v.toNatClampNeg b 6) else (1, nI 0)
/-- the state as it was when it throws, else what R tells -/
def mx_pkR (f : Nat → String) (v : Nat × Int32) (X1 : mx_H) (t : Nat) (S : mx_S) (P : mx_P) (J : mx_G) (R : mx_I → Prop) : mx_R → mx_H → Prop := fun r X => (v.1 = 0 ∧ r = .inl (some (.int v.2)) ∧ ∃ K, X = (t, S, K, P, J) ∧ R K) ∨ (v.1 ≠ 0 ∧ r = .inr (f v.1) ∧ ∃ t, X1.1 ≤ t ∧ X = (t, X1.2))
theorem mx_pkR_i {f : Nat → String} {v : Nat × Int32} {X1 : mx_H} {t : Nat} {S : mx_S} {P : mx_P} {J : mx_G} {R : mx_I → Prop} {K : mx_I} {w : Int32} (h : v = (0, w)) (hR : R K) : mx_pkR f v X1 t S P J R (.inl (some (.int w))) (t, S, K, P, J) := by subst h; exact Or.inl ⟨rfl, rfl, K, rfl, hR⟩
theorem mx_pkR_x {f : Nat → String} {v : Nat × Int32} {X : mx_H} {t t' : Nat} {S : mx_S} {P : mx_P} {J : mx_G} {R : mx_I → Prop} {C : String} (ht : X.1 ≤ t') (c : Nat) (h : v.1 = c + 1) (hC : f (c + 1) = C) : mx_pkR f v X t S P J R (.inr C) (t', X.2) := Or.inr ⟨by omega, by rw [h, hC], t', ht, rfl⟩
section AI43
variable {l : Launch} {E : mx_Env} {t : Nat} {S : mx_S} {I : mx_I} {P : mx_P} {J : mx_G} {m : Nat → Int32} {x mo H G n s la z A : Nat} {D : lwD}
theorem vh_ok.up {P : mx_P} {a la : Nat} (h : vh_ok S P x) (ha : a ≠ x) : vh_ok S (mx_upP P a 2 (some la)) x := by unfold vh_ok at h ⊢; rw [mx_upP_ne ha.symm]; exact h
theorem la_is.up {P : mx_P} {a lb : Nat} (h : la_is S P I la D) (ha : a ≠ la) : la_is S (mx_upP P a 2 (some lb)) I la D := ⟨by have h1 := h.1; unfold la_ok at h1 ⊢; rw [mx_upP_ne ha.symm]; exact h1, h.2⟩
theorem upP_2 {P : mx_P} {a lb : Nat} : mx_upP P a 2 (some lb) a 2 = some lb := by simp [mx_upP]
/-- the state tried, after it took from the state now -/
theorem tk_all (hV : vh_ok S P x) (hSt : st_ok S P (x + 23)) (hSr : st_rel I (x + 23) m) (hTr : st_ok S P (x + 38)) (hla : P (x + 23) 2 = some la) (hLw : la_is S P I la D) (hd : la + 6 ≤ x + 23 ∨ x + 292 ≤ la) (hlr : ∃ N z, lo_rel I (x + 23 + 9) m N z) : vh_ok S (mx_upP P (x + 38) 2 (some la)) x ∧ st_ok S (mx_upP P (x + 38) 2 (some la)) (x + 23) ∧ st_ok S (mx_upP P (x + 38) 2 (some la)) (x + 38) ∧ mx_upP P (x + 38) 2 (some la) (x + 23) 2 = some la ∧ mx_upP P (x + 38) 2 (some la) (x + 38) 2 = some la ∧ la_is S (mx_upP P (x + 38) 2 (some la)) I la D ∧ WS (vs_stT I (x + 38) (x + 23)) (x + 38) m ∧ mx_off (wz (x + 38) la) I (vs_stT I (x + 38) (x + 23)) := by
  refine ⟨hV.up (by omega), st_ok_law hSt (by omega), st_ok_law hTr (by omega), by rw [mx_upP_ne (by omega)]; exact hla, upP_2, hLw.up (by omega), ⟨vs_stT_rel (by omega) hSr, ?_⟩, fun c hc => vs_stT_o (by unfold wz at hc; omega)⟩
  obtain ⟨N, z, h⟩ := hlr
  exact ⟨N, z, vs_stT_log (by omega) h⟩
theorem wz_o {I K : mx_I} (hd : la + 6 ≤ x + 23 ∨ x + 292 ≤ la) (h : mx_off (wz (x + 38) la) I K) : ∀ c, x + 23 ≤ c → c < x + 38 → K c = I c := fun c h1 h2 => h c (by unfold wz; omega)
theorem WS.seed {K : mx_I} {m : Nat → Int32} {s : Nat} {v : Int32} (hw : WS K s m) : WS (mx_up K s 8 v) s (updI m 10 v) := by
  obtain ⟨h1, N, z, h2⟩ := hw
  exact ⟨st_fld h1 (Or.inr ⟨rfl, rfl⟩), N, z, h2.cm (mx_up_ne (by omega)) (mx_up_ne (by omega)) (updI_n (by omega)) (fun k a b => updI_n (by omega))⟩
theorem WS.nine {K : mx_I} {m : Nat → Int32} {s : Nat} {v : Int32} (hw : WS K s m) : WS (mx_up K s 9 v) s m := by
  obtain ⟨h1, N, z, h2⟩ := hw
  exact ⟨st_fld9 h1, N, z, h2.cm (mx_up_ne (by omega)) (mx_up_ne (by omega)) rfl (fun k a b => rfl)⟩
theorem wi_sd {m : Nat → Int32} {v : Int32} (hw : wi m H G) : wi (updI m 10 v) H G := hw.cm (updI_n (by omega)) (fun k h1 h2 => updI_n (by omega)) (fun k h1 h2 => Or.inr (updI_n (by omega)))
theorem c_Vh_goAhead (hV : vh_ok S P x) (hSt : st_ok S P (x + 23)) (hSr : st_rel I (x + 23) m) (hTr : st_ok S P (x + 38)) (hla : P (x + 23) 2 = some la) (hLw : la_is S P I la D) (hd : la + 6 ≤ x + 23 ∨ x + 292 ≤ la) (hlr : ∃ N z, lo_rel I (x + 23 + 9) m N z) (hw : wi m H G) (hH8 : H ≤ 8) (hG8 : G ≤ 8) {n : Nat} (hn : n ≤ 60) : mx_C l E M_Vh_goAhead 7 0 0 [.ref (x), .int (nI (n))] (t, S, I, P, J) (mx_sR none t S (mx_upP P (x + 38) 2 (some la)) J (fun K => mx_off (wz (x + 38) la) I K ∧ WS K (x + 38) (w_ws D false H n (m, nI 0, 0)).1)) := by
  obtain ⟨hV0, hVp0, hVp1, hVp2, hVp3, hVp4, hVp5, hVp7, hVp8, hVp9, hVp10, hVp11, hVp12, hVs15, hVs16, hVs68⟩ := id hV
  obtain ⟨hC0, hC1, hC2, hC3, hC4, hC5, hC6, hD1, hD2, hD3, hD4, hPe, hLo⟩ := id hSt
  obtain ⟨hPr, u0, u1, u2, u3, u4, u5, u6, u7, u8⟩ := id hSr
  obtain ⟨hA0, hA1, hA2, hA3, hA4, hA5, hA6, hA7, hB1, hB2, hB3, hB4, hB5, hB6, hB7⟩ := id hPe
  obtain ⟨r0, r1, r2, r3, r4, r5, r6, r7, r8⟩ := id hPr
  have hTr0 := hTr.1
  refine mx_C_of (ls0 := [some (.ref (x)), some (.int (nI (n))), none]) (by decide +kernel) rfl rfl (Nat.le_of_ble_eq_true rfl) rfl ?_
  refine mx_al0 d_Vh_goAhead_0 ?_
  refine mx_getR d_Vh_goAhead_1 fl_Vh_55 (by assumption) (by assumption) ?_
  refine mx_al0 d_Vh_goAhead_4 ?_
  refine mx_getR d_Vh_goAhead_5 fl_Vh_51 (by assumption) (by assumption) ?_
  refine mx_cV1v d_Vh_goAhead_8 (c_St_take hTr hSt hla) ok_St_take ml_Vh_133 (by assumption) ⟨rfl, rfl⟩ (by decide) (Nat.le_of_ble_eq_true rfl) ?_
  obtain ⟨hV2, hT1, hT2, hl1, hl2, hLw2, hWS0, hoff0⟩ := tk_all hV hSt hSr hTr hla hLw hd hlr
  obtain ⟨-, hZp0, hZp1, hZp2, hZp3, hZp4, hZp5, hZp7, hZp8, hZp9, hZp10, hZp11, hZp12, -, -, -⟩ := id hV2
  have hT20 := hT2.1
  have hT10 := hT1.1
  have hd3 : la + 6 ≤ x + 38 ∨ x + 38 + 15 ≤ la := by omega
  obtain ⟨hC0, hC1, hC2, hC3, hC4, hC5, hC6, hD1, hD2, hD3, hD4, hPe, hLo⟩ := id hT2
  refine mx_in_0 d_Vh_goAhead_11 ?_
  refine mx_is2 d_Vh_goAhead_12 ?_
  refine mx_loopX (α := (mx_I)) (N := n) (a0 := (vs_stT I (x + 38) (x + 23))) (fun j z9 => mx_off (wz (x + 38) la) I z9 ∧ WS z9 (x + 38) (w_ws D false H j (m, nI 0, 0)).1 ∧ True) (ls := fun j z9 => [some (.ref (x)), some (.int (nI (n))), some (.int (nI (j)))]) (X := fun j z9 => (t, S, z9, (mx_upP P (x + 38) 2 (some la)), J)) (⟨hoff0, hWS0, trivial⟩) (fun j hj z9 hinv ih => ?_) (fun z9 hinv => ?_)
  · skip
    obtain ⟨K, hz9⟩ : ∃ q, q = z9 := ⟨_, rfl⟩
    subst hz9
    try dsimp only at hinv ih ⊢
    have hwj : wi (w_ws D false H j (m, nI 0, 0)).1 H G := wi_ws (z := (m, nI 0, 0)) hw hH8
    refine mx_il2 d_Vh_goAhead_13 ?_
    refine mx_il1 d_Vh_goAhead_14 ?_
    refine mx_icN_ge 33 d_Vh_goAhead_15 (by decide) (by omega) (by omega) (fun c_15 => absurd c_15 (by omega)) (fun c_15 => ?_)
    refine mx_al0 d_Vh_goAhead_18 ?_
    refine mx_getR d_Vh_goAhead_19 fl_Vh_55 (by assumption) (by assumption) ?_
    refine mx_in_0 d_Vh_goAhead_22 ?_
    refine mx_cV1iR d_Vh_goAhead_23 (c_St_passWeek hT2 hinv.2.1.1 hl2 (wz_la hd3 hinv.1 hLw2) hd3 hinv.2.1.2 hwj hH8 hG8 (b := false)) ok_St_passWeek ml_Vh_286 (by assumption) ⟨rfl, rfl⟩ (by decide) (Nat.le_of_ble_eq_true rfl) (fun K2 hK2 => ?_)
    refine mx_pop d_Vh_goAhead_26 rfl ?_
    refine mx_iN2 d_Vh_goAhead_27 ?_
    refine mx_goto 13 d_Vh_goAhead_30 (by decide) ?_
    exact ih K2 (⟨hinv.1.tr hK2.1, by rw [w_ws_s]; dsimp only; rw [w_wk_1 (v' := K (x + 38) 9)]; exact hK2.2.1, trivial⟩)
  · skip
    obtain ⟨K, hz9⟩ : ∃ q, q = z9 := ⟨_, rfl⟩
    subst hz9
    try dsimp only at hinv ⊢
    refine mx_il2 d_Vh_goAhead_13 ?_
    refine mx_il1 d_Vh_goAhead_14 ?_
    refine mx_icN_ge 33 d_Vh_goAhead_15 (by decide) (by omega) (by omega) (fun c_15 => ?_) (fun c_15 => absurd c_15 (by omega))
    exact mx_vret d_Vh_goAhead_33 rfl (mx_sR_of rfl ⟨hinv.1, hinv.2.1⟩)
theorem c_Vh_tryWeeks (hV : vh_ok S P x) (hSt : st_ok S P (x + 23)) (hSr : st_rel I (x + 23) m) (hTr : st_ok S P (x + 38)) (hla : P (x + 23) 2 = some la) (hLw : la_is S P I la D) (hd : la + 6 ≤ x + 23 ∨ x + 292 ≤ la) (hlr : ∃ N z, lo_rel I (x + 23 + 9) m N z) (hw : wi m H G) (hH8 : H ≤ 8) (hG8 : G ≤ 8) {n : Nat} (hn : n ≤ 60) {v : Int32} : mx_C l E M_Vh_tryWeeks 7 0 0 [.ref (x), .int (nI (n)), .int (v)] (t, S, I, P, J) (mx_sR none t S (mx_upP P (x + 38) 2 (some la)) J (fun K => mx_off (wz (x + 38) la) I K ∧ WS K (x + 38) (w_ws D true H n ((updI m 10 v), nI 0, 0)).1 ∧ K (x + 38) 9 = (w_ws D true H n ((updI m 10 v), nI 0, 0)).2.1)) := by
  obtain ⟨hV0, hVp0, hVp1, hVp2, hVp3, hVp4, hVp5, hVp7, hVp8, hVp9, hVp10, hVp11, hVp12, hVs15, hVs16, hVs68⟩ := id hV
  obtain ⟨hC0, hC1, hC2, hC3, hC4, hC5, hC6, hD1, hD2, hD3, hD4, hPe, hLo⟩ := id hSt
  obtain ⟨hPr, u0, u1, u2, u3, u4, u5, u6, u7, u8⟩ := id hSr
  obtain ⟨hA0, hA1, hA2, hA3, hA4, hA5, hA6, hA7, hB1, hB2, hB3, hB4, hB5, hB6, hB7⟩ := id hPe
  obtain ⟨r0, r1, r2, r3, r4, r5, r6, r7, r8⟩ := id hPr
  have hTr0 := hTr.1
  refine mx_C_of (ls0 := [some (.ref (x)), some (.int (nI (n))), some (.int (v)), none]) (by decide +kernel) rfl rfl (Nat.le_of_ble_eq_true rfl) rfl ?_
  refine mx_al0 d_Vh_tryWeeks_0 ?_
  refine mx_getR d_Vh_tryWeeks_1 fl_Vh_55 (by assumption) (by assumption) ?_
  refine mx_al0 d_Vh_tryWeeks_4 ?_
  refine mx_getR d_Vh_tryWeeks_5 fl_Vh_51 (by assumption) (by assumption) ?_
  refine mx_cV1v d_Vh_tryWeeks_8 (c_St_take hTr hSt hla) ok_St_take ml_Vh_133 (by assumption) ⟨rfl, rfl⟩ (by decide) (Nat.le_of_ble_eq_true rfl) ?_
  obtain ⟨hV2, hT1, hT2, hl1, hl2, hLw2, hWS0, hoff0⟩ := tk_all hV hSt hSr hTr hla hLw hd hlr
  obtain ⟨-, hZp0, hZp1, hZp2, hZp3, hZp4, hZp5, hZp7, hZp8, hZp9, hZp10, hZp11, hZp12, -, -, -⟩ := id hV2
  have hT20 := hT2.1
  have hT10 := hT1.1
  have hd3 : la + 6 ≤ x + 38 ∨ x + 38 + 15 ≤ la := by omega
  obtain ⟨hC0, hC1, hC2, hC3, hC4, hC5, hC6, hD1, hD2, hD3, hD4, hPe, hLo⟩ := id hT2
  refine mx_al0 d_Vh_tryWeeks_11 ?_
  refine mx_getR d_Vh_tryWeeks_12 fl_Vh_55 (by assumption) (by assumption) ?_
  refine mx_il2 d_Vh_tryWeeks_15 ?_
  refine mx_putI d_Vh_tryWeeks_16 fl_Vh_426 (by assumption) ?_
  refine mx_al0 d_Vh_tryWeeks_19 ?_
  refine mx_getR d_Vh_tryWeeks_20 fl_Vh_55 (by assumption) (by assumption) ?_
  refine mx_in_0 d_Vh_tryWeeks_23 ?_
  refine mx_putI d_Vh_tryWeeks_24 fl_Vh_415 (by assumption) ?_
  refine mx_in_0 d_Vh_tryWeeks_27 ?_
  refine mx_is3 d_Vh_tryWeeks_28 ?_
  refine mx_loopX (α := (mx_I)) (N := n) (a0 := (mx_up (mx_up (vs_stT I (x + 38) (x + 23)) (x + 38) 8 (v)) (x + 38) 9 (nI (0)))) (fun j z9 => mx_off (wz (x + 38) la) I z9 ∧ WS z9 (x + 38) (w_ws D true H j ((updI m 10 v), nI 0, 0)).1 ∧ z9 (x + 38) 9 = (w_ws D true H j ((updI m 10 v), nI 0, 0)).2.1) (ls := fun j z9 => [some (.ref (x)), some (.int (nI (n))), some (.int (v)), some (.int (nI (j)))]) (X := fun j z9 => (t, S, z9, (mx_upP P (x + 38) 2 (some la)), J)) (⟨fun c hc => (mx_up_ne (fun z => hc (by unfold wz; omega))).trans ((mx_up_ne (fun z => hc (by unfold wz; omega))).trans (hoff0 c hc)), hWS0.seed.nine, by simp [mx_up]; rfl⟩) (fun j hj z9 hinv ih => ?_) (fun z9 hinv => ?_)
  · skip
    obtain ⟨K, hz9⟩ : ∃ q, q = z9 := ⟨_, rfl⟩
    subst hz9
    try dsimp only at hinv ih ⊢
    have hwj : wi (w_ws D true H j ((updI m 10 v), nI 0, 0)).1 H G := wi_ws (z := ((updI m 10 v), nI 0, 0)) (wi_sd hw) hH8
    refine mx_il3 d_Vh_tryWeeks_29 ?_
    refine mx_il1 d_Vh_tryWeeks_30 ?_
    refine mx_icN_ge 49 d_Vh_tryWeeks_31 (by decide) (by omega) (by omega) (fun c_31 => absurd c_31 (by omega)) (fun c_31 => ?_)
    refine mx_al0 d_Vh_tryWeeks_34 ?_
    refine mx_getR d_Vh_tryWeeks_35 fl_Vh_55 (by assumption) (by assumption) ?_
    refine mx_in_1 d_Vh_tryWeeks_38 ?_
    refine mx_cV1iR d_Vh_tryWeeks_39 (c_St_passWeek hT2 hinv.2.1.1 hl2 (wz_la hd3 hinv.1 hLw2) hd3 hinv.2.1.2 hwj hH8 hG8 (b := true)) ok_St_passWeek ml_Vh_286 (by assumption) ⟨rfl, rfl⟩ (by decide) (Nat.le_of_ble_eq_true rfl) (fun K2 hK2 => ?_)
    refine mx_pop d_Vh_tryWeeks_42 rfl ?_
    refine mx_iN3 d_Vh_tryWeeks_43 ?_
    refine mx_goto 29 d_Vh_tryWeeks_46 (by decide) ?_
    exact ih K2 (⟨hinv.1.tr hK2.1, by rw [w_ws_s]; dsimp only; rw [← hinv.2.2]; exact hK2.2.1, by rw [w_ws_s]; dsimp only; rw [← hinv.2.2]; exact hK2.2.2⟩)
  · skip
    obtain ⟨K, hz9⟩ : ∃ q, q = z9 := ⟨_, rfl⟩
    subst hz9
    try dsimp only at hinv ⊢
    refine mx_il3 d_Vh_tryWeeks_29 ?_
    refine mx_il1 d_Vh_tryWeeks_30 ?_
    refine mx_icN_ge 49 d_Vh_tryWeeks_31 (by decide) (by omega) (by omega) (fun c_31 => ?_) (fun c_31 => absurd c_31 (by omega))
    exact mx_vret d_Vh_tryWeeks_49 rfl (mx_sR_of rfl hinv)
theorem c_Vh_gladder (htr : l.stackTraces = false) (hV : vh_ok S P x) (hSt : st_ok S P (x + 23)) (hSr : st_rel I (x + 23) m) (hTr : st_ok S P (x + 38)) (hla : P (x + 23) 2 = some la) (hLw : la_is S P I la D) (hd : la + 6 ≤ x + 23 ∨ x + 292 ≤ la) (hlr : ∃ N z, lo_rel I (x + 23 + 9) m N z) (hw : wi m H G) (hH8 : H ≤ 8) (hG8 : G ≤ 8) {v : Int32} : mx_C l E M_Vh_gladder 8 1 6 [.ref (x), .int (v)] (t, S, I, P, J) (mx_pkR (fun _ => "java/lang/IllegalArgumentException") (sp_gladder D m H v) (t, S, I, P, J) t S (mx_upP P (x + 38) 2 (some la)) J (fun K => mx_off (wz (x + 38) la) I K)) := by
  obtain ⟨hV0, hVp0, hVp1, hVp2, hVp3, hVp4, hVp5, hVp7, hVp8, hVp9, hVp10, hVp11, hVp12, hVs15, hVs16, hVs68⟩ := id hV
  obtain ⟨hC0, hC1, hC2, hC3, hC4, hC5, hC6, hD1, hD2, hD3, hD4, hPe, hLo⟩ := id hSt
  obtain ⟨hPr, u0, u1, u2, u3, u4, u5, u6, u7, u8⟩ := id hSr
  obtain ⟨hA0, hA1, hA2, hA3, hA4, hA5, hA6, hA7, hB1, hB2, hB3, hB4, hB5, hB6, hB7⟩ := id hPe
  obtain ⟨r0, r1, r2, r3, r4, r5, r6, r7, r8⟩ := id hPr
  have hTr0 := hTr.1
  refine mx_C_of (ls0 := [some (.ref (x)), some (.int (v))]) (by decide +kernel) rfl rfl (Nat.le_of_ble_eq_true rfl) rfl ?_
  refine mx_il1 d_Vh_gladder_0 ?_
  refine mx_in_0 d_Vh_gladder_1 ?_
  refine mx_bip 60 d_Vh_gladder_2 (by decide) ?_
  refine mx_nS3 d_Vh_gladder_4 (c_needNumber htr) ok_Vh_needNumber ml_Vh_269 rfl (by decide) (by decide) (by decide) (Nat.le_of_ble_eq_true rfl) (fun hb4 t9 ht => mx_pkR_x ht 0 (by have hnO := vs_nn0 (n := 60) (by omega) hb4; simp_all [sp_gladder]) rfl) (fun hb4 => ?_)
  have hnv : vs_isN v 61 = true := by rw [← vs_isN_le2 (n := 60) (by omega)]; exact hb4
  obtain ⟨n, hnL, rfl⟩ := vs_isN_of (by omega) hnv
  have hnc : (nI n).toNatClampNeg = n := nI_clamp (by omega)
  refine mx_al0 d_Vh_gladder_7 ?_
  refine mx_il1 d_Vh_gladder_8 ?_
  refine mx_cV1vR d_Vh_gladder_9 (c_Vh_goAhead hV hSt hSr hTr hla hLw hd hlr hw hH8 hG8 (n := n) (by omega)) ok_Vh_goAhead ml_Vh_418 (by assumption) ⟨rfl, rfl⟩ (by decide) (Nat.le_of_ble_eq_true rfl) (fun K1 hK1 => ?_)
  obtain ⟨hV2, hT1, hT2, hl1, hl2, hLw2, hWS0, hoff0⟩ := tk_all hV hSt hSr hTr hla hLw hd hlr
  obtain ⟨-, hZp0, hZp1, hZp2, hZp3, hZp4, hZp5, hZp7, hZp8, hZp9, hZp10, hZp11, hZp12, -, -, -⟩ := id hV2
  have hT20 := hT2.1
  have hT10 := hT1.1
  have hd3 : la + 6 ≤ x + 38 ∨ x + 38 + 15 ≤ la := by omega
  obtain ⟨hC0, hC1, hC2, hC3, hC4, hC5, hC6, hD1, hD2, hD3, hD4, hPe, hLo⟩ := id hT2
  have hSn := hSr.cg (fun c h1 h2 => wz_o hd hK1.1 c h1 (by omega))
  refine mx_al0 d_Vh_gladder_12 ?_
  refine mx_getR d_Vh_gladder_13 fl_Vh_55 (by assumption) (by assumption) ?_
  refine mx_cV0i d_Vh_gladder_16 (c_St_gladnessOfAll hT2 hK1.2.1 (wi_ws (z := (m, nI 0, 0)) hw hH8).1 hH8) ok_St_gladnessOfAll ml_Vh_421 (by assumption) ⟨rfl, rfl⟩ (by decide) (Nat.le_of_ble_eq_true rfl) ?_
  refine mx_al0 d_Vh_gladder_19 ?_
  refine mx_getR d_Vh_gladder_20 fl_Vh_51 (by assumption) (by assumption) ?_
  refine mx_cV0i d_Vh_gladder_23 (c_St_gladnessOfAll hT1 hSn hw.1 hH8) ok_St_gladnessOfAll ml_Vh_421 (by assumption) ⟨rfl, rfl⟩ (by decide) (Nat.le_of_ble_eq_true rfl) ?_
  refine mx_isub d_Vh_gladder_26 ?_
  exact mx_iret d_Vh_gladder_27 rfl (mx_pkR_i (by simp [sp_gladder, w_ah, *]) hK1.1)
theorem c_Vh_settle (htr : l.stackTraces = false) (hV : vh_ok S P x) (hSt : st_ok S P (x + 23)) (hSr : st_rel I (x + 23) m) (hTr : st_ok S P (x + 38)) (hla : P (x + 23) 2 = some la) (hLw : la_is S P I la D) (hd : la + 6 ≤ x + 23 ∨ x + 292 ≤ la) (hlr : ∃ N z, lo_rel I (x + 23 + 9) m N z) (hw : wi m H G) (hH8 : H ≤ 8) (hG8 : G ≤ 8) {v : Int32} : mx_C l E M_Vh_settle 7 1 6 [.ref (x), .int (v)] (t, S, I, P, J) (mx_pkR (fun _ => "java/lang/IndexOutOfBoundsException") (sp_settle D m H v) (t, S, I, P, J) t S (mx_upP P (x + 38) 2 (some la)) J (fun K => mx_off (wz (x + 38) la) I K)) := by
  obtain ⟨hV0, hVp0, hVp1, hVp2, hVp3, hVp4, hVp5, hVp7, hVp8, hVp9, hVp10, hVp11, hVp12, hVs15, hVs16, hVs68⟩ := id hV
  obtain ⟨hC0, hC1, hC2, hC3, hC4, hC5, hC6, hD1, hD2, hD3, hD4, hPe, hLo⟩ := id hSt
  obtain ⟨hPr, u0, u1, u2, u3, u4, u5, u6, u7, u8⟩ := id hSr
  obtain ⟨hA0, hA1, hA2, hA3, hA4, hA5, hA6, hA7, hB1, hB2, hB3, hB4, hB5, hB6, hB7⟩ := id hPe
  obtain ⟨r0, r1, r2, r3, r4, r5, r6, r7, r8⟩ := id hPr
  have hTr0 := hTr.1
  refine mx_C_of (ls0 := [some (.ref (x)), some (.int (v)), none]) (by decide +kernel) rfl rfl (Nat.le_of_ble_eq_true rfl) rfl ?_
  refine mx_al0 d_Vh_settle_0 ?_
  refine mx_il1 d_Vh_settle_1 ?_
  refine mx_nV1 d_Vh_settle_2 (c_needHost htr hV hSt hSr hw.1 hH8) ok_Vh_needHost ml_Vh_159 (by assumption) ⟨rfl, rfl⟩ rfl (by decide) (by decide) (by decide) (Nat.le_of_ble_eq_true rfl) (fun hb2 t9 ht => mx_pkR_x ht 0 (by simp_all [sp_settle]) rfl) (fun hb2 => ?_)
  obtain ⟨h, hhL, rfl⟩ := vs_isN_of (by omega) hb2
  have hhc : (nI h).toNatClampNeg = h := nI_clamp (by omega)
  have hhL8 : h < 8 := by omega
  refine mx_al0 d_Vh_settle_5 ?_
  refine mx_getR d_Vh_settle_6 fl_Vh_55 (by assumption) (by assumption) ?_
  refine mx_al0 d_Vh_settle_9 ?_
  refine mx_getR d_Vh_settle_10 fl_Vh_51 (by assumption) (by assumption) ?_
  refine mx_cV1v d_Vh_settle_13 (c_St_take hTr hSt hla) ok_St_take ml_Vh_133 (by assumption) ⟨rfl, rfl⟩ (by decide) (Nat.le_of_ble_eq_true rfl) ?_
  obtain ⟨hV2, hT1, hT2, hl1, hl2, hLw2, hWS0, hoff0⟩ := tk_all hV hSt hSr hTr hla hLw hd hlr
  obtain ⟨-, hZp0, hZp1, hZp2, hZp3, hZp4, hZp5, hZp7, hZp8, hZp9, hZp10, hZp11, hZp12, -, -, -⟩ := id hV2
  have hT20 := hT2.1
  have hT10 := hT1.1
  have hd3 : la + 6 ≤ x + 38 ∨ x + 38 + 15 ≤ la := by omega
  obtain ⟨hC0, hC1, hC2, hC3, hC4, hC5, hC6, hD1, hD2, hD3, hD4, hPe, hLo⟩ := id hT2
  refine mx_al0 d_Vh_settle_16 ?_
  refine mx_getR d_Vh_settle_17 fl_Vh_55 (by assumption) (by assumption) ?_
  refine mx_in_0 d_Vh_settle_20 ?_
  refine mx_putI d_Vh_settle_21 fl_Vh_415 (by assumption) ?_
  refine mx_in_1 d_Vh_settle_24 ?_
  refine mx_is2 d_Vh_settle_25 ?_
  refine mx_loopX (α := (mx_I)) (N := 60) (a0 := (mx_up (vs_stT I (x + 38) (x + 23)) (x + 38) 9 (nI (0)))) (fun k z9 => mx_off (wz (x + 38) la) I z9 ∧ WS z9 (x + 38) (w_ws D false H k (m, nI 0, 0)).1 ∧ z9 (x + 38) 9 = (w_ws D false H k (m, nI 0, 0)).2.1 ∧ ∀ j, j < k → w_sb D m H h j = false) (ls := fun k z9 => [some (.ref (x)), some (.int (nI (h))), some (.int (nI (k + 1)))]) (X := fun k z9 => (t, S, z9, (mx_upP P (x + 38) 2 (some la)), J)) (⟨fun c hc => (mx_up_ne (fun z => hc (by unfold wz; omega))).trans (hoff0 c hc), hWS0.nine, by simp [mx_up]; rfl, fun j hj => absurd hj (by omega)⟩) (fun k hk z9 hinv ih => ?_) (fun z9 hinv => ?_)
  · skip
    obtain ⟨K, hz9⟩ : ∃ q, q = z9 := ⟨_, rfl⟩
    subst hz9
    try dsimp only at hinv ih ⊢
    have hwj : wi (w_ws D false H k (m, nI 0, 0)).1 H G := wi_ws (z := (m, nI 0, 0)) hw hH8
    refine mx_il2 d_Vh_settle_26 ?_
    refine mx_bip 60 d_Vh_settle_27 (by decide) ?_
    refine mx_icN_gt 63 d_Vh_settle_29 (by decide) (by omega) (by omega) (fun c_29 => absurd c_29 (by omega)) (fun c_29 => ?_)
    refine mx_al0 d_Vh_settle_32 ?_
    refine mx_getR d_Vh_settle_33 fl_Vh_55 (by assumption) (by assumption) ?_
    refine mx_in_0 d_Vh_settle_36 ?_
    refine mx_cV1iR d_Vh_settle_37 (c_St_passWeek hT2 hinv.2.1.1 hl2 (wz_la hd3 hinv.1 hLw2) hd3 hinv.2.1.2 hwj hH8 hG8 (b := false)) ok_St_passWeek ml_Vh_286 (by assumption) ⟨rfl, rfl⟩ (by decide) (Nat.le_of_ble_eq_true rfl) (fun K2 hK2 => ?_)
    refine mx_pop d_Vh_settle_40 rfl ?_
    refine mx_al0 d_Vh_settle_41 ?_
    refine mx_getR d_Vh_settle_42 fl_Vh_55 (by assumption) (by assumption) ?_
    refine mx_getI d_Vh_settle_45 fl_Vh_415 (by assumption) ?_
    refine mx_il1 d_Vh_settle_48 ?_
    refine mx_cS2i d_Vh_settle_49 (c_has (j := h) (by omega)) ok_Vh_has ml_Vh_248 (by decide) (Nat.le_of_ble_eq_true rfl) ?_
    refine mx_ifB_eq 57 d_Vh_settle_52 (by decide) (fun c_52 => ?_) (fun c_52 => ?_)
    · skip
      have hkb : w_sb D m H h k = false := by rw [vs_has_bt (by omega), hK2.2.2, w_wk_2, b_or, hinv.2.2.1, w_ws_b (by omega) hinv.2.2.2, Bool.false_or] at c_52; exact c_52
      refine mx_iN2 d_Vh_settle_57 ?_
      refine mx_goto 26 d_Vh_settle_60 (by decide) ?_
      have e2 : nI (k + 1 + 1) = nI ((k + 1) + 1) := by first | rfl | simp [vf_s, *]
      refine mx_lsc (congrArg (fun z9 => ([some (.ref (x)), some (.int (nI (h))), some (.int (z9))] : List (Option Value))) e2) ?_
      exact ih K2 (⟨hinv.1.tr hK2.1, by rw [w_ws_s]; dsimp only; rw [← hinv.2.2.1]; exact hK2.2.1, by rw [w_ws_s]; dsimp only; rw [← hinv.2.2.1]; exact hK2.2.2, fun j hj => by by_cases e : j = k; exact e ▸ hkb; exact hinv.2.2.2 j (by omega)⟩)
    · skip
      have hkb : w_sb D m H h k = true := by rw [vs_has_bt (by omega), hK2.2.2, w_wk_2, b_or, hinv.2.2.1, w_ws_b (by omega) hinv.2.2.2, Bool.false_or] at c_52; exact c_52
      refine mx_il2 d_Vh_settle_55 ?_
      exact mx_iret d_Vh_settle_56 rfl (mx_pkR_i (by unfold sp_settle; rw [if_pos hb2, hhc, st_fn_y (k := k) (by omega) (by omega) hinv.2.2.2 hkb]) (hinv.1.tr hK2.1))
  · skip
    obtain ⟨K, hz9⟩ : ∃ q, q = z9 := ⟨_, rfl⟩
    subst hz9
    try dsimp only at hinv ⊢
    refine mx_il2 d_Vh_settle_26 ?_
    refine mx_bip 60 d_Vh_settle_27 (by decide) ?_
    refine mx_icN_gt 63 d_Vh_settle_29 (by decide) (by omega) (by omega) (fun c_29 => ?_) (fun c_29 => absurd c_29 (by omega))
    refine mx_ic_m1 d_Vh_settle_63 ?_
    exact mx_iret d_Vh_settle_64 rfl (mx_pkR_i (by unfold sp_settle; rw [if_pos hb2, hhc, st_fn_n hinv.2.2.2]) hinv.1)
theorem c_Vh_ahead (htr : l.stackTraces = false) (hV : vh_ok S P x) (hSt : st_ok S P (x + 23)) (hSr : st_rel I (x + 23) m) (hTr : st_ok S P (x + 38)) (hla : P (x + 23) 2 = some la) (hLw : la_is S P I la D) (hd : la + 6 ≤ x + 23 ∨ x + 292 ≤ la) (hlr : ∃ N z, lo_rel I (x + 23 + 9) m N z) (hw : wi m H G) (hH8 : H ≤ 8) (hG8 : G ≤ 8) {v w u : Int32} : mx_C l E M_Vh_ahead 8 3 18 [.ref (x), .int (v), .int (w), .int (u)] (t, S, I, P, J) (mx_pkR (fun c => if c = 1 then "java/lang/IndexOutOfBoundsException" else if c = 2 then "java/lang/IllegalArgumentException" else "java/util/NoSuchElementException") (sp_ahead D m H v w u) (t, S, I, P, J) t S (mx_upP P (x + 38) 2 (some la)) J (fun K => mx_off (wz (x + 38) la) I K)) := by
  obtain ⟨hV0, hVp0, hVp1, hVp2, hVp3, hVp4, hVp5, hVp7, hVp8, hVp9, hVp10, hVp11, hVp12, hVs15, hVs16, hVs68⟩ := id hV
  obtain ⟨hC0, hC1, hC2, hC3, hC4, hC5, hC6, hD1, hD2, hD3, hD4, hPe, hLo⟩ := id hSt
  obtain ⟨hPr, u0, u1, u2, u3, u4, u5, u6, u7, u8⟩ := id hSr
  obtain ⟨hA0, hA1, hA2, hA3, hA4, hA5, hA6, hA7, hB1, hB2, hB3, hB4, hB5, hB6, hB7⟩ := id hPe
  obtain ⟨r0, r1, r2, r3, r4, r5, r6, r7, r8⟩ := id hPr
  have hTr0 := hTr.1
  refine mx_C_of (ls0 := [some (.ref (x)), some (.int (v)), some (.int (w)), some (.int (u))]) (by decide +kernel) rfl rfl (Nat.le_of_ble_eq_true rfl) rfl ?_
  refine mx_al0 d_Vh_ahead_0 ?_
  refine mx_il1 d_Vh_ahead_1 ?_
  refine mx_nV1 d_Vh_ahead_2 (c_needHost htr hV hSt hSr hw.1 hH8) ok_Vh_needHost ml_Vh_159 (by assumption) ⟨rfl, rfl⟩ rfl (by decide) (by decide) (by decide) (Nat.le_of_ble_eq_true rfl) (fun hb2 t9 ht => mx_pkR_x ht 0 (by simp_all [sp_ahead]) rfl) (fun hb2 => ?_)
  obtain ⟨h, hhL, rfl⟩ := vs_isN_of (by omega) hb2
  have hhc : (nI h).toNatClampNeg = h := nI_clamp (by omega)
  have hhL8 : h < 8 := by omega
  refine mx_il2 d_Vh_ahead_5 ?_
  refine mx_in_0 d_Vh_ahead_6 ?_
  refine mx_bip 60 d_Vh_ahead_7 (by decide) ?_
  refine mx_nS3 d_Vh_ahead_9 (c_needNumber htr) ok_Vh_needNumber ml_Vh_269 rfl (by decide) (by decide) (by decide) (Nat.le_of_ble_eq_true rfl) (fun hb9 t9 ht => mx_pkR_x ht 1 (by have hnO := vs_nn0 (n := 60) (by omega) hb9; simp_all [sp_ahead]) rfl) (fun hb9 => ?_)
  have hnw : vs_isN w 61 = true := by rw [← vs_isN_le2 (n := 60) (by omega)]; exact hb9
  obtain ⟨n, hnL, rfl⟩ := vs_isN_of (by omega) hnw
  have hnc : (nI n).toNatClampNeg = n := nI_clamp (by omega)
  refine mx_il3 d_Vh_ahead_12 ?_
  refine mx_if_eq 32 d_Vh_ahead_13 (by decide) (fun c_13 => ?_) (fun c_13 => ?_)
  · skip
    have hu : u = nI 0 := c_13
    subst hu
    clear c_13
    refine mx_al0 d_Vh_ahead_32 ?_
    refine mx_il2 d_Vh_ahead_33 ?_
    refine mx_cV1vR d_Vh_ahead_34 (c_Vh_goAhead hV hSt hSr hTr hla hLw hd hlr hw hH8 hG8 (n := n) (by omega)) ok_Vh_goAhead ml_Vh_418 (by assumption) ⟨rfl, rfl⟩ (by decide) (Nat.le_of_ble_eq_true rfl) (fun K1 hK1 => ?_)
    obtain ⟨hV2, hT1, hT2, hl1, hl2, hLw2, hWS0, hoff0⟩ := tk_all hV hSt hSr hTr hla hLw hd hlr
    obtain ⟨-, hZp0, hZp1, hZp2, hZp3, hZp4, hZp5, hZp7, hZp8, hZp9, hZp10, hZp11, hZp12, -, -, -⟩ := id hV2
    have hT20 := hT2.1
    have hT10 := hT1.1
    have hd3 : la + 6 ≤ x + 38 ∨ x + 38 + 15 ≤ la := by omega
    obtain ⟨hC0, hC1, hC2, hC3, hC4, hC5, hC6, hD1, hD2, hD3, hD4, hPe, hLo⟩ := id hT2
    refine mx_il3 d_Vh_ahead_37 ?_
    refine mx_if_ne 51 d_Vh_ahead_38 (by decide) (fun c_38 => absurd (by decide) c_38) (fun c_38 => ?_)
    refine mx_al0 d_Vh_ahead_41 ?_
    refine mx_getR d_Vh_ahead_42 fl_Vh_55 (by assumption) (by assumption) ?_
    refine mx_getR d_Vh_ahead_45 fl_Vh_178 (by assumption) (by assumption) ?_
    refine mx_goto 58 d_Vh_ahead_48 (by decide) ?_
    refine mx_il1 d_Vh_ahead_58 ?_
    refine mx_cS2i d_Vh_ahead_59 (c_get (k := h) (by assumption) (by omega) (by omega)) ok_Vh_get ml_Vh_171 (by decide) (Nat.le_of_ble_eq_true rfl) ?_
    exact mx_iret d_Vh_ahead_62 rfl (mx_pkR_i (by have e2 := hK1.2.1.2.2.2.2.2.2.2.1 h (by omega); have e3 := hK1.2.1.2.2.2.2.2.2.2.2.1 h (by omega); have v0 : vs_isN (nI 0) 2 = true := (by decide); have v2 : vs_isN 0 2 = true := (by decide); have v1 : vs_isN (nI 1) 2 = true := (by decide); have u0 : (nI 0).toNatClampNeg = 0 := (by decide); have u1 : (nI 1).toNatClampNeg = 1 := (by decide); unfold sp_ahead w_ah; simp [*]) hK1.1)
  · skip
    refine mx_il3 d_Vh_ahead_16 ?_
    refine mx_in_1 d_Vh_ahead_17 ?_
    refine mx_icmp_eq 32 d_Vh_ahead_18 (by decide) (fun c_18 => ?_) (fun c_18 => ?_)
    · skip
      subst c_18
      refine mx_al0 d_Vh_ahead_32 ?_
      refine mx_il2 d_Vh_ahead_33 ?_
      refine mx_cV1vR d_Vh_ahead_34 (c_Vh_goAhead hV hSt hSr hTr hla hLw hd hlr hw hH8 hG8 (n := n) (by omega)) ok_Vh_goAhead ml_Vh_418 (by assumption) ⟨rfl, rfl⟩ (by decide) (Nat.le_of_ble_eq_true rfl) (fun K1 hK1 => ?_)
      obtain ⟨hV2, hT1, hT2, hl1, hl2, hLw2, hWS0, hoff0⟩ := tk_all hV hSt hSr hTr hla hLw hd hlr
      obtain ⟨-, hZp0, hZp1, hZp2, hZp3, hZp4, hZp5, hZp7, hZp8, hZp9, hZp10, hZp11, hZp12, -, -, -⟩ := id hV2
      have hT20 := hT2.1
      have hT10 := hT1.1
      have hd3 : la + 6 ≤ x + 38 ∨ x + 38 + 15 ≤ la := by omega
      obtain ⟨hC0, hC1, hC2, hC3, hC4, hC5, hC6, hD1, hD2, hD3, hD4, hPe, hLo⟩ := id hT2
      refine mx_il3 d_Vh_ahead_37 ?_
      refine mx_if_ne 51 d_Vh_ahead_38 (by decide) (fun c_38 => ?_) (fun c_38 => absurd c_38 (by decide))
      refine mx_al0 d_Vh_ahead_51 ?_
      refine mx_getR d_Vh_ahead_52 fl_Vh_55 (by assumption) (by assumption) ?_
      refine mx_getR d_Vh_ahead_55 fl_Vh_181 (by assumption) (by assumption) ?_
      refine mx_il1 d_Vh_ahead_58 ?_
      refine mx_cS2i d_Vh_ahead_59 (c_get (k := h) (by assumption) (by omega) (by omega)) ok_Vh_get ml_Vh_171 (by decide) (Nat.le_of_ble_eq_true rfl) ?_
      exact mx_iret d_Vh_ahead_62 rfl (mx_pkR_i (by have e2 := hK1.2.1.2.2.2.2.2.2.2.1 h (by omega); have e3 := hK1.2.1.2.2.2.2.2.2.2.2.1 h (by omega); have v0 : vs_isN (nI 0) 2 = true := (by decide); have v2 : vs_isN 0 2 = true := (by decide); have v1 : vs_isN (nI 1) 2 = true := (by decide); have u0 : (nI 0).toNatClampNeg = 0 := (by decide); have u1 : (nI 1).toNatClampNeg = 1 := (by decide); unfold sp_ahead w_ah; simp [*]) hK1.1)
    · skip
      exact mx_throwQW (i := 41) htr rfl rfl rfl d_Vh_ahead_21 d_Vh_ahead_24 d_Vh_ahead_25 d_Vh_ahead_28 d_Vh_ahead_31 (by decide) (by decide) (by decide) (Nat.le_of_ble_eq_true rfl) (fun t9 ht => mx_pkR_x ht 2 (by have hu2 : vs_isN u 2 = false := vs_isNO (n := 1) (by omega) (fun j hj => by rcases (by omega : j = 0 ∨ j = 1) with rfl | rfl <;> assumption); simp [sp_ahead, hu2, *]) rfl)
theorem c_Vh_trial (htr : l.stackTraces = false) (hV : vh_ok S P x) (hSt : st_ok S P (x + 23)) (hSr : st_rel I (x + 23) m) (hTr : st_ok S P (x + 38)) (hla : P (x + 23) 2 = some la) (hLw : la_is S P I la D) (hd : la + 6 ≤ x + 23 ∨ x + 292 ≤ la) (hlr : ∃ N z, lo_rel I (x + 23 + 9) m N z) (hw : wi m H G) (hH8 : H ≤ 8) (hG8 : G ≤ 8) {v : Int32} {b : Bool} : mx_C l E M_Vh_trial 8 1 6 [.ref (x), .int (v), .int (bI (b))] (t, S, I, P, J) (mx_pkR (fun _ => "java/lang/IllegalArgumentException") (sp_trial D m H v b) (t, S, I, P, J) t S (mx_upP P (x + 38) 2 (some la)) J (fun K => mx_off (wz (x + 38) la) I K)) := by
  obtain ⟨hV0, hVp0, hVp1, hVp2, hVp3, hVp4, hVp5, hVp7, hVp8, hVp9, hVp10, hVp11, hVp12, hVs15, hVs16, hVs68⟩ := id hV
  obtain ⟨hC0, hC1, hC2, hC3, hC4, hC5, hC6, hD1, hD2, hD3, hD4, hPe, hLo⟩ := id hSt
  obtain ⟨hPr, u0, u1, u2, u3, u4, u5, u6, u7, u8⟩ := id hSr
  obtain ⟨hA0, hA1, hA2, hA3, hA4, hA5, hA6, hA7, hB1, hB2, hB3, hB4, hB5, hB6, hB7⟩ := id hPe
  obtain ⟨r0, r1, r2, r3, r4, r5, r6, r7, r8⟩ := id hPr
  have hTr0 := hTr.1
  refine mx_C_of (ls0 := [some (.ref (x)), some (.int (v)), some (.int (bI (b)))]) (by decide +kernel) rfl rfl (Nat.le_of_ble_eq_true rfl) rfl ?_
  refine mx_il1 d_Vh_trial_0 ?_
  refine mx_in_0 d_Vh_trial_1 ?_
  refine mx_bip 60 d_Vh_trial_2 (by decide) ?_
  refine mx_nS3 d_Vh_trial_4 (c_needNumber htr) ok_Vh_needNumber ml_Vh_269 rfl (by decide) (by decide) (by decide) (Nat.le_of_ble_eq_true rfl) (fun hb4 t9 ht => mx_pkR_x ht 0 (by have hnO := vs_nn0 (n := 60) (by omega) hb4; simp_all [sp_trial]) rfl) (fun hb4 => ?_)
  have hnv : vs_isN v 61 = true := by rw [← vs_isN_le2 (n := 60) (by omega)]; exact hb4
  obtain ⟨n, hnL, rfl⟩ := vs_isN_of (by omega) hnv
  have hnc : (nI n).toNatClampNeg = n := nI_clamp (by omega)
  refine mx_al0 d_Vh_trial_7 ?_
  refine mx_il1 d_Vh_trial_8 ?_
  refine mx_al0 d_Vh_trial_9 ?_
  refine mx_getR d_Vh_trial_10 fl_Vh_51 (by assumption) (by assumption) ?_
  refine mx_getI d_Vh_trial_13 fl_Vh_426 (by assumption) ?_
  refine mx_ti (y := (m 10)) (hSr.2.2.2.2.2.2.1) ?_
  refine mx_cV2vR d_Vh_trial_16 (c_Vh_tryWeeks hV hSt hSr hTr hla hLw hd hlr hw hH8 hG8 (n := n) (by omega) (v := (m 10))) ok_Vh_tryWeeks ml_Vh_429 (by assumption) ⟨rfl, rfl⟩ (by decide) (Nat.le_of_ble_eq_true rfl) (fun K1 hK1 => ?_)
  obtain ⟨hV2, hT1, hT2, hl1, hl2, hLw2, hWS0, hoff0⟩ := tk_all hV hSt hSr hTr hla hLw hd hlr
  obtain ⟨-, hZp0, hZp1, hZp2, hZp3, hZp4, hZp5, hZp7, hZp8, hZp9, hZp10, hZp11, hZp12, -, -, -⟩ := id hV2
  have hT20 := hT2.1
  have hT10 := hT1.1
  have hd3 : la + 6 ≤ x + 38 ∨ x + 38 + 15 ≤ la := by omega
  obtain ⟨hC0, hC1, hC2, hC3, hC4, hC5, hC6, hD1, hD2, hD3, hD4, hPe, hLo⟩ := id hT2
  rw [updI_id] at hK1
  refine mx_il2 d_Vh_trial_19 ?_
  refine mx_ifB_eq 33 d_Vh_trial_20 (by decide) (fun c_20 => ?_) (fun c_20 => ?_)
  · skip
    refine mx_al0 d_Vh_trial_33 ?_
    refine mx_getR d_Vh_trial_34 fl_Vh_55 (by assumption) (by assumption) ?_
    refine mx_cV0i d_Vh_trial_37 (c_St_gladnessOfAll hT2 hK1.2.1.1 (wi_ws (z := (m, nI 0, 0)) hw hH8).1 hH8) ok_St_gladnessOfAll ml_Vh_421 (by assumption) ⟨rfl, rfl⟩ (by decide) (Nat.le_of_ble_eq_true rfl) ?_
    exact mx_iret d_Vh_trial_40 rfl (mx_pkR_i (by simp [sp_trial, w_ah, *]) hK1.1)
  · skip
    refine mx_al0 d_Vh_trial_23 ?_
    refine mx_getR d_Vh_trial_24 fl_Vh_55 (by assumption) (by assumption) ?_
    refine mx_getI d_Vh_trial_27 fl_Vh_415 (by assumption) ?_
    refine mx_ti (y := (w_ws D true H n (m, nI 0, 0)).2.1) (hK1.2.2) ?_
    refine mx_goto 40 d_Vh_trial_30 (by decide) ?_
    exact mx_iret d_Vh_trial_40 rfl (mx_pkR_i (by simp [sp_trial, w_ah, *]) hK1.1)
theorem sn_hi {s g : Int32} (h : g ≤ s) : (if s ≤ g then g else s) = s := by
  by_cases q : s ≤ g
  · rw [if_pos q]; exact Int32.le_antisymm h q
  · rw [if_neg q]
theorem sn_hl {s g : Int32} (h : ¬ g ≤ s) : (if s ≤ g then g else s) = g := if_pos (Int32.le_of_lt (Int32.not_le.mp h))
theorem sn_lo {s g : Int32} (h : s ≤ g) : (if g ≤ s then g else s) = s := by
  by_cases q : g ≤ s
  · rw [if_pos q]; exact Int32.le_antisymm q h
  · rw [if_neg q]
theorem sn_ll {s g : Int32} (h : ¬ s ≤ g) : (if g ≤ s then g else s) = g := if_pos (Int32.le_of_lt (Int32.not_le.mp h))
theorem pp_all {PP : mx_P} (hPP : PP = P ∨ PP = mx_upP P (x + 38) 2 (some la)) (hV : vh_ok S P x) (hSt : st_ok S P (x + 23)) (hTr : st_ok S P (x + 38)) (hla : P (x + 23) 2 = some la) (hLw : la_is S P I la D) (hd : la + 6 ≤ x + 23 ∨ x + 292 ≤ la) : vh_ok S PP x ∧ st_ok S PP (x + 23) ∧ st_ok S PP (x + 38) ∧ PP (x + 23) 2 = some la ∧ la_is S PP I la D ∧ mx_upP PP (x + 38) 2 (some la) = mx_upP P (x + 38) 2 (some la) := by
  rcases hPP with rfl | rfl
  · exact ⟨hV, hSt, hTr, hla, hLw, rfl⟩
  · refine ⟨hV.up (by omega), st_ok_law hSt (by omega), st_ok_law hTr (by omega), by rw [mx_upP_ne (by omega)]; exact hla, hLw.up (by omega), ?_⟩
    funext c k; unfold mx_upP; split <;> simp [*]
theorem lr_o {K : mx_I} (hd : la + 6 ≤ x + 23 ∨ x + 292 ≤ la) (h : mx_off (wz (x + 38) la) I K) (hlr : ∃ N z, lo_rel I (x + 23 + 9) m N z) : ∃ N z, lo_rel K (x + 23 + 9) m N z := by
  obtain ⟨N, z, q⟩ := hlr
  exact ⟨N, z, q.congr (fun c h1 h2 => wz_o hd h c (by omega) (by omega))⟩
theorem vs_in1 {v : Int32} (h : (decide (nI 1 ≤ v) && decide (v ≤ nI 60)) = true) : vs_isN v 61 = true := by
  rw [Bool.and_eq_true, decide_eq_true_iff, decide_eq_true_iff] at h
  rw [← vs_isN_le2 (n := 60) (by omega), Bool.and_eq_true, decide_eq_true_iff, decide_eq_true_iff]
  exact ⟨Int32.le_trans (by decide) h.1, h.2⟩
theorem c_Vh_span (htr : l.stackTraces = false) (hV : vh_ok S P x) (hSt : st_ok S P (x + 23)) (hSr : st_rel I (x + 23) m) (hTr : st_ok S P (x + 38)) (hla : P (x + 23) 2 = some la) (hLw : la_is S P I la D) (hd : la + 6 ≤ x + 23 ∨ x + 292 ≤ la) (hlr : ∃ N z, lo_rel I (x + 23 + 9) m N z) (hw : wi m H G) (hH8 : H ≤ 8) (hG8 : G ≤ 8) {v : Int32} {b : Bool} : mx_C l E M_Vh_span 8 1 6 [.ref (x), .int (v), .int (bI (b))] (t, S, I, P, J) (mx_pkR (fun _ => "java/lang/IllegalArgumentException") (sp_span D m H v b) (t, S, I, P, J) t S (mx_upP P (x + 38) 2 (some la)) J (fun K => mx_off (wz (x + 38) la) I K)) := by
  obtain ⟨hV0, hVp0, hVp1, hVp2, hVp3, hVp4, hVp5, hVp7, hVp8, hVp9, hVp10, hVp11, hVp12, hVs15, hVs16, hVs68⟩ := id hV
  obtain ⟨hC0, hC1, hC2, hC3, hC4, hC5, hC6, hD1, hD2, hD3, hD4, hPe, hLo⟩ := id hSt
  obtain ⟨hPr, u0, u1, u2, u3, u4, u5, u6, u7, u8⟩ := id hSr
  obtain ⟨hA0, hA1, hA2, hA3, hA4, hA5, hA6, hA7, hB1, hB2, hB3, hB4, hB5, hB6, hB7⟩ := id hPe
  obtain ⟨r0, r1, r2, r3, r4, r5, r6, r7, r8⟩ := id hPr
  have hTr0 := hTr.1
  refine mx_C_of (ls0 := [some (.ref (x)), some (.int (v)), some (.int (bI (b))), none, none, none]) (by decide +kernel) rfl rfl (Nat.le_of_ble_eq_true rfl) rfl ?_
  refine mx_il1 d_Vh_span_0 ?_
  refine mx_in_0 d_Vh_span_1 ?_
  refine mx_bip 60 d_Vh_span_2 (by decide) ?_
  refine mx_nS3 d_Vh_span_4 (c_needNumber htr) ok_Vh_needNumber ml_Vh_269 rfl (by decide) (by decide) (by decide) (Nat.le_of_ble_eq_true rfl) (fun hb4 t9 ht => mx_pkR_x ht 0 (by have hnO := vs_nn0 (n := 60) (by omega) hb4; simp_all [sp_span]) rfl) (fun hb4 => ?_)
  have hnv : vs_isN v 61 = true := by rw [← vs_isN_le2 (n := 60) (by omega)]; exact hb4
  obtain ⟨n, hnL, rfl⟩ := vs_isN_of (by omega) hnv
  have hnc : (nI n).toNatClampNeg = n := nI_clamp (by omega)
  obtain ⟨hV2, hT1, hT2, hl1, hl2, hLw2, hWS0, hoff0⟩ := tk_all hV hSt hSr hTr hla hLw hd hlr
  obtain ⟨-, hZp0, hZp1, hZp2, hZp3, hZp4, hZp5, hZp7, hZp8, hZp9, hZp10, hZp11, hZp12, -, -, -⟩ := id hV2
  have hT20 := hT2.1
  have hT10 := hT1.1
  have hd3 : la + 6 ≤ x + 38 ∨ x + 38 + 15 ≤ la := by omega
  obtain ⟨hC0, hC1, hC2, hC3, hC4, hC5, hC6, hD1, hD2, hD3, hD4, hPe, hLo⟩ := id hT2
  refine mx_ic_m1 d_Vh_span_7 ?_
  refine mx_is3 d_Vh_span_8 ?_
  refine mx_in_1 d_Vh_span_9 ?_
  refine mx_is4 d_Vh_span_10 ?_
  refine mx_loopX (α := (mx_I × mx_P)) (N := 6) (a0 := (I, P)) (fun k z9 => mx_off (wz (x + 38) la) I z9.1 ∧ z9.2 = (if k = 0 then P else (mx_upP P (x + 38) 2 (some la)))) (ls := fun k z9 => [some (.ref (x)), some (.int (nI (n))), some (.int (bI (b))), some (.int ((sn_fn D m H n b k))), some (.int (nI (k + 1))), none]) (X := fun k z9 => (t, S, z9.1, z9.2, J)) (⟨mx_off.rf, rfl⟩) (fun k hk z9 hinv ih => ?_) (fun z9 hinv => ?_)
  · skip
    obtain ⟨K, PP⟩ := z9
    try dsimp only at hinv ih ⊢
    obtain ⟨hVP, hSP, hTP, hlP, hLP, hPE⟩ := pp_all (I := I) (la := la) (PP := PP) (by rw [hinv.2]; by_cases q : k = 0; exact Or.inl (if_pos q); exact Or.inr (if_neg q)) hV hSt hTr hla hLw hd
    obtain ⟨-, hYp0, hYp1, hYp2, hYp3, hYp4, hYp5, hYp7, hYp8, hYp9, hYp10, hYp11, hYp12, -, -, -⟩ := id hVP
    have hTW := c_Vh_tryWeeks (l := l) (E := E) (t := t) (J := J) hVP hSP (hSr.cg (fun c h1 h2 => wz_o hd hinv.1 c h1 (by omega))) hTP hlP (wz_la (s := x + 38) (by omega) hinv.1 hLP) hd (lr_o hd hinv.1 hlr) hw hH8 hG8 (n := n) (by omega) (v := nI (k + 1))
    rw [hPE] at hTW
    refine mx_il4 d_Vh_span_12 ?_
    refine mx_bip 6 d_Vh_span_14 (by decide) ?_
    refine mx_icN_gt 68 d_Vh_span_16 (by decide) (by omega) (by omega) (fun c_16 => absurd c_16 (by omega)) (fun c_16 => ?_)
    refine mx_al0 d_Vh_span_19 ?_
    refine mx_il1 d_Vh_span_20 ?_
    refine mx_il4 d_Vh_span_21 ?_
    refine mx_cV2vR d_Vh_span_23 (hTW) ok_Vh_tryWeeks ml_Vh_429 (by assumption) ⟨rfl, rfl⟩ (by decide) (Nat.le_of_ble_eq_true rfl) (fun K1 hK1 => ?_)
    refine mx_al0 d_Vh_span_26 ?_
    refine mx_getR d_Vh_span_27 fl_Vh_55 (by assumption) (by assumption) ?_
    refine mx_cV0i d_Vh_span_30 (c_St_gladnessOfAll hT2 hK1.2.1.1 (wi_ws (z := ((updI m 10 (nI (k + 1))), nI 0, 0)) (wi_sd hw) hH8).1 hH8) ok_St_gladnessOfAll ml_Vh_421 (by assumption) ⟨rfl, rfl⟩ (by decide) (Nat.le_of_ble_eq_true rfl) ?_
    refine mx_is5 d_Vh_span_33 ?_
    refine mx_il3 d_Vh_span_35 ?_
    refine mx_ic_m1 d_Vh_span_36 ?_
    refine mx_icmp_eq 59 d_Vh_span_37 (by decide) (fun c_37 => ?_) (fun c_37 => ?_)
    · skip
      refine mx_il5 d_Vh_span_59 ?_
      refine mx_is3 d_Vh_span_61 ?_
      refine mx_iN4 d_Vh_span_62 ?_
      refine mx_goto 12 d_Vh_span_65 (by decide) ?_
      refine mx_dn5 ?_
      have e3 : (sn_g D m H n k) = (sn_fn D m H n b (k + 1)) := by rw [sn_fn_s]; first | (rw [if_pos c_37]; done) | (rw [if_neg c_37, if_pos c_41, sn_hi (s := sn_fn D m H n b k) (g := sn_g D m H n k) c_47]; done) | (rw [if_neg c_37, if_pos c_41, sn_hl (s := sn_fn D m H n b k) (g := sn_g D m H n k) c_47]; done) | (rw [if_neg c_37, if_neg (by rw [c_41]; decide), sn_lo (s := sn_fn D m H n b k) (g := sn_g D m H n k) c_56]; done) | (rw [if_neg c_37, if_neg (by rw [c_41]; decide), sn_ll (s := sn_fn D m H n b k) (g := sn_g D m H n k) c_56]; done)
      refine mx_lsc (congrArg (fun z9 => ([some (.ref (x)), some (.int (nI (n))), some (.int (bI (b))), some (.int (z9)), some (.int (nI (k + 1 + 1))), none] : List (Option Value))) e3) ?_
      have e4 : nI (k + 1 + 1) = nI ((k + 1) + 1) := by rfl
      refine mx_lsc (congrArg (fun z9 => ([some (.ref (x)), some (.int (nI (n))), some (.int (bI (b))), some (.int ((sn_fn D m H n b (k + 1)))), some (.int (z9)), none] : List (Option Value))) e4) ?_
      exact ih (K1, (mx_upP P (x + 38) 2 (some la))) (⟨hinv.1.tr hK1.1, (if_neg (by omega)).symm⟩)
    · skip
      refine mx_il2 d_Vh_span_40 ?_
      refine mx_ifB_eq 53 d_Vh_span_41 (by decide) (fun c_41 => ?_) (fun c_41 => ?_)
      · skip
        refine mx_il5 d_Vh_span_53 ?_
        refine mx_il3 d_Vh_span_55 ?_
        refine mx_icmp_ge 62 d_Vh_span_56 (by decide) (fun c_56 => ?_) (fun c_56 => ?_)
        · skip
          refine mx_iN4 d_Vh_span_62 ?_
          refine mx_goto 12 d_Vh_span_65 (by decide) ?_
          refine mx_dn5 ?_
          have e3 : (sn_fn D m H n b k) = (sn_fn D m H n b (k + 1)) := by rw [sn_fn_s]; first | (rw [if_pos c_37]; done) | (rw [if_neg c_37, if_pos c_41, sn_hi (s := sn_fn D m H n b k) (g := sn_g D m H n k) c_47]; done) | (rw [if_neg c_37, if_pos c_41, sn_hl (s := sn_fn D m H n b k) (g := sn_g D m H n k) c_47]; done) | (rw [if_neg c_37, if_neg (by rw [c_41]; decide), sn_lo (s := sn_fn D m H n b k) (g := sn_g D m H n k) c_56]; done) | (rw [if_neg c_37, if_neg (by rw [c_41]; decide), sn_ll (s := sn_fn D m H n b k) (g := sn_g D m H n k) c_56]; done)
          refine mx_lsc (congrArg (fun z9 => ([some (.ref (x)), some (.int (nI (n))), some (.int (bI (b))), some (.int (z9)), some (.int (nI (k + 1 + 1))), none] : List (Option Value))) e3) ?_
          have e4 : nI (k + 1 + 1) = nI ((k + 1) + 1) := by rfl
          refine mx_lsc (congrArg (fun z9 => ([some (.ref (x)), some (.int (nI (n))), some (.int (bI (b))), some (.int ((sn_fn D m H n b (k + 1)))), some (.int (z9)), none] : List (Option Value))) e4) ?_
          exact ih (K1, (mx_upP P (x + 38) 2 (some la))) (⟨hinv.1.tr hK1.1, (if_neg (by omega)).symm⟩)
        · skip
          refine mx_il5 d_Vh_span_59 ?_
          refine mx_is3 d_Vh_span_61 ?_
          refine mx_iN4 d_Vh_span_62 ?_
          refine mx_goto 12 d_Vh_span_65 (by decide) ?_
          refine mx_dn5 ?_
          have e3 : (sn_g D m H n k) = (sn_fn D m H n b (k + 1)) := by rw [sn_fn_s]; first | (rw [if_pos c_37]; done) | (rw [if_neg c_37, if_pos c_41, sn_hi (s := sn_fn D m H n b k) (g := sn_g D m H n k) c_47]; done) | (rw [if_neg c_37, if_pos c_41, sn_hl (s := sn_fn D m H n b k) (g := sn_g D m H n k) c_47]; done) | (rw [if_neg c_37, if_neg (by rw [c_41]; decide), sn_lo (s := sn_fn D m H n b k) (g := sn_g D m H n k) c_56]; done) | (rw [if_neg c_37, if_neg (by rw [c_41]; decide), sn_ll (s := sn_fn D m H n b k) (g := sn_g D m H n k) c_56]; done)
          refine mx_lsc (congrArg (fun z9 => ([some (.ref (x)), some (.int (nI (n))), some (.int (bI (b))), some (.int (z9)), some (.int (nI (k + 1 + 1))), none] : List (Option Value))) e3) ?_
          have e4 : nI (k + 1 + 1) = nI ((k + 1) + 1) := by rfl
          refine mx_lsc (congrArg (fun z9 => ([some (.ref (x)), some (.int (nI (n))), some (.int (bI (b))), some (.int ((sn_fn D m H n b (k + 1)))), some (.int (z9)), none] : List (Option Value))) e4) ?_
          exact ih (K1, (mx_upP P (x + 38) 2 (some la))) (⟨hinv.1.tr hK1.1, (if_neg (by omega)).symm⟩)
      · skip
        refine mx_il5 d_Vh_span_44 ?_
        refine mx_il3 d_Vh_span_46 ?_
        refine mx_icmp_le 62 d_Vh_span_47 (by decide) (fun c_47 => ?_) (fun c_47 => ?_)
        · skip
          refine mx_iN4 d_Vh_span_62 ?_
          refine mx_goto 12 d_Vh_span_65 (by decide) ?_
          refine mx_dn5 ?_
          have e3 : (sn_fn D m H n b k) = (sn_fn D m H n b (k + 1)) := by rw [sn_fn_s]; first | (rw [if_pos c_37]; done) | (rw [if_neg c_37, if_pos c_41, sn_hi (s := sn_fn D m H n b k) (g := sn_g D m H n k) c_47]; done) | (rw [if_neg c_37, if_pos c_41, sn_hl (s := sn_fn D m H n b k) (g := sn_g D m H n k) c_47]; done) | (rw [if_neg c_37, if_neg (by rw [c_41]; decide), sn_lo (s := sn_fn D m H n b k) (g := sn_g D m H n k) c_56]; done) | (rw [if_neg c_37, if_neg (by rw [c_41]; decide), sn_ll (s := sn_fn D m H n b k) (g := sn_g D m H n k) c_56]; done)
          refine mx_lsc (congrArg (fun z9 => ([some (.ref (x)), some (.int (nI (n))), some (.int (bI (b))), some (.int (z9)), some (.int (nI (k + 1 + 1))), none] : List (Option Value))) e3) ?_
          have e4 : nI (k + 1 + 1) = nI ((k + 1) + 1) := by rfl
          refine mx_lsc (congrArg (fun z9 => ([some (.ref (x)), some (.int (nI (n))), some (.int (bI (b))), some (.int ((sn_fn D m H n b (k + 1)))), some (.int (z9)), none] : List (Option Value))) e4) ?_
          exact ih (K1, (mx_upP P (x + 38) 2 (some la))) (⟨hinv.1.tr hK1.1, (if_neg (by omega)).symm⟩)
        · skip
          refine mx_goto 59 d_Vh_span_50 (by decide) ?_
          refine mx_il5 d_Vh_span_59 ?_
          refine mx_is3 d_Vh_span_61 ?_
          refine mx_iN4 d_Vh_span_62 ?_
          refine mx_goto 12 d_Vh_span_65 (by decide) ?_
          refine mx_dn5 ?_
          have e3 : (sn_g D m H n k) = (sn_fn D m H n b (k + 1)) := by rw [sn_fn_s]; first | (rw [if_pos c_37]; done) | (rw [if_neg c_37, if_pos c_41, sn_hi (s := sn_fn D m H n b k) (g := sn_g D m H n k) c_47]; done) | (rw [if_neg c_37, if_pos c_41, sn_hl (s := sn_fn D m H n b k) (g := sn_g D m H n k) c_47]; done) | (rw [if_neg c_37, if_neg (by rw [c_41]; decide), sn_lo (s := sn_fn D m H n b k) (g := sn_g D m H n k) c_56]; done) | (rw [if_neg c_37, if_neg (by rw [c_41]; decide), sn_ll (s := sn_fn D m H n b k) (g := sn_g D m H n k) c_56]; done)
          refine mx_lsc (congrArg (fun z9 => ([some (.ref (x)), some (.int (nI (n))), some (.int (bI (b))), some (.int (z9)), some (.int (nI (k + 1 + 1))), none] : List (Option Value))) e3) ?_
          have e4 : nI (k + 1 + 1) = nI ((k + 1) + 1) := by rfl
          refine mx_lsc (congrArg (fun z9 => ([some (.ref (x)), some (.int (nI (n))), some (.int (bI (b))), some (.int ((sn_fn D m H n b (k + 1)))), some (.int (z9)), none] : List (Option Value))) e4) ?_
          exact ih (K1, (mx_upP P (x + 38) 2 (some la))) (⟨hinv.1.tr hK1.1, (if_neg (by omega)).symm⟩)
  · skip
    obtain ⟨K, PP⟩ := z9
    try dsimp only at hinv ⊢
    have hPP : PP = (mx_upP P (x + 38) 2 (some la)) := hinv.2.trans (if_neg (by decide))
    subst hPP
    refine mx_il4 d_Vh_span_12 ?_
    refine mx_bip 6 d_Vh_span_14 (by decide) ?_
    refine mx_icN_gt 68 d_Vh_span_16 (by decide) (by omega) (by omega) (fun c_16 => ?_) (fun c_16 => absurd c_16 (by omega))
    refine mx_il3 d_Vh_span_68 ?_
    exact mx_iret d_Vh_span_69 rfl (mx_pkR_i (by simp [sp_span, *]) hinv.1)
theorem c_Vh_weeks (htr : l.stackTraces = false) (hV : vh_ok S P x) (hSt : st_ok S P (x + 23)) (hSr : st_rel I (x + 23) m) (hPt : pt_ok S P (x + 68)) (hla : P (x + 23) 2 = some la) (hz1 : I (x + 68) 2 = nI z) (hz : z < 12) (hA : I (x + 68) 1 = nI A) (hA12 : A ≤ 12) (hLw : la_is S P I la D) (hd : la + 6 ≤ x + 23 ∨ x + 292 ≤ la) (hlr : ∃ N z, lo_rel I (x + 23 + 9) m N z) (hw : wi m H G) (hH8 : H ≤ 8) (hG8 : G ≤ 8) {v : Int32} : mx_C l E M_Vh_weeks 7 1 6 [.ref (x), .int (v)] (t, S, I, P, J) (mx_pkR (fun _ => "java/lang/IllegalArgumentException") (sp_weeks D m H v) (t, S, I, P, J) t S (mx_upP P (x + 68 + 2 + 15 * z) 2 (some la)) J (fun K => mx_off (wz (x + 23) la) (vs_keep I (x + 68) (x + 23) z A) K ∧ WS K (x + 23) (w_ah D true H m v).1)) := by
  obtain ⟨hV0, hVp0, hVp1, hVp2, hVp3, hVp4, hVp5, hVp7, hVp8, hVp9, hVp10, hVp11, hVp12, hVs15, hVs16, hVs68⟩ := id hV
  obtain ⟨hC0, hC1, hC2, hC3, hC4, hC5, hC6, hD1, hD2, hD3, hD4, hPe, hLo⟩ := id hSt
  obtain ⟨hPr, u0, u1, u2, u3, u4, u5, u6, u7, u8⟩ := id hSr
  obtain ⟨hA0, hA1, hA2, hA3, hA4, hA5, hA6, hA7, hB1, hB2, hB3, hB4, hB5, hB6, hB7⟩ := id hPe
  obtain ⟨r0, r1, r2, r3, r4, r5, r6, r7, r8⟩ := id hPr
  have hW3 : (mx_upP P (x + 68 + 2 + 15 * z) 2 (some la)) x 3 = some (x + 23) := by rw [mx_upP_ne (by omega)]; exact hVp3
  have hSt9 : st_ok S (mx_upP P (x + 68 + 2 + 15 * z) 2 (some la)) (x + 23) := hSt.congrP (fun c h1 h2 => mx_upP_ne (by omega))
  have hK : ∀ c, c < x + 68 ∨ x + 250 ≤ c → (vs_keep I (x + 68) (x + 23) z A) c = I c := fun c hc => vs_keep_o hz (by omega)
  have hSr9 : st_rel (vs_keep I (x + 68) (x + 23) z A) (x + 23) m := hSr.congr (fun c h1 h2 => hK c (by omega))
  have hl9 : (mx_upP P (x + 68 + 2 + 15 * z) 2 (some la)) (x + 23) 2 = some la := by rw [mx_upP_ne (by omega)]; exact hla
  have hL9 : la_is S (mx_upP P (x + 68 + 2 + 15 * z) 2 (some la)) (vs_keep I (x + 68) (x + 23) z A) la D := (show la_is S P (vs_keep I (x + 68) (x + 23) z A) la D from ⟨hLw.1, hLw.2.1.congr (fun c h1 h2 => hK c (by omega)), hLw.2.2⟩).up (by omega)
  have hlr9 : ∃ N1 z1, lo_rel (vs_keep I (x + 68) (x + 23) z A) (x + 23 + 9) m N1 z1 := by obtain ⟨N1, z1, q⟩ := hlr; exact ⟨N1, z1, q.congr (fun c h1 h2 => hK c (by omega))⟩
  have hd9 : la + 6 ≤ x + 23 ∨ x + 23 + 15 ≤ la := by omega
  have hPt0 := hPt.1
  refine mx_C_of (ls0 := [some (.ref (x)), some (.int (v)), none, none]) (by decide +kernel) rfl rfl (Nat.le_of_ble_eq_true rfl) rfl ?_
  refine mx_il1 d_Vh_weeks_0 ?_
  refine mx_in_1 d_Vh_weeks_1 ?_
  refine mx_bip 60 d_Vh_weeks_2 (by decide) ?_
  refine mx_nS3 d_Vh_weeks_4 (c_needNumber htr) ok_Vh_needNumber ml_Vh_269 rfl (by decide) (by decide) (by decide) (Nat.le_of_ble_eq_true rfl) (fun hb4 t9 ht => mx_pkR_x ht 0 (by unfold sp_weeks; rw [if_neg (by rw [hb4]; decide)]) rfl) (fun hb4 => ?_)
  have hnv := vs_in1 hb4
  obtain ⟨n, hnL, rfl⟩ := vs_isN_of (by omega) hnv
  have hnc : (nI n).toNatClampNeg = n := nI_clamp (by omega)
  refine mx_al0 d_Vh_weeks_7 ?_
  refine mx_getR d_Vh_weeks_8 fl_Vh_64 (by assumption) (by assumption) ?_
  refine mx_al0 d_Vh_weeks_11 ?_
  refine mx_getR d_Vh_weeks_12 fl_Vh_51 (by assumption) (by assumption) ?_
  refine mx_cV1v d_Vh_weeks_15 (c_keep hPt hSt hla hz1 hz hA hA12) ok_Pt_keep ml_Vh_257 (by assumption) ⟨rfl, rfl⟩ (by decide) (Nat.le_of_ble_eq_true rfl) ?_
  refine mx_in_0 d_Vh_weeks_18 ?_
  refine mx_is2 d_Vh_weeks_19 ?_
  refine mx_in_0 d_Vh_weeks_20 ?_
  refine mx_is3 d_Vh_weeks_21 ?_
  refine mx_loopX (α := (mx_I)) (N := n) (a0 := (vs_keep I (x + 68) (x + 23) z A)) (fun j z9 => mx_off (wz (x + 23) la) (vs_keep I (x + 68) (x + 23) z A) z9 ∧ WS z9 (x + 23) (w_ws D true H j (m, nI 0, 0)).1 ∧ True) (ls := fun j z9 => [some (.ref (x)), some (.int (nI (n))), some (.int (nI ((w_ws D true H j (m, nI 0, 0)).2.2))), some (.int (nI (j)))]) (X := fun j z9 => (t, S, z9, (mx_upP P (x + 68 + 2 + 15 * z) 2 (some la)), J)) (⟨mx_off.rf, ⟨hSr9, hlr9⟩, trivial⟩) (fun j hj z9 hinv ih => ?_) (fun z9 hinv => ?_)
  · skip
    obtain ⟨K, hz9⟩ : ∃ q, q = z9 := ⟨_, rfl⟩
    subst hz9
    try dsimp only at hinv ih ⊢
    have hwj : wi (w_ws D true H j (m, nI 0, 0)).1 H G := wi_ws (z := (m, nI 0, 0)) hw hH8
    refine mx_il3 d_Vh_weeks_22 ?_
    refine mx_il1 d_Vh_weeks_23 ?_
    refine mx_icN_ge 44 d_Vh_weeks_24 (by decide) (by omega) (by omega) (fun c_24 => absurd c_24 (by omega)) (fun c_24 => ?_)
    refine mx_il2 d_Vh_weeks_27 ?_
    refine mx_al0 d_Vh_weeks_28 ?_
    refine mx_getR d_Vh_weeks_29 fl_Vh_51 (by assumption) (by assumption) ?_
    refine mx_in_1 d_Vh_weeks_32 ?_
    refine mx_cV1iR d_Vh_weeks_33 (c_St_passWeek hSt9 hinv.2.1.1 hl9 (wz_la hd9 hinv.1 hL9) hd9 hinv.2.1.2 hwj hH8 hG8 (b := true)) ok_St_passWeek ml_Vh_286 (by assumption) ⟨rfl, rfl⟩ (by decide) (Nat.le_of_ble_eq_true rfl) (fun K2 hK2 => ?_)
    refine mx_iaddN d_Vh_weeks_36 ?_
    refine mx_is2 d_Vh_weeks_37 ?_
    refine mx_iN3 d_Vh_weeks_38 ?_
    refine mx_goto 22 d_Vh_weeks_41 (by decide) ?_
    have e2 : nI ((w_ws D true H j (m, nI 0, 0)).2.2 + ((w_met D true H (w_ws D true H j (m, nI 0, 0)).1))) = nI ((w_ws D true H (j + 1) (m, nI 0, 0)).2.2) := by rw [w_ws_s]
    refine mx_lsc (congrArg (fun z9 => ([some (.ref (x)), some (.int (nI (n))), some (.int (z9)), some (.int (nI (j + 1)))] : List (Option Value))) e2) ?_
    exact ih K2 (⟨hinv.1.tr hK2.1, by rw [w_ws_s]; dsimp only; rw [w_wk_1 (v' := K (x + 23) 9)]; exact hK2.2.1, trivial⟩)
  · skip
    obtain ⟨K, hz9⟩ : ∃ q, q = z9 := ⟨_, rfl⟩
    subst hz9
    try dsimp only at hinv ⊢
    refine mx_il3 d_Vh_weeks_22 ?_
    refine mx_il1 d_Vh_weeks_23 ?_
    refine mx_icN_ge 44 d_Vh_weeks_24 (by decide) (by omega) (by omega) (fun c_24 => ?_) (fun c_24 => absurd c_24 (by omega))
    refine mx_il2 d_Vh_weeks_44 ?_
    exact mx_iret d_Vh_weeks_45 rfl (mx_pkR_i (by unfold sp_weeks w_ah; rw [if_pos hb4, hnc]) ⟨hinv.1, by unfold w_ah; rw [hnc]; exact hinv.2.1⟩)
end AI43
