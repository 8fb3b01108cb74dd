/-! THE FEWEST HOURS THAT MUST STAY DRY -/
theorem vs_mq_b {D : lwD} {m : Nat → Int32} {h i : Nat} (hi : i < 32) : ∀ n, n ≤ 8 → bt (vs_mq D m h n) i = (decide (i < n) && vs_mt D m h i)
  | 0, _ => by rw [show vs_mq D m h 0 = 0 from rfl, vs_bit0 hi]; simp
  | n + 1, hn => by
    have ih := vs_mq_b (D := D) (m := m) (h := h) hi n (by omega)
    rw [vs_mq_s]
    split
    · rename_i q
      rw [b_or, ih, vs_1b (by omega) hi]
      by_cases e : i = n
      · subst e; rw [q]; simp
      · rw [decide_eq_false e, Bool.or_false]
        congr 1
        exact decide_eq_decide.mpr (by omega)
    · rename_i q
      rw [ih]
      by_cases e : i = n
      · subst e; rw [Bool.not_eq_true] at q; rw [q]; simp
      · congr 1
        exact decide_eq_decide.mpr (by omega)
theorem bt_255 : ∀ i, i < 32 → bt (nI 255) i = decide (i < 8) := by decide +kernel
theorem vs_mq_255 {D : lwD} {m : Nat → Int32} {h : Nat} : vs_mq D m h 8 &&& nI 255 = vs_mq D m h 8 := b_ext (fun i hi => by
  rw [b_and, vs_mq_b hi 8 (by omega), bt_255 i hi]
  by_cases e : i < 8 <;> simp [e])
/-- what each host wants -/
def dr_w (D : lwD) (m : Nat → Int32) (H h : Nat) : Int32 := if h < H then vs_mq D m h 8 else nI 0
def dr_no (D : lwD) (m : Nat → Int32) (H s h : Nat) : Bool := decide (¬ dr_w D m H h = 0) && decide (dr_w D m H h &&& nI s = 0)
def dr_ok (D : lwD) (m : Nat → Int32) (H s n : Nat) : Bool := !(vs_any (dr_no D m H s) n)
theorem dr_ok_255 {D : lwD} {m : Nat → Int32} {H n : Nat} : dr_ok D m H 255 n = true := by
  unfold dr_ok
  rw [vs_any_f (fun j hj => by
    unfold dr_no
    by_cases q : dr_w D m H j = 0
    · rw [decide_eq_false (fun z => z q)]; rfl
    · have e : dr_w D m H j &&& nI 255 = dr_w D m H j := by
        unfold dr_w at q ⊢
        split
        · exact vs_mq_255
        · rename_i z; rw [if_neg z] at q; exact absurd rfl q
      rw [e, decide_eq_false q, Bool.and_false])]
  rfl
theorem dr_ok_H {D : lwD} {m : Nat → Int32} {H s : Nat} (hH : H ≤ 8) : dr_ok D m H s 8 = dr_ok D m H s H := by
  unfold dr_ok
  congr 1
  cases e : vs_any (dr_no D m H s) H
  · refine vs_any_f (fun j hj => ?_)
    by_cases q : j < H
    · cases z : dr_no D m H s j
      · rfl
      · rw [vs_any_t q z] at e; cases e
    · unfold dr_no dr_w; rw [if_neg q]; rfl
  · cases z : vs_any (dr_no D m H s) 8
    · exfalso
      rw [vs_any_f (fun j hj => by
        cases y : dr_no D m H s j
        · rfl
        · rw [vs_any_t (show j < 8 by omega) y] at z; cases z)] at e
      cases e
    · rfl
/-- the best of the first n sets: of the reference, of the class -/
def dr_f (D : lwD) (m : Nat → Int32) (H n : Nat) : Nat := vf n (fun s b => if (b = 256 ∨ vs_pc s < vs_pc b) ∧ dr_ok D m H s H = true then s else b) 256
def dr_c (D : lwD) (m : Nat → Int32) (H n : Nat) : Nat := vf n (fun s b => if vs_pc s < vs_pc b ∧ dr_ok D m H s 8 = true then s else b) 255
theorem dr_f_s (D : lwD) (m : Nat → Int32) (H n : Nat) : dr_f D m H (n + 1) = if (dr_f D m H n = 256 ∨ vs_pc n < vs_pc (dr_f D m H n)) ∧ dr_ok D m H n H = true then n else dr_f D m H n := rfl
theorem dr_c_s (D : lwD) (m : Nat → Int32) (H n : Nat) : dr_c D m H (n + 1) = if vs_pc n < vs_pc (dr_c D m H n) ∧ dr_ok D m H n 8 = true then n else dr_c D m H n := rfl
theorem vs_pc8 : ∀ n, n < 255 → vs_pc n < vs_pc 255 := by decide +kernel
theorem dr_both {D : lwD} {m : Nat → Int32} {H : Nat} (hH : H ≤ 8) : ∀ n, n ≤ 255 → (dr_f D m H n = 256 ∧ dr_c D m H n = 255) ∨ (dr_f D m H n = dr_c D m H n ∧ dr_f D m H n < 256)
  | 0, _ => Or.inl ⟨rfl, rfl⟩
  | n + 1, hn => by
    rw [dr_f_s, dr_c_s, dr_ok_H hH]
    rcases dr_both (D := D) (m := m) hH n (by omega) with ⟨h1, h2⟩ | ⟨h1, h2⟩
    · rw [h1, h2]
      by_cases q : dr_ok D m H n H = true
      · rw [if_pos ⟨Or.inl rfl, q⟩, if_pos ⟨vs_pc8 n (by omega), q⟩]; exact Or.inr ⟨rfl, by omega⟩
      · rw [if_neg (fun z => q z.2), if_neg (fun z => q z.2)]; exact Or.inl ⟨rfl, rfl⟩
    · rw [← h1]
      by_cases q : vs_pc n < vs_pc (dr_f D m H n) ∧ dr_ok D m H n H = true
      · rw [if_pos q, if_pos ⟨Or.inr q.1, q.2⟩]; exact Or.inr ⟨rfl, by omega⟩
      · rw [if_neg q, if_neg (fun z => q ⟨z.1.resolve_left (by omega), z.2⟩)]; exact Or.inr ⟨rfl, h2⟩
theorem dr_eq {D : lwD} {m : Nat → Int32} {H : Nat} (hH : H ≤ 8) : dr_f D m H 256 = dr_c D m H 256 := by
  rw [dr_f_s, dr_c_s]
  rcases dr_both (D := D) (m := m) hH 255 (by omega) with ⟨h1, h2⟩ | ⟨h1, h2⟩
  · rw [h1, h2, if_pos ⟨Or.inl rfl, dr_ok_255⟩, if_neg (fun z => Nat.lt_irrefl _ z.1)]
  · rw [← h1, dr_ok_H hH]
    by_cases q : vs_pc 255 < vs_pc (dr_f D m H 255) ∧ dr_ok D m H 255 H = true
    · rw [if_pos q, if_pos ⟨Or.inr q.1, q.2⟩]
    · rw [if_neg q, if_neg (fun z => q ⟨z.1.resolve_left (by omega), z.2⟩)]
theorem dr_f_le {D : lwD} {m : Nat → Int32} {H n : Nat} (hn : n ≤ 256) : dr_f D m H n ≤ 256 := by
  induction n with
  | zero => exact Nat.le_refl _
  | succ n ih => rw [dr_f_s]; split; omega; exact ih (by omega)
theorem dr_c_lt {D : lwD} {m : Nat → Int32} {H n : Nat} (hn : n ≤ 256) : dr_c D m H n < 256 := by
  induction n with
  | zero => show 255 < 256; omega
  | succ n ih => rw [dr_c_s]; split; omega; exact ih (by omega)
/-- the reference's best: none, -1 -/
def dr_v (n : Nat) : Int32 := if n = 256 then -1 else nI n
theorem dr_f_lt {D : lwD} {m : Nat → Int32} {H : Nat} (hH : H ≤ 8) : dr_f D m H 256 < 256 := by rw [dr_eq hH]; exact dr_c_lt (Nat.le_refl _)
section AL45
variable {l : Launch} {E : mx_Env} {t : Nat} {S : mx_S} {I : mx_I} {P : mx_P} {J : mx_G} {m : Nat → Int32} {x mo H G n s la : Nat} {D : lwD}
def dw (x la : Nat) : Nat → Prop := fun c => zs (x + 23) la c ∨ c = x + 16
theorem dw.z {I K : mx_I} {x la : Nat} (h : mx_off (zs (x + 23) la) I K) : mx_off (dw x la) I K := fun c hc => h c (fun z => hc (Or.inl z))
theorem c_Vh_isDryEnough (hV : vh_ok S P x) (hs16 : S (x + 16) = some (1, 8)) (hW : ∀ h, h < 8 → I (x + 16) h = dr_w D m H h) {s : Nat} (hs : s < 256) : mx_C l E M_Vh_isDryEnough 1 0 0 [.ref (x), .int (nI (s))] (t, S, I, P, J) (mx_ri (bI (dr_ok D m H s 8)) (t, S, I, P, J)) := by
  obtain ⟨hV0, hVp0, hVp1, hVp2, hVp3, hVp4, hVp5, hVp7, hVp8, hVp9, hVp10, hVp11, hVp12, hVs15, hVs16, hVs68⟩ := id hV
  refine mx_C_of (ls0 := [some (.ref (x)), some (.int (nI (s))), none, none]) (by decide +kernel) rfl rfl (Nat.le_of_ble_eq_true rfl) rfl ?_
  refine mx_in_0 d_Vh_isDryEnough_0 ?_
  refine mx_is2 d_Vh_isDryEnough_1 ?_
  refine mx_loopI (N := 8) (fun h => ∀ j, j < h → dr_no D m H s j = false) (ls := fun h => [some (.ref (x)), some (.int (nI (s))), some (.int (nI (h))), none]) (X := fun h => (t, S, I, P, J)) (fun j hj => absurd hj (by omega)) (fun h hh hinv ih => ?_) (fun hinv => ?_)
  · try dsimp only at hinv ih ⊢
    refine mx_il2 d_Vh_isDryEnough_2 ?_
    refine mx_bip 8 d_Vh_isDryEnough_3 (by decide) ?_
    refine mx_icN_ge 35 d_Vh_isDryEnough_5 (by decide) (by omega) (by omega) (fun c_5 => absurd c_5 (by omega)) (fun c_5 => ?_)
    refine mx_al0 d_Vh_isDryEnough_8 ?_
    refine mx_getR d_Vh_isDryEnough_9 fl_Vh_38 (by assumption) (by assumption) ?_
    refine mx_il2 d_Vh_isDryEnough_12 ?_
    refine mx_cS2i d_Vh_isDryEnough_13 (c_get (k := h) (by assumption) (by omega) (by omega)) ok_Vh_get ml_Vh_171 (by decide) (Nat.le_of_ble_eq_true rfl) ?_
    refine mx_ti (y := (dr_w D m H h)) (hW h (by omega)) ?_
    refine mx_is3 d_Vh_isDryEnough_16 ?_
    refine mx_il3 d_Vh_isDryEnough_17 ?_
    refine mx_if_eq 29 d_Vh_isDryEnough_18 (by decide) (fun c_18 => ?_) (fun c_18 => ?_)
    · skip
      have k0 : dr_no D m H s h = false := by unfold dr_no; rw [decide_eq_false (fun z => z c_18)]; rfl
      refine mx_iN2 d_Vh_isDryEnough_29 ?_
      refine mx_goto 2 d_Vh_isDryEnough_32 (by decide) ?_
      refine mx_dn3 ?_
      exact ih (vs_nextT hinv k0)
    · skip
      refine mx_il3 d_Vh_isDryEnough_21 ?_
      refine mx_il1 d_Vh_isDryEnough_22 ?_
      refine mx_iand d_Vh_isDryEnough_23 ?_
      refine mx_if_ne 29 d_Vh_isDryEnough_24 (by decide) (fun c_24 => ?_) (fun c_24 => ?_)
      · skip
        have k0 : dr_no D m H s h = false := by unfold dr_no; rw [decide_eq_false c_24, Bool.and_false]
        refine mx_iN2 d_Vh_isDryEnough_29 ?_
        refine mx_goto 2 d_Vh_isDryEnough_32 (by decide) ?_
        refine mx_dn3 ?_
        exact ih (vs_nextT hinv k0)
      · skip
        have k0 : dr_no D m H s h = true := by unfold dr_no; rw [decide_eq_true c_18, decide_eq_true c_24]; rfl
        refine mx_in_0 d_Vh_isDryEnough_27 ?_
        exact mx_zret d_Vh_isDryEnough_28 rfl (by first | exact Or.inl rfl | exact Or.inr rfl) (mx_ri_of (by unfold dr_ok; rw [vs_any_t hh k0]; rfl))
  · try dsimp only at hinv ⊢
    refine mx_il2 d_Vh_isDryEnough_2 ?_
    refine mx_bip 8 d_Vh_isDryEnough_3 (by decide) ?_
    refine mx_icN_ge 35 d_Vh_isDryEnough_5 (by decide) (by omega) (by omega) (fun c_5 => ?_) (fun c_5 => absurd c_5 (by omega))
    refine mx_in_1 d_Vh_isDryEnough_35 ?_
    exact mx_zret d_Vh_isDryEnough_36 rfl (by first | exact Or.inl rfl | exact Or.inr rfl) (mx_ri_of (by unfold dr_ok; rw [vs_any_f hinv]; rfl))
theorem c_Vh_dry (hV : vh_ok S P x) (hSt : st_ok S P (x + 23)) (hSr : st_rel I (x + 23) m) (hH : m 3 = nI H) (hH8 : H ≤ 8) (hla : P (x + 23) 2 = some la) (hLw : la_is S P I la D) (hd : la + 6 ≤ x + 23 ∨ x + 23 + 15 ≤ la) (hl17 : x + 17 ≤ la) (hr : rk9 m) (hbr : br_ok m G) (hG8 : G ≤ 8)  : mx_C l E M_Vh_dry 7 0 0 [.ref (x)] (t, S, I, P, J) (mx_sR (some (.int (nI (dr_f D m H 256)))) t S P J (fun K => mx_off (dw x la) I K)) := by
  obtain ⟨hV0, hVp0, hVp1, hVp2, hVp3, hVp4, hVp5, hVp7, hVp8, hVp9, hVp10, hVp11, hVp12, hVs15, hVs16, hVs68⟩ := id hV
  obtain ⟨hC0, hC1, hC2, hC3, hC4, hC5, hC6, hD1, hD2, hD3, hD4, hPe, hLo⟩ := id hSt
  obtain ⟨hPr, u0, u1, u2, u3, u4, u5, u6, u7, u8⟩ := id hSr
  obtain ⟨hA0, hA1, hA2, hA3, hA4, hA5, hA6, hA7, hB1, hB2, hB3, hB4, hB5, hB6, hB7⟩ := id hPe
  obtain ⟨r0, r1, r2, r3, r4, r5, r6, r7, r8⟩ := id hPr
  have hSrI := hSr
  have hLwI := hLw
  refine mx_C_of (ls0 := [some (.ref (x)), none, none]) (by decide +kernel) rfl rfl (Nat.le_of_ble_eq_true rfl) rfl ?_
  refine mx_in_0 d_Vh_dry_0 ?_
  refine mx_is1 d_Vh_dry_1 ?_
  refine mx_loopX (α := (mx_I)) (N := 8) (a0 := I) (fun h z9 => mx_off (dw x la) I z9 ∧ ∀ j, j < h → z9 (x + 16) j = dr_w D m H j) (ls := fun h z9 => [some (.ref (x)), some (.int (nI (h))), none]) (X := fun h z9 => (t, S, z9, P, J)) (⟨mx_off.rf, fun j hj => absurd hj (by omega)⟩) (fun h hh z9 hinv ih => ?_) (fun z9 hinv => ?_)
  · skip
    obtain ⟨K, hz9⟩ : ∃ q, q = z9 := ⟨_, rfl⟩
    subst hz9
    try dsimp only at hinv ih ⊢
    have hSr : st_rel K (x + 23) m := hSrI.cg (fun c h1 h2 => hinv.1 c (by unfold dw zs; omega))
    have hLw : la_is S P K la D := ⟨hLwI.1, hLwI.2.1.congr (fun c h1 h2 => hinv.1 c (by unfold dw zs; omega)), hLwI.2.2⟩
    have hPr := hSr.1
    refine mx_il1 d_Vh_dry_2 ?_
    refine mx_bip 8 d_Vh_dry_3 (by decide) ?_
    refine mx_icN_ge 48 d_Vh_dry_5 (by decide) (by omega) (by omega) (fun c_5 => absurd c_5 (by omega)) (fun c_5 => ?_)
    refine mx_al0 d_Vh_dry_8 ?_
    refine mx_getR d_Vh_dry_9 fl_Vh_38 (by assumption) (by assumption) ?_
    refine mx_il1 d_Vh_dry_12 ?_
    refine mx_il1 d_Vh_dry_13 ?_
    refine mx_al0 d_Vh_dry_14 ?_
    refine mx_getR d_Vh_dry_15 fl_Vh_51 (by assumption) (by assumption) ?_
    refine mx_getR d_Vh_dry_18 fl_Vh_162 (by assumption) (by assumption) ?_
    refine mx_getI d_Vh_dry_21 fl_Vh_290 (by assumption) ?_
    refine mx_ti (y := nI (H)) (hPr.1.trans hH) ?_
    refine mx_icN_ge 38 d_Vh_dry_24 (by decide) (by omega) (by omega) (fun c_24 => ?_) (fun c_24 => ?_)
    · skip
      refine mx_in_0 d_Vh_dry_38 ?_
      refine mx_ti (y := (dr_w D m H h)) ((by unfold dr_w; first | (rw [if_pos (by omega)]; done) | (rw [if_neg (by omega)]; done))) ?_
      refine mx_cS3v d_Vh_dry_39 (c_put (k := h) (by assumption) (by omega) (by omega)) ok_Vh_put ml_Vh_272 (by decide) (Nat.le_of_ble_eq_true rfl) ?_
      refine mx_iN1 d_Vh_dry_42 ?_
      refine mx_goto 2 d_Vh_dry_45 (by decide) ?_
      exact ih (mx_up K (x + 16) (h) ((dr_w D m H h))) (⟨fun c hc => (mx_up_ne (fun z => hc (Or.inr z))).trans (hinv.1 c hc), fun j hj => by by_cases e : j = h; (subst e; simp [mx_up]); (rw [← hinv.2 j (by omega)]; unfold mx_up; rw [if_neg (fun z => e z.2)])⟩)
    · skip
      refine mx_al0 d_Vh_dry_27 ?_
      refine mx_getR d_Vh_dry_28 fl_Vh_51 (by assumption) (by assumption) ?_
      refine mx_il1 d_Vh_dry_31 ?_
      refine mx_cV1iR d_Vh_dry_32 (c_St_meetingQuarters hSt hSr hla hLw hd hr hbr hG8 (h := h) (by omega)) ok_St_meetingQuarters ml_Vh_371 (by assumption) ⟨rfl, rfl⟩ (by decide) (Nat.le_of_ble_eq_true rfl) (fun K2 hK2 => ?_)
      refine mx_goto 39 d_Vh_dry_35 (by decide) ?_
      refine mx_ti (y := (dr_w D m H h)) ((by unfold dr_w; first | (rw [if_pos (by omega)]; done) | (rw [if_neg (by omega)]; done))) ?_
      refine mx_cS3v d_Vh_dry_39 (c_put (k := h) (by assumption) (by omega) (by omega)) ok_Vh_put ml_Vh_272 (by decide) (Nat.le_of_ble_eq_true rfl) ?_
      refine mx_iN1 d_Vh_dry_42 ?_
      refine mx_goto 2 d_Vh_dry_45 (by decide) ?_
      exact ih (mx_up K2 (x + 16) (h) ((dr_w D m H h))) (⟨fun c hc => (mx_up_ne (fun z => hc (Or.inr z))).trans ((dw.z hK2 c hc).trans (hinv.1 c hc)), fun j hj => by by_cases e : j = h; (subst e; simp [mx_up]); (rw [← hinv.2 j (by omega)]; unfold mx_up; rw [if_neg (fun z => e z.2)]; exact congrFun (hK2 _ (by unfold zs; omega)) j)⟩)
  · skip
    obtain ⟨K, hz9⟩ : ∃ q, q = z9 := ⟨_, rfl⟩
    subst hz9
    try dsimp only at hinv ⊢
    refine mx_il1 d_Vh_dry_2 ?_
    refine mx_bip 8 d_Vh_dry_3 (by decide) ?_
    refine mx_icN_ge 48 d_Vh_dry_5 (by decide) (by omega) (by omega) (fun c_5 => ?_) (fun c_5 => absurd c_5 (by omega))
    refine mx_sip 255 d_Vh_dry_48 (by decide) ?_
    refine mx_is1 d_Vh_dry_51 ?_
    have hW8 := hinv.2
    refine mx_in_0 d_Vh_dry_52 ?_
    refine mx_is2 d_Vh_dry_53 ?_
    refine mx_loop (N := 256) (ls := fun s => [some (.ref (x)), some (.int (nI (dr_c D m H s))), some (.int (nI (s)))]) (X := fun s => (t, S, K, P, J)) (fun s hs ih => ?_) ?_
    · try dsimp only
      refine mx_il2 d_Vh_dry_54 ?_
      refine mx_sip 256 d_Vh_dry_55 (by decide) ?_
      refine mx_icN_ge 88 d_Vh_dry_58 (by decide) (by omega) (by omega) (fun c_58 => absurd c_58 (by omega)) (fun c_58 => ?_)
      have hbc := dr_c_lt (D := D) (m := m) (H := H) (n := s) (by omega)
      have hp1 := vs_pcb s
      have hp2 := vs_pcb (dr_c D m H s)
      refine mx_il2 d_Vh_dry_61 ?_
      refine mx_cS1i d_Vh_dry_62 (c_bitCountN (k := s) (by omega)) ok_Jd_Integer_bitCount ml_Vh_331 (by decide) (Nat.le_of_ble_eq_true rfl) ?_
      refine mx_il1 d_Vh_dry_65 ?_
      refine mx_cS1i d_Vh_dry_66 (c_bitCountN (k := dr_c D m H s) (by omega)) ok_Jd_Integer_bitCount ml_Vh_331 (by decide) (Nat.le_of_ble_eq_true rfl) ?_
      refine mx_icN_ge 82 d_Vh_dry_69 (by decide) (by omega) (by omega) (fun c_69 => ?_) (fun c_69 => ?_)
      · skip
        refine mx_iN2 d_Vh_dry_82 ?_
        refine mx_goto 54 d_Vh_dry_85 (by decide) ?_
        have e1 : nI (dr_c D m H s) = nI (dr_c D m H (s + 1)) := by rw [dr_c_s]; first | (rw [if_pos ⟨by omega, c_77⟩]; done) | (rw [if_neg (fun z => by omega)]; done) | (rw [if_neg (fun z => by rw [c_77] at z; exact absurd z.2 (by decide))]; done)
        refine mx_lsc (congrArg (fun z9 => ([some (.ref (x)), some (.int (z9)), some (.int (nI (s + 1)))] : List (Option Value))) e1) ?_
        exact ih
      · skip
        refine mx_al0 d_Vh_dry_72 ?_
        refine mx_il2 d_Vh_dry_73 ?_
        refine mx_cV1i d_Vh_dry_74 (c_Vh_isDryEnough (D := D) (m := m) (H := H) hV hVs16 hinv.2 (s := s) (by omega)) ok_Vh_isDryEnough ml_Vh_374 (by assumption) ⟨rfl, rfl⟩ (by decide) (Nat.le_of_ble_eq_true rfl) ?_
        refine mx_ifB_eq 82 d_Vh_dry_77 (by decide) (fun c_77 => ?_) (fun c_77 => ?_)
        · skip
          refine mx_iN2 d_Vh_dry_82 ?_
          refine mx_goto 54 d_Vh_dry_85 (by decide) ?_
          have e1 : nI (dr_c D m H s) = nI (dr_c D m H (s + 1)) := by rw [dr_c_s]; first | (rw [if_pos ⟨by omega, c_77⟩]; done) | (rw [if_neg (fun z => by omega)]; done) | (rw [if_neg (fun z => by rw [c_77] at z; exact absurd z.2 (by decide))]; done)
          refine mx_lsc (congrArg (fun z9 => ([some (.ref (x)), some (.int (z9)), some (.int (nI (s + 1)))] : List (Option Value))) e1) ?_
          exact ih
        · skip
          refine mx_il2 d_Vh_dry_80 ?_
          refine mx_is1 d_Vh_dry_81 ?_
          refine mx_iN2 d_Vh_dry_82 ?_
          refine mx_goto 54 d_Vh_dry_85 (by decide) ?_
          have e1 : nI (s) = nI (dr_c D m H (s + 1)) := by rw [dr_c_s]; first | (rw [if_pos ⟨by omega, c_77⟩]; done) | (rw [if_neg (fun z => by omega)]; done) | (rw [if_neg (fun z => by rw [c_77] at z; exact absurd z.2 (by decide))]; done)
          refine mx_lsc (congrArg (fun z9 => ([some (.ref (x)), some (.int (z9)), some (.int (nI (s + 1)))] : List (Option Value))) e1) ?_
          exact ih
    · try dsimp only
      refine mx_il2 d_Vh_dry_54 ?_
      refine mx_sip 256 d_Vh_dry_55 (by decide) ?_
      refine mx_icN_ge 88 d_Vh_dry_58 (by decide) (by omega) (by omega) (fun c_58 => ?_) (fun c_58 => absurd c_58 (by omega))
      refine mx_il1 d_Vh_dry_88 ?_
      exact mx_iret d_Vh_dry_89 rfl (mx_sR_i (by rw [dr_eq hH8]) hinv.1)
def ez (I K : mx_I) (mo : Nat) : Prop := (∀ c, c ≠ mo → c ≠ mo + 6 → c ≠ mo + 10 → K c = I c) ∧ ∀ f, f ≤ 8 ∨ f = 12 ∨ f = 14 ∨ 20 ≤ f → K mo f = I mo f
theorem ez.rf {mo : Nat} : ez I I mo := ⟨fun _ _ _ _ => rfl, fun _ _ => rfl⟩
theorem ez.az {K K2 : mx_I} {mo : Nat} (h : ez I K mo) (h2 : az K K2 mo) : ez I K2 mo := ⟨fun c a b d => (h2.1 c a b).trans (h.1 c a b d), fun f hf => (h2.2 f hf).trans (h.2 f hf)⟩
theorem ez.up {K : mx_I} {mo k : Nat} {v : Int32} (h : ez I K mo) : ez I (mx_up K (mo + 10) k v) mo := ⟨fun c a b d => (mx_up_ne d).trans (h.1 c a b d), fun f hf => (congrFun (mx_up_ne (by omega)) f).trans (h.2 f hf)⟩
theorem dr_ok_s (D : lwD) (m : Nat → Int32) (H s n : Nat) : dr_ok D m H s (n + 1) = (dr_ok D m H s n && !(dr_no D m H s n)) := by
  unfold dr_ok; rw [vs_any_s]; cases vs_any (dr_no D m H s) n <;> cases dr_no D m H s n <;> rfl
theorem dr_ok_m {D : lwD} {m : Nat → Int32} {H s n k : Nat} (h : n ≤ k) (e : dr_ok D m H s n = false) : dr_ok D m H s k = false := by
  induction k with
  | zero => rw [show n = 0 by omega] at e; exact e
  | succ k ih =>
    by_cases q : n = k + 1
    · rw [← q]; exact e
    · rw [dr_ok_s, ih (by omega)]; rfl
def dr_cc (D : lwD) (m : Nat → Int32) (H s : Nat) : Bool := decide (dr_f D m H s = 256 ∨ vs_pc s < vs_pc (dr_f D m H s))
theorem dr_v_n {n : Nat} (h : n < 256) : dr_v n = nI n := if_neg (by omega)
theorem dr_v_e {n : Nat} (hn : n ≤ 256) (h : dr_v n = -1) : n = 256 := by
  by_cases q : n = 256
  · exact q
  · rw [dr_v_n (by omega)] at h; exact absurd h (nI_m1c (by omega))
theorem dr_v_l {n : Nat} (hn : n ≤ 256) (h : ¬ dr_v n = -1) : n < 256 := by
  by_cases q : n = 256
  · rw [q] at h; exact absurd rfl h
  · omega
theorem dr_f_y {D : lwD} {m : Nat → Int32} {H s : Nat} (h : (dr_cc D m H s && dr_ok D m H s H) = true) : dr_f D m H (s + 1) = s := by
  rw [Bool.and_eq_true] at h; unfold dr_cc at h; rw [decide_eq_true_iff] at h
  rw [dr_f_s, if_pos h]
theorem dr_f_n {D : lwD} {m : Nat → Int32} {H s h : Nat} (hh : h ≤ H) (e : (dr_cc D m H s && dr_ok D m H s h) = false) : dr_f D m H (s + 1) = dr_f D m H s := by
  rw [dr_f_s, if_neg (fun z => by
    have z1 : dr_cc D m H s = true := decide_eq_true z.1
    rw [z1, Bool.true_and] at e
    rw [dr_ok_m hh e] at z; exact absurd z.2 (by decide))]
theorem dr_cc_0 {D : lwD} {m : Nat → Int32} {H s : Nat} {b : Bool} (h : dr_cc D m H s = b) : (dr_cc D m H s && dr_ok D m H s 0) = b := by
  rw [h, show dr_ok D m H s 0 = true from rfl, Bool.and_true]
theorem c_Mo_dry (hM : mo_ok S P mo) (hm : I (mo + 1) = m) (hH : m 3 = nI H) (hH8 : H ≤ 8) {dd : Nat} {TX : (Nat → Int32) → Prop} (hTX : TX m) (hask : ∀ (m : Nat → Int32) (I : mx_I) (h g q : Nat), TX m → I (mo + 1) = m → h < 8 → g < 8 → q < 8 → mx_C l E M_Mo_asks dd 0 0 [.ref (mo), .int (nI (h)), .int (nI (g)), .int (nI (q))] (t, S, I, P, J) (mx_sR none t S P J (fun K => ak_fin I K mo D m h g q))) (hdd : 2 ≤ dd) (hr : rk9 m) (hbr : br_ok m G) (hG8 : G ≤ 8)  : mx_C l E M_Mo_dry (dd + 4) 0 0 [.ref (mo)] (t, S, I, P, J) (mx_sR (some (.int (nI (dr_f D m H 256)))) t S P J (fun K => ez (mx_up I (mo) 0 (nI (0))) K mo)) := by
  obtain ⟨hM0, hMp1, hMp2, hMp4, hMp5, hMp7, hMp14, hMp21, hMp22, hMp23, hMp24, hMp25, hMp26, hMp27, hMs1, hMs2, hMs3, hMs4, hMs5, hMs6, hMs7, hMs8, hMs9, hMs10, hMs11, hMs12, hMs13⟩ := id hM
  refine mx_C_of (ls0 := [some (.ref (mo)), none, none, none, none]) (by decide +kernel) rfl rfl (Nat.le_of_ble_eq_true rfl) rfl ?_
  refine mx_al0 d_Mo_dry_0 ?_
  refine mx_in_0 d_Mo_dry_1 ?_
  refine mx_putI d_Mo_dry_2 fl_Mo_54 (by assumption) ?_
  refine mx_in_0 d_Mo_dry_5 ?_
  refine mx_is1 d_Mo_dry_6 ?_
  refine mx_loopX (α := (mx_I)) (N := H) (a0 := (mx_up I (mo) 0 (nI (0)))) (fun h z9 => ez (mx_up I (mo) 0 (nI (0))) z9 mo ∧ ∀ j, j < h → z9 (mo + 10) j = vs_mq D m j 8) (ls := fun h z9 => [some (.ref (mo)), some (.int (nI (h))), none, none, none]) (X := fun h z9 => (t, S, z9, P, J)) (⟨ez.rf, fun j hj => absurd hj (by omega)⟩) (fun h hh z9 hinv ih => ?_) (fun z9 hinv => ?_)
  · skip
    obtain ⟨K, hz9⟩ : ∃ q, q = z9 := ⟨_, rfl⟩
    subst hz9
    try dsimp only at hinv ih ⊢
    have hmK : K (mo + 1) = m := (hinv.1.1 _ (by omega) (by omega) (by omega)).trans (vs_hm hm)
    refine mx_il1 d_Mo_dry_7 ?_
    refine mx_al0 d_Mo_dry_8 ?_
    refine mx_getR d_Mo_dry_9 fl_Mo_7 (by assumption) (by assumption) ?_
    refine mx_in_3 d_Mo_dry_12 ?_
    refine mx_iald d_Mo_dry_13 (by assumption) (nI_inb (by omega) (by omega)) ?_
    refine mx_ti (y := K (mo + 1) (3)) (by rw [nI_clamp (by omega)]) ?_
    refine mx_ti (y := nI (H)) ((congrFun hmK 3).trans hH) ?_
    refine mx_icN_ge 34 d_Mo_dry_14 (by decide) (by omega) (by omega) (fun c_14 => absurd c_14 (by omega)) (fun c_14 => ?_)
    refine mx_al0 d_Mo_dry_17 ?_
    refine mx_getR d_Mo_dry_18 fl_Mo_41 (by assumption) (by assumption) ?_
    refine mx_il1 d_Mo_dry_21 ?_
    refine mx_al0 d_Mo_dry_22 ?_
    refine mx_il1 d_Mo_dry_23 ?_
    refine mx_cV1iR d_Mo_dry_24 (c_Mo_meetsIn hM (hmK) hTX hask hdd hr hbr hG8 (h := h) (by omega)) ok_Mo_meetsIn ml_Mo_406 (by assumption) ⟨rfl, rfl⟩ (by omega) (Nat.le_of_ble_eq_true rfl) (fun K2 hK2 => ?_)
    refine mx_iast d_Mo_dry_27 (by assumption) (nI_inb (by omega) (by omega)) ?_
    rw [nI_clamp (by omega)]
    refine mx_iN1 d_Mo_dry_28 ?_
    refine mx_goto 7 d_Mo_dry_31 (by decide) ?_
    exact ih (mx_up K2 (mo + 10) (h) ((vs_mq D m h 8))) (⟨(hinv.1.az hK2).up, fun j hj => by by_cases e : j = h; (subst e; simp [mx_up]); (rw [← hinv.2 j (by omega)]; unfold mx_up; rw [if_neg (fun z => e z.2)]; exact congrFun (hK2.1 _ (by omega) (by omega)) j)⟩)
  · skip
    obtain ⟨K, hz9⟩ : ∃ q, q = z9 := ⟨_, rfl⟩
    subst hz9
    try dsimp only at hinv ⊢
    have hmK : K (mo + 1) = m := (hinv.1.1 _ (by omega) (by omega) (by omega)).trans (vs_hm hm)
    refine mx_il1 d_Mo_dry_7 ?_
    refine mx_al0 d_Mo_dry_8 ?_
    refine mx_getR d_Mo_dry_9 fl_Mo_7 (by assumption) (by assumption) ?_
    refine mx_in_3 d_Mo_dry_12 ?_
    refine mx_iald d_Mo_dry_13 (by assumption) (nI_inb (by omega) (by omega)) ?_
    refine mx_ti (y := K (mo + 1) (3)) (by rw [nI_clamp (by omega)]) ?_
    refine mx_ti (y := nI (H)) ((congrFun hmK 3).trans hH) ?_
    refine mx_icN_ge 34 d_Mo_dry_14 (by decide) (by omega) (by omega) (fun c_14 => ?_) (fun c_14 => absurd c_14 (by omega))
    refine mx_ic_m1 d_Mo_dry_34 ?_
    refine mx_is1 d_Mo_dry_35 ?_
    refine mx_in_0 d_Mo_dry_36 ?_
    refine mx_is2 d_Mo_dry_37 ?_
    refine mx_loop (N := 256) (ls := fun s => [some (.ref (mo)), some (.int ((dr_v (dr_f D m H s)))), some (.int (nI (s))), none, none]) (X := fun s => (t, S, K, P, J)) (fun s hs ih => ?_) ?_
    · try dsimp only
      refine mx_il2 d_Mo_dry_38 ?_
      refine mx_sip 256 d_Mo_dry_39 (by decide) ?_
      refine mx_icN_ge 131 d_Mo_dry_42 (by decide) (by omega) (by omega) (fun c_42 => absurd c_42 (by omega)) (fun c_42 => ?_)
      refine mx_il1 d_Mo_dry_45 ?_
      refine mx_ic_m1 d_Mo_dry_46 ?_
      have hp1 := vs_pcb s
      have hp2 := vs_pcb (dr_f D m H s)
      refine mx_icmp_eq 61 d_Mo_dry_47 (by decide) (fun c_47 => ?_) (fun c_47 => ?_)
      · skip
        have hb6 := dr_v_e (dr_f_le (by omega)) c_47
        have k1 : dr_cc D m H s = true := decide_eq_true (Or.inl hb6)
        refine mx_in_1 d_Mo_dry_61 ?_
        refine mx_goto 66 d_Mo_dry_62 (by decide) ?_
        refine mx_is3 d_Mo_dry_66 ?_
        refine mx_in_0 d_Mo_dry_67 ?_
        refine mx_is4 d_Mo_dry_68 ?_
        refine mx_lsc (congrArg (fun z9 => ([some (.ref (mo)), some (.int ((dr_v (dr_f D m H s)))), some (.int (nI (s))), some (.int (z9)), some (.int (nI (0)))] : List (Option Value))) ((by rw [dr_cc_0 (b := true) k1]; rfl : nI 1 = bI (dr_cc D m H s && dr_ok D m H s 0)))) ?_
        have ih38 := ih
        refine mx_loop (N := H) (ls := fun h => [some (.ref (mo)), some (.int ((dr_v (dr_f D m H s)))), some (.int (nI (s))), some (.int (bI ((dr_cc D m H s && dr_ok D m H s h)))), some (.int (nI (h)))]) (X := fun h => (t, S, K, P, J)) (fun h hh ih => ?_) ?_
        · try dsimp only
          refine mx_il4 d_Mo_dry_70 ?_
          refine mx_al0 d_Mo_dry_72 ?_
          refine mx_getR d_Mo_dry_73 fl_Mo_7 (by assumption) (by assumption) ?_
          refine mx_in_3 d_Mo_dry_76 ?_
          refine mx_iald d_Mo_dry_77 (by assumption) (nI_inb (by omega) (by omega)) ?_
          refine mx_ti (y := K (mo + 1) (3)) (by rw [nI_clamp (by omega)]) ?_
          refine mx_ti (y := nI (H)) ((congrFun hmK 3).trans hH) ?_
          refine mx_icN_ge 119 d_Mo_dry_78 (by decide) (by omega) (by omega) (fun c_78 => absurd c_78 (by omega)) (fun c_78 => ?_)
          refine mx_il3 d_Mo_dry_81 ?_
          refine mx_ifB_eq 119 d_Mo_dry_82 (by decide) (fun c_82 => ?_) (fun c_82 => ?_)
          · skip
            refine mx_il3 d_Mo_dry_119 ?_
            refine mx_ifB_eq 125 d_Mo_dry_120 (by decide) (fun c_120 => ?_) (fun c_120 => ?_)
            · skip
              refine mx_iN2 d_Mo_dry_125 ?_
              refine mx_goto 38 d_Mo_dry_128 (by decide) ?_
              refine mx_dn3 ?_
              refine mx_dn4 ?_
              have e1 : (dr_v (dr_f D m H s)) = (dr_v (dr_f D m H (s + 1))) := by first | exact absurd c_120 (by rw [c_82]; decide) | (rw [dr_f_y c_120, dr_v_n (by omega)]; done) | (rw [dr_f_n (Nat.le_refl H) c_120]; done) | (rw [dr_f_n (by omega) c_82]; done) | (rw [dr_f_n (by omega) c_82, dr_v_n hb6]; done) | (rw [dr_f_n (Nat.le_refl H) c_120, dr_v_n hb6]; done)
              refine mx_lsc (congrArg (fun z9 => ([some (.ref (mo)), some (.int (z9)), some (.int (nI (s + 1))), none, none] : List (Option Value))) e1) ?_
              exact ih38
            · skip
              refine mx_il2 d_Mo_dry_123 ?_
              refine mx_is1 d_Mo_dry_124 ?_
              refine mx_iN2 d_Mo_dry_125 ?_
              refine mx_goto 38 d_Mo_dry_128 (by decide) ?_
              refine mx_dn3 ?_
              refine mx_dn4 ?_
              have e1 : nI (s) = (dr_v (dr_f D m H (s + 1))) := by first | exact absurd c_120 (by rw [c_82]; decide) | (rw [dr_f_y c_120, dr_v_n (by omega)]; done) | (rw [dr_f_n (Nat.le_refl H) c_120]; done) | (rw [dr_f_n (by omega) c_82]; done) | (rw [dr_f_n (by omega) c_82, dr_v_n hb6]; done) | (rw [dr_f_n (Nat.le_refl H) c_120, dr_v_n hb6]; done)
              refine mx_lsc (congrArg (fun z9 => ([some (.ref (mo)), some (.int (z9)), some (.int (nI (s + 1))), none, none] : List (Option Value))) e1) ?_
              exact ih38
          · skip
            refine mx_al0 d_Mo_dry_85 ?_
            refine mx_getR d_Mo_dry_86 fl_Mo_41 (by assumption) (by assumption) ?_
            refine mx_il4 d_Mo_dry_89 ?_
            refine mx_iald d_Mo_dry_91 (by assumption) (nI_inb (by omega) (by omega)) ?_
            refine mx_ti (y := K (mo + 10) (h)) (by rw [nI_clamp (by omega)]) ?_
            refine mx_ti (y := (vs_mq D m h 8)) (hinv.2 h (by omega)) ?_
            refine mx_if_eq 107 d_Mo_dry_92 (by decide) (fun c_92 => ?_) (fun c_92 => ?_)
            · skip
              have k2 : dr_no D m H s h = false := by unfold dr_no dr_w; rw [if_pos (by omega), decide_eq_false (fun z => z c_92)]; rfl
              refine mx_in_1 d_Mo_dry_107 ?_
              refine mx_goto 112 d_Mo_dry_108 (by decide) ?_
              refine mx_is3 d_Mo_dry_112 ?_
              refine mx_iN4 d_Mo_dry_113 ?_
              refine mx_goto 70 d_Mo_dry_116 (by decide) ?_
              have e3 : nI (1) = bI ((dr_cc D m H s && dr_ok D m H s (h + 1))) := by rw [dr_ok_s, k2]; first | (rw [Bool.not_false, Bool.and_true, c_82]; rfl) | (rw [Bool.not_true, Bool.and_false, Bool.and_false]; rfl)
              refine mx_lsc (congrArg (fun z9 => ([some (.ref (mo)), some (.int ((dr_v (dr_f D m H s)))), some (.int (nI (s))), some (.int (z9)), some (.int (nI (h + 1)))] : List (Option Value))) e3) ?_
              exact ih
            · skip
              refine mx_al0 d_Mo_dry_95 ?_
              refine mx_getR d_Mo_dry_96 fl_Mo_41 (by assumption) (by assumption) ?_
              refine mx_il4 d_Mo_dry_99 ?_
              refine mx_iald d_Mo_dry_101 (by assumption) (nI_inb (by omega) (by omega)) ?_
              refine mx_ti (y := K (mo + 10) (h)) (by rw [nI_clamp (by omega)]) ?_
              refine mx_ti (y := (vs_mq D m h 8)) (hinv.2 h (by omega)) ?_
              refine mx_il2 d_Mo_dry_102 ?_
              refine mx_iand d_Mo_dry_103 ?_
              refine mx_if_eq 111 d_Mo_dry_104 (by decide) (fun c_104 => ?_) (fun c_104 => ?_)
              · skip
                have k2 : dr_no D m H s h = true := by unfold dr_no dr_w; rw [if_pos (by omega), decide_eq_true c_92, decide_eq_true c_104]; rfl
                refine mx_in_0 d_Mo_dry_111 ?_
                refine mx_is3 d_Mo_dry_112 ?_
                refine mx_iN4 d_Mo_dry_113 ?_
                refine mx_goto 70 d_Mo_dry_116 (by decide) ?_
                have e3 : nI (0) = bI ((dr_cc D m H s && dr_ok D m H s (h + 1))) := by rw [dr_ok_s, k2]; first | (rw [Bool.not_false, Bool.and_true, c_82]; rfl) | (rw [Bool.not_true, Bool.and_false, Bool.and_false]; rfl)
                refine mx_lsc (congrArg (fun z9 => ([some (.ref (mo)), some (.int ((dr_v (dr_f D m H s)))), some (.int (nI (s))), some (.int (z9)), some (.int (nI (h + 1)))] : List (Option Value))) e3) ?_
                exact ih
              · skip
                have k2 : dr_no D m H s h = false := by unfold dr_no dr_w; rw [if_pos (by omega), decide_eq_false c_104, Bool.and_false]
                refine mx_in_1 d_Mo_dry_107 ?_
                refine mx_goto 112 d_Mo_dry_108 (by decide) ?_
                refine mx_is3 d_Mo_dry_112 ?_
                refine mx_iN4 d_Mo_dry_113 ?_
                refine mx_goto 70 d_Mo_dry_116 (by decide) ?_
                have e3 : nI (1) = bI ((dr_cc D m H s && dr_ok D m H s (h + 1))) := by rw [dr_ok_s, k2]; first | (rw [Bool.not_false, Bool.and_true, c_82]; rfl) | (rw [Bool.not_true, Bool.and_false, Bool.and_false]; rfl)
                refine mx_lsc (congrArg (fun z9 => ([some (.ref (mo)), some (.int ((dr_v (dr_f D m H s)))), some (.int (nI (s))), some (.int (z9)), some (.int (nI (h + 1)))] : List (Option Value))) e3) ?_
                exact ih
        · try dsimp only
          refine mx_il4 d_Mo_dry_70 ?_
          refine mx_al0 d_Mo_dry_72 ?_
          refine mx_getR d_Mo_dry_73 fl_Mo_7 (by assumption) (by assumption) ?_
          refine mx_in_3 d_Mo_dry_76 ?_
          refine mx_iald d_Mo_dry_77 (by assumption) (nI_inb (by omega) (by omega)) ?_
          refine mx_ti (y := K (mo + 1) (3)) (by rw [nI_clamp (by omega)]) ?_
          refine mx_ti (y := nI (H)) ((congrFun hmK 3).trans hH) ?_
          refine mx_icN_ge 119 d_Mo_dry_78 (by decide) (by omega) (by omega) (fun c_78 => ?_) (fun c_78 => absurd c_78 (by omega))
          refine mx_il3 d_Mo_dry_119 ?_
          refine mx_ifB_eq 125 d_Mo_dry_120 (by decide) (fun c_120 => ?_) (fun c_120 => ?_)
          · skip
            refine mx_iN2 d_Mo_dry_125 ?_
            refine mx_goto 38 d_Mo_dry_128 (by decide) ?_
            refine mx_dn3 ?_
            refine mx_dn4 ?_
            have e1 : (dr_v (dr_f D m H s)) = (dr_v (dr_f D m H (s + 1))) := by first | exact absurd c_120 (by rw [c_82]; decide) | (rw [dr_f_y c_120, dr_v_n (by omega)]; done) | (rw [dr_f_n (Nat.le_refl H) c_120]; done) | (rw [dr_f_n (by omega) c_82]; done) | (rw [dr_f_n (by omega) c_82, dr_v_n hb6]; done) | (rw [dr_f_n (Nat.le_refl H) c_120, dr_v_n hb6]; done)
            refine mx_lsc (congrArg (fun z9 => ([some (.ref (mo)), some (.int (z9)), some (.int (nI (s + 1))), none, none] : List (Option Value))) e1) ?_
            exact ih
          · skip
            refine mx_il2 d_Mo_dry_123 ?_
            refine mx_is1 d_Mo_dry_124 ?_
            refine mx_iN2 d_Mo_dry_125 ?_
            refine mx_goto 38 d_Mo_dry_128 (by decide) ?_
            refine mx_dn3 ?_
            refine mx_dn4 ?_
            have e1 : nI (s) = (dr_v (dr_f D m H (s + 1))) := by first | exact absurd c_120 (by rw [c_82]; decide) | (rw [dr_f_y c_120, dr_v_n (by omega)]; done) | (rw [dr_f_n (Nat.le_refl H) c_120]; done) | (rw [dr_f_n (by omega) c_82]; done) | (rw [dr_f_n (by omega) c_82, dr_v_n hb6]; done) | (rw [dr_f_n (Nat.le_refl H) c_120, dr_v_n hb6]; done)
            refine mx_lsc (congrArg (fun z9 => ([some (.ref (mo)), some (.int (z9)), some (.int (nI (s + 1))), none, none] : List (Option Value))) e1) ?_
            exact ih
      · skip
        have hb6 := dr_v_l (dr_f_le (by omega)) c_47
        rw [dr_v_n hb6]
        refine mx_il2 d_Mo_dry_50 ?_
        refine mx_cS1i d_Mo_dry_51 (c_Mo_bitsN (k := s)) ok_Mo_bits ml_Mo_303 (by omega) (Nat.le_of_ble_eq_true rfl) ?_
        refine mx_il1 d_Mo_dry_54 ?_
        refine mx_cS1i d_Mo_dry_55 (c_Mo_bitsN (k := dr_f D m H s)) ok_Mo_bits ml_Mo_303 (by omega) (Nat.le_of_ble_eq_true rfl) ?_
        refine mx_icN_ge 65 d_Mo_dry_58 (by decide) (by omega) (by omega) (fun c_58 => ?_) (fun c_58 => ?_)
        · skip
          have k1 : dr_cc D m H s = false := decide_eq_false (fun z => by omega)
          refine mx_in_0 d_Mo_dry_65 ?_
          refine mx_is3 d_Mo_dry_66 ?_
          refine mx_in_0 d_Mo_dry_67 ?_
          refine mx_is4 d_Mo_dry_68 ?_
          refine mx_lsc (congrArg (fun z9 => ([some (.ref (mo)), some (.int (nI (dr_f D m H s))), some (.int (nI (s))), some (.int (z9)), some (.int (nI (0)))] : List (Option Value))) ((by rw [dr_cc_0 (b := false) k1]; rfl : nI 0 = bI (dr_cc D m H s && dr_ok D m H s 0)))) ?_
          have ih38 := ih
          refine mx_loop (N := H) (ls := fun h => [some (.ref (mo)), some (.int (nI (dr_f D m H s))), some (.int (nI (s))), some (.int (bI ((dr_cc D m H s && dr_ok D m H s h)))), some (.int (nI (h)))]) (X := fun h => (t, S, K, P, J)) (fun h hh ih => ?_) ?_
          · try dsimp only
            refine mx_il4 d_Mo_dry_70 ?_
            refine mx_al0 d_Mo_dry_72 ?_
            refine mx_getR d_Mo_dry_73 fl_Mo_7 (by assumption) (by assumption) ?_
            refine mx_in_3 d_Mo_dry_76 ?_
            refine mx_iald d_Mo_dry_77 (by assumption) (nI_inb (by omega) (by omega)) ?_
            refine mx_ti (y := K (mo + 1) (3)) (by rw [nI_clamp (by omega)]) ?_
            refine mx_ti (y := nI (H)) ((congrFun hmK 3).trans hH) ?_
            refine mx_icN_ge 119 d_Mo_dry_78 (by decide) (by omega) (by omega) (fun c_78 => absurd c_78 (by omega)) (fun c_78 => ?_)
            refine mx_il3 d_Mo_dry_81 ?_
            refine mx_ifB_eq 119 d_Mo_dry_82 (by decide) (fun c_82 => ?_) (fun c_82 => ?_)
            · skip
              refine mx_il3 d_Mo_dry_119 ?_
              refine mx_ifB_eq 125 d_Mo_dry_120 (by decide) (fun c_120 => ?_) (fun c_120 => ?_)
              · skip
                refine mx_iN2 d_Mo_dry_125 ?_
                refine mx_goto 38 d_Mo_dry_128 (by decide) ?_
                refine mx_dn3 ?_
                refine mx_dn4 ?_
                have e1 : nI (dr_f D m H s) = (dr_v (dr_f D m H (s + 1))) := by first | exact absurd c_120 (by rw [c_82]; decide) | (rw [dr_f_y c_120, dr_v_n (by omega)]; done) | (rw [dr_f_n (Nat.le_refl H) c_120]; done) | (rw [dr_f_n (by omega) c_82]; done) | (rw [dr_f_n (by omega) c_82, dr_v_n hb6]; done) | (rw [dr_f_n (Nat.le_refl H) c_120, dr_v_n hb6]; done)
                refine mx_lsc (congrArg (fun z9 => ([some (.ref (mo)), some (.int (z9)), some (.int (nI (s + 1))), none, none] : List (Option Value))) e1) ?_
                exact ih38
              · skip
                refine mx_il2 d_Mo_dry_123 ?_
                refine mx_is1 d_Mo_dry_124 ?_
                refine mx_iN2 d_Mo_dry_125 ?_
                refine mx_goto 38 d_Mo_dry_128 (by decide) ?_
                refine mx_dn3 ?_
                refine mx_dn4 ?_
                have e1 : nI (s) = (dr_v (dr_f D m H (s + 1))) := by first | exact absurd c_120 (by rw [c_82]; decide) | (rw [dr_f_y c_120, dr_v_n (by omega)]; done) | (rw [dr_f_n (Nat.le_refl H) c_120]; done) | (rw [dr_f_n (by omega) c_82]; done) | (rw [dr_f_n (by omega) c_82, dr_v_n hb6]; done) | (rw [dr_f_n (Nat.le_refl H) c_120, dr_v_n hb6]; done)
                refine mx_lsc (congrArg (fun z9 => ([some (.ref (mo)), some (.int (z9)), some (.int (nI (s + 1))), none, none] : List (Option Value))) e1) ?_
                exact ih38
            · skip
              refine mx_al0 d_Mo_dry_85 ?_
              refine mx_getR d_Mo_dry_86 fl_Mo_41 (by assumption) (by assumption) ?_
              refine mx_il4 d_Mo_dry_89 ?_
              refine mx_iald d_Mo_dry_91 (by assumption) (nI_inb (by omega) (by omega)) ?_
              refine mx_ti (y := K (mo + 10) (h)) (by rw [nI_clamp (by omega)]) ?_
              refine mx_ti (y := (vs_mq D m h 8)) (hinv.2 h (by omega)) ?_
              refine mx_if_eq 107 d_Mo_dry_92 (by decide) (fun c_92 => ?_) (fun c_92 => ?_)
              · skip
                have k2 : dr_no D m H s h = false := by unfold dr_no dr_w; rw [if_pos (by omega), decide_eq_false (fun z => z c_92)]; rfl
                refine mx_in_1 d_Mo_dry_107 ?_
                refine mx_goto 112 d_Mo_dry_108 (by decide) ?_
                refine mx_is3 d_Mo_dry_112 ?_
                refine mx_iN4 d_Mo_dry_113 ?_
                refine mx_goto 70 d_Mo_dry_116 (by decide) ?_
                have e3 : nI (1) = bI ((dr_cc D m H s && dr_ok D m H s (h + 1))) := by rw [dr_ok_s, k2]; first | (rw [Bool.not_false, Bool.and_true, c_82]; rfl) | (rw [Bool.not_true, Bool.and_false, Bool.and_false]; rfl)
                refine mx_lsc (congrArg (fun z9 => ([some (.ref (mo)), some (.int (nI (dr_f D m H s))), some (.int (nI (s))), some (.int (z9)), some (.int (nI (h + 1)))] : List (Option Value))) e3) ?_
                exact ih
              · skip
                refine mx_al0 d_Mo_dry_95 ?_
                refine mx_getR d_Mo_dry_96 fl_Mo_41 (by assumption) (by assumption) ?_
                refine mx_il4 d_Mo_dry_99 ?_
                refine mx_iald d_Mo_dry_101 (by assumption) (nI_inb (by omega) (by omega)) ?_
                refine mx_ti (y := K (mo + 10) (h)) (by rw [nI_clamp (by omega)]) ?_
                refine mx_ti (y := (vs_mq D m h 8)) (hinv.2 h (by omega)) ?_
                refine mx_il2 d_Mo_dry_102 ?_
                refine mx_iand d_Mo_dry_103 ?_
                refine mx_if_eq 111 d_Mo_dry_104 (by decide) (fun c_104 => ?_) (fun c_104 => ?_)
                · skip
                  have k2 : dr_no D m H s h = true := by unfold dr_no dr_w; rw [if_pos (by omega), decide_eq_true c_92, decide_eq_true c_104]; rfl
                  refine mx_in_0 d_Mo_dry_111 ?_
                  refine mx_is3 d_Mo_dry_112 ?_
                  refine mx_iN4 d_Mo_dry_113 ?_
                  refine mx_goto 70 d_Mo_dry_116 (by decide) ?_
                  have e3 : nI (0) = bI ((dr_cc D m H s && dr_ok D m H s (h + 1))) := by rw [dr_ok_s, k2]; first | (rw [Bool.not_false, Bool.and_true, c_82]; rfl) | (rw [Bool.not_true, Bool.and_false, Bool.and_false]; rfl)
                  refine mx_lsc (congrArg (fun z9 => ([some (.ref (mo)), some (.int (nI (dr_f D m H s))), some (.int (nI (s))), some (.int (z9)), some (.int (nI (h + 1)))] : List (Option Value))) e3) ?_
                  exact ih
                · skip
                  have k2 : dr_no D m H s h = false := by unfold dr_no dr_w; rw [if_pos (by omega), decide_eq_false c_104, Bool.and_false]
                  refine mx_in_1 d_Mo_dry_107 ?_
                  refine mx_goto 112 d_Mo_dry_108 (by decide) ?_
                  refine mx_is3 d_Mo_dry_112 ?_
                  refine mx_iN4 d_Mo_dry_113 ?_
                  refine mx_goto 70 d_Mo_dry_116 (by decide) ?_
                  have e3 : nI (1) = bI ((dr_cc D m H s && dr_ok D m H s (h + 1))) := by rw [dr_ok_s, k2]; first | (rw [Bool.not_false, Bool.and_true, c_82]; rfl) | (rw [Bool.not_true, Bool.and_false, Bool.and_false]; rfl)
                  refine mx_lsc (congrArg (fun z9 => ([some (.ref (mo)), some (.int (nI (dr_f D m H s))), some (.int (nI (s))), some (.int (z9)), some (.int (nI (h + 1)))] : List (Option Value))) e3) ?_
                  exact ih
          · try dsimp only
            refine mx_il4 d_Mo_dry_70 ?_
            refine mx_al0 d_Mo_dry_72 ?_
            refine mx_getR d_Mo_dry_73 fl_Mo_7 (by assumption) (by assumption) ?_
            refine mx_in_3 d_Mo_dry_76 ?_
            refine mx_iald d_Mo_dry_77 (by assumption) (nI_inb (by omega) (by omega)) ?_
            refine mx_ti (y := K (mo + 1) (3)) (by rw [nI_clamp (by omega)]) ?_
            refine mx_ti (y := nI (H)) ((congrFun hmK 3).trans hH) ?_
            refine mx_icN_ge 119 d_Mo_dry_78 (by decide) (by omega) (by omega) (fun c_78 => ?_) (fun c_78 => absurd c_78 (by omega))
            refine mx_il3 d_Mo_dry_119 ?_
            refine mx_ifB_eq 125 d_Mo_dry_120 (by decide) (fun c_120 => ?_) (fun c_120 => ?_)
            · skip
              refine mx_iN2 d_Mo_dry_125 ?_
              refine mx_goto 38 d_Mo_dry_128 (by decide) ?_
              refine mx_dn3 ?_
              refine mx_dn4 ?_
              have e1 : nI (dr_f D m H s) = (dr_v (dr_f D m H (s + 1))) := by first | exact absurd c_120 (by rw [c_82]; decide) | (rw [dr_f_y c_120, dr_v_n (by omega)]; done) | (rw [dr_f_n (Nat.le_refl H) c_120]; done) | (rw [dr_f_n (by omega) c_82]; done) | (rw [dr_f_n (by omega) c_82, dr_v_n hb6]; done) | (rw [dr_f_n (Nat.le_refl H) c_120, dr_v_n hb6]; done)
              refine mx_lsc (congrArg (fun z9 => ([some (.ref (mo)), some (.int (z9)), some (.int (nI (s + 1))), none, none] : List (Option Value))) e1) ?_
              exact ih
            · skip
              refine mx_il2 d_Mo_dry_123 ?_
              refine mx_is1 d_Mo_dry_124 ?_
              refine mx_iN2 d_Mo_dry_125 ?_
              refine mx_goto 38 d_Mo_dry_128 (by decide) ?_
              refine mx_dn3 ?_
              refine mx_dn4 ?_
              have e1 : nI (s) = (dr_v (dr_f D m H (s + 1))) := by first | exact absurd c_120 (by rw [c_82]; decide) | (rw [dr_f_y c_120, dr_v_n (by omega)]; done) | (rw [dr_f_n (Nat.le_refl H) c_120]; done) | (rw [dr_f_n (by omega) c_82]; done) | (rw [dr_f_n (by omega) c_82, dr_v_n hb6]; done) | (rw [dr_f_n (Nat.le_refl H) c_120, dr_v_n hb6]; done)
              refine mx_lsc (congrArg (fun z9 => ([some (.ref (mo)), some (.int (z9)), some (.int (nI (s + 1))), none, none] : List (Option Value))) e1) ?_
              exact ih
        · skip
          have k1 : dr_cc D m H s = true := decide_eq_true (Or.inr (by omega))
          refine mx_in_1 d_Mo_dry_61 ?_
          refine mx_goto 66 d_Mo_dry_62 (by decide) ?_
          refine mx_is3 d_Mo_dry_66 ?_
          refine mx_in_0 d_Mo_dry_67 ?_
          refine mx_is4 d_Mo_dry_68 ?_
          refine mx_lsc (congrArg (fun z9 => ([some (.ref (mo)), some (.int (nI (dr_f D m H s))), some (.int (nI (s))), some (.int (z9)), some (.int (nI (0)))] : List (Option Value))) ((by rw [dr_cc_0 (b := true) k1]; rfl : nI 1 = bI (dr_cc D m H s && dr_ok D m H s 0)))) ?_
          have ih38 := ih
          refine mx_loop (N := H) (ls := fun h => [some (.ref (mo)), some (.int (nI (dr_f D m H s))), some (.int (nI (s))), some (.int (bI ((dr_cc D m H s && dr_ok D m H s h)))), some (.int (nI (h)))]) (X := fun h => (t, S, K, P, J)) (fun h hh ih => ?_) ?_
          · try dsimp only
            refine mx_il4 d_Mo_dry_70 ?_
            refine mx_al0 d_Mo_dry_72 ?_
            refine mx_getR d_Mo_dry_73 fl_Mo_7 (by assumption) (by assumption) ?_
            refine mx_in_3 d_Mo_dry_76 ?_
            refine mx_iald d_Mo_dry_77 (by assumption) (nI_inb (by omega) (by omega)) ?_
            refine mx_ti (y := K (mo + 1) (3)) (by rw [nI_clamp (by omega)]) ?_
            refine mx_ti (y := nI (H)) ((congrFun hmK 3).trans hH) ?_
            refine mx_icN_ge 119 d_Mo_dry_78 (by decide) (by omega) (by omega) (fun c_78 => absurd c_78 (by omega)) (fun c_78 => ?_)
            refine mx_il3 d_Mo_dry_81 ?_
            refine mx_ifB_eq 119 d_Mo_dry_82 (by decide) (fun c_82 => ?_) (fun c_82 => ?_)
            · skip
              refine mx_il3 d_Mo_dry_119 ?_
              refine mx_ifB_eq 125 d_Mo_dry_120 (by decide) (fun c_120 => ?_) (fun c_120 => ?_)
              · skip
                refine mx_iN2 d_Mo_dry_125 ?_
                refine mx_goto 38 d_Mo_dry_128 (by decide) ?_
                refine mx_dn3 ?_
                refine mx_dn4 ?_
                have e1 : nI (dr_f D m H s) = (dr_v (dr_f D m H (s + 1))) := by first | exact absurd c_120 (by rw [c_82]; decide) | (rw [dr_f_y c_120, dr_v_n (by omega)]; done) | (rw [dr_f_n (Nat.le_refl H) c_120]; done) | (rw [dr_f_n (by omega) c_82]; done) | (rw [dr_f_n (by omega) c_82, dr_v_n hb6]; done) | (rw [dr_f_n (Nat.le_refl H) c_120, dr_v_n hb6]; done)
                refine mx_lsc (congrArg (fun z9 => ([some (.ref (mo)), some (.int (z9)), some (.int (nI (s + 1))), none, none] : List (Option Value))) e1) ?_
                exact ih38
              · skip
                refine mx_il2 d_Mo_dry_123 ?_
                refine mx_is1 d_Mo_dry_124 ?_
                refine mx_iN2 d_Mo_dry_125 ?_
                refine mx_goto 38 d_Mo_dry_128 (by decide) ?_
                refine mx_dn3 ?_
                refine mx_dn4 ?_
                have e1 : nI (s) = (dr_v (dr_f D m H (s + 1))) := by first | exact absurd c_120 (by rw [c_82]; decide) | (rw [dr_f_y c_120, dr_v_n (by omega)]; done) | (rw [dr_f_n (Nat.le_refl H) c_120]; done) | (rw [dr_f_n (by omega) c_82]; done) | (rw [dr_f_n (by omega) c_82, dr_v_n hb6]; done) | (rw [dr_f_n (Nat.le_refl H) c_120, dr_v_n hb6]; done)
                refine mx_lsc (congrArg (fun z9 => ([some (.ref (mo)), some (.int (z9)), some (.int (nI (s + 1))), none, none] : List (Option Value))) e1) ?_
                exact ih38
            · skip
              refine mx_al0 d_Mo_dry_85 ?_
              refine mx_getR d_Mo_dry_86 fl_Mo_41 (by assumption) (by assumption) ?_
              refine mx_il4 d_Mo_dry_89 ?_
              refine mx_iald d_Mo_dry_91 (by assumption) (nI_inb (by omega) (by omega)) ?_
              refine mx_ti (y := K (mo + 10) (h)) (by rw [nI_clamp (by omega)]) ?_
              refine mx_ti (y := (vs_mq D m h 8)) (hinv.2 h (by omega)) ?_
              refine mx_if_eq 107 d_Mo_dry_92 (by decide) (fun c_92 => ?_) (fun c_92 => ?_)
              · skip
                have k2 : dr_no D m H s h = false := by unfold dr_no dr_w; rw [if_pos (by omega), decide_eq_false (fun z => z c_92)]; rfl
                refine mx_in_1 d_Mo_dry_107 ?_
                refine mx_goto 112 d_Mo_dry_108 (by decide) ?_
                refine mx_is3 d_Mo_dry_112 ?_
                refine mx_iN4 d_Mo_dry_113 ?_
                refine mx_goto 70 d_Mo_dry_116 (by decide) ?_
                have e3 : nI (1) = bI ((dr_cc D m H s && dr_ok D m H s (h + 1))) := by rw [dr_ok_s, k2]; first | (rw [Bool.not_false, Bool.and_true, c_82]; rfl) | (rw [Bool.not_true, Bool.and_false, Bool.and_false]; rfl)
                refine mx_lsc (congrArg (fun z9 => ([some (.ref (mo)), some (.int (nI (dr_f D m H s))), some (.int (nI (s))), some (.int (z9)), some (.int (nI (h + 1)))] : List (Option Value))) e3) ?_
                exact ih
              · skip
                refine mx_al0 d_Mo_dry_95 ?_
                refine mx_getR d_Mo_dry_96 fl_Mo_41 (by assumption) (by assumption) ?_
                refine mx_il4 d_Mo_dry_99 ?_
                refine mx_iald d_Mo_dry_101 (by assumption) (nI_inb (by omega) (by omega)) ?_
                refine mx_ti (y := K (mo + 10) (h)) (by rw [nI_clamp (by omega)]) ?_
                refine mx_ti (y := (vs_mq D m h 8)) (hinv.2 h (by omega)) ?_
                refine mx_il2 d_Mo_dry_102 ?_
                refine mx_iand d_Mo_dry_103 ?_
                refine mx_if_eq 111 d_Mo_dry_104 (by decide) (fun c_104 => ?_) (fun c_104 => ?_)
                · skip
                  have k2 : dr_no D m H s h = true := by unfold dr_no dr_w; rw [if_pos (by omega), decide_eq_true c_92, decide_eq_true c_104]; rfl
                  refine mx_in_0 d_Mo_dry_111 ?_
                  refine mx_is3 d_Mo_dry_112 ?_
                  refine mx_iN4 d_Mo_dry_113 ?_
                  refine mx_goto 70 d_Mo_dry_116 (by decide) ?_
                  have e3 : nI (0) = bI ((dr_cc D m H s && dr_ok D m H s (h + 1))) := by rw [dr_ok_s, k2]; first | (rw [Bool.not_false, Bool.and_true, c_82]; rfl) | (rw [Bool.not_true, Bool.and_false, Bool.and_false]; rfl)
                  refine mx_lsc (congrArg (fun z9 => ([some (.ref (mo)), some (.int (nI (dr_f D m H s))), some (.int (nI (s))), some (.int (z9)), some (.int (nI (h + 1)))] : List (Option Value))) e3) ?_
                  exact ih
                · skip
                  have k2 : dr_no D m H s h = false := by unfold dr_no dr_w; rw [if_pos (by omega), decide_eq_false c_104, Bool.and_false]
                  refine mx_in_1 d_Mo_dry_107 ?_
                  refine mx_goto 112 d_Mo_dry_108 (by decide) ?_
                  refine mx_is3 d_Mo_dry_112 ?_
                  refine mx_iN4 d_Mo_dry_113 ?_
                  refine mx_goto 70 d_Mo_dry_116 (by decide) ?_
                  have e3 : nI (1) = bI ((dr_cc D m H s && dr_ok D m H s (h + 1))) := by rw [dr_ok_s, k2]; first | (rw [Bool.not_false, Bool.and_true, c_82]; rfl) | (rw [Bool.not_true, Bool.and_false, Bool.and_false]; rfl)
                  refine mx_lsc (congrArg (fun z9 => ([some (.ref (mo)), some (.int (nI (dr_f D m H s))), some (.int (nI (s))), some (.int (z9)), some (.int (nI (h + 1)))] : List (Option Value))) e3) ?_
                  exact ih
          · try dsimp only
            refine mx_il4 d_Mo_dry_70 ?_
            refine mx_al0 d_Mo_dry_72 ?_
            refine mx_getR d_Mo_dry_73 fl_Mo_7 (by assumption) (by assumption) ?_
            refine mx_in_3 d_Mo_dry_76 ?_
            refine mx_iald d_Mo_dry_77 (by assumption) (nI_inb (by omega) (by omega)) ?_
            refine mx_ti (y := K (mo + 1) (3)) (by rw [nI_clamp (by omega)]) ?_
            refine mx_ti (y := nI (H)) ((congrFun hmK 3).trans hH) ?_
            refine mx_icN_ge 119 d_Mo_dry_78 (by decide) (by omega) (by omega) (fun c_78 => ?_) (fun c_78 => absurd c_78 (by omega))
            refine mx_il3 d_Mo_dry_119 ?_
            refine mx_ifB_eq 125 d_Mo_dry_120 (by decide) (fun c_120 => ?_) (fun c_120 => ?_)
            · skip
              refine mx_iN2 d_Mo_dry_125 ?_
              refine mx_goto 38 d_Mo_dry_128 (by decide) ?_
              refine mx_dn3 ?_
              refine mx_dn4 ?_
              have e1 : nI (dr_f D m H s) = (dr_v (dr_f D m H (s + 1))) := by first | exact absurd c_120 (by rw [c_82]; decide) | (rw [dr_f_y c_120, dr_v_n (by omega)]; done) | (rw [dr_f_n (Nat.le_refl H) c_120]; done) | (rw [dr_f_n (by omega) c_82]; done) | (rw [dr_f_n (by omega) c_82, dr_v_n hb6]; done) | (rw [dr_f_n (Nat.le_refl H) c_120, dr_v_n hb6]; done)
              refine mx_lsc (congrArg (fun z9 => ([some (.ref (mo)), some (.int (z9)), some (.int (nI (s + 1))), none, none] : List (Option Value))) e1) ?_
              exact ih
            · skip
              refine mx_il2 d_Mo_dry_123 ?_
              refine mx_is1 d_Mo_dry_124 ?_
              refine mx_iN2 d_Mo_dry_125 ?_
              refine mx_goto 38 d_Mo_dry_128 (by decide) ?_
              refine mx_dn3 ?_
              refine mx_dn4 ?_
              have e1 : nI (s) = (dr_v (dr_f D m H (s + 1))) := by first | exact absurd c_120 (by rw [c_82]; decide) | (rw [dr_f_y c_120, dr_v_n (by omega)]; done) | (rw [dr_f_n (Nat.le_refl H) c_120]; done) | (rw [dr_f_n (by omega) c_82]; done) | (rw [dr_f_n (by omega) c_82, dr_v_n hb6]; done) | (rw [dr_f_n (Nat.le_refl H) c_120, dr_v_n hb6]; done)
              refine mx_lsc (congrArg (fun z9 => ([some (.ref (mo)), some (.int (z9)), some (.int (nI (s + 1))), none, none] : List (Option Value))) e1) ?_
              exact ih
    · try dsimp only
      refine mx_il2 d_Mo_dry_38 ?_
      refine mx_sip 256 d_Mo_dry_39 (by decide) ?_
      refine mx_icN_ge 131 d_Mo_dry_42 (by decide) (by omega) (by omega) (fun c_42 => ?_) (fun c_42 => absurd c_42 (by omega))
      refine mx_il1 d_Mo_dry_131 ?_
      exact mx_iret d_Mo_dry_132 rfl (mx_sR_i (by rw [dr_v_n (dr_f_lt hH8)]) hinv.1)
end AL45
