/-! THE REFERENCE'S WAYS -/
section AO51
variable {l : Launch} {E : mx_Env} {t : Nat} {S : mx_S} {I : mx_I} {P : mx_P} {J : mx_G} {m : Nat → Int32} {x mo H G n k h g lf kk rr s : Nat} {W L : Nat → Nat → Nat} {my : Nat → Nat → Bool} {B Wt N0 M : Nat → Nat} {R : Bool}
def wh_s (B : Nat → Nat) (n : Nat) : Nat := vf n (fun h s => if B h < 8 then bset s h else s) 0
def wg_s (B : Nat → Nat) (n : Nat) : Nat := vf n (fun h s => if B h < 8 then bset s (B h) else s) 0
theorem wh_s_s (B : Nat → Nat) (n : Nat) : wh_s B (n + 1) = if B n < 8 then bset (wh_s B n) n else wh_s B n := rfl
theorem wg_s_s (B : Nat → Nat) (n : Nat) : wg_s B (n + 1) = if B n < 8 then bset (wg_s B n) (B n) else wg_s B n := rfl
theorem wh_is : ∀ n, n ≤ 8 → wh_s B n < 256 ∧ (∀ i, i < 8 → (wh_s B n).testBit i = decide (i < n ∧ B i < 8)) ∧ vs_pc (wh_s B n) = fb_ct (fun j => decide (B j < 8)) n
  | 0, _ => ⟨by show 0 < 256; omega, fun i _ => by rw [show wh_s B 0 = 0 from rfl, Nat.zero_testBit, decide_eq_false (by omega)], (by decide +kernel : vs_pc 0 = 0)⟩
  | n + 1, hn => by
    obtain ⟨h1, h2, h3⟩ := wh_is n (by omega)
    rw [wh_s_s, fb_ct_succ]
    by_cases q : B n < 8
    · have hb : (wh_s B n).testBit n = false := by rw [h2 n (by omega), decide_eq_false (by omega)]
      rw [if_pos q, decide_eq_true q]
      refine ⟨bset_256 _ h1 n (by omega), fun i hi => ?_, by rw [pc_set _ h1 n (by omega) hb, h3]; rfl⟩
      rw [bset_tb, h2 i hi]
      by_cases e : i = n
      · subst e; rw [decide_eq_true (show i < i + 1 ∧ B i < 8 from ⟨by omega, q⟩)]; simp
      · rw [decide_eq_false e, Bool.or_false]
        exact decide_eq_decide.mpr (by omega)
    · rw [if_neg q, decide_eq_false q]
      refine ⟨h1, fun i hi => ?_, h3⟩
      rw [h2 i hi]
      by_cases e : i = n
      · subst e; exact decide_eq_decide.mpr ⟨fun z => absurd z.1 (by omega), fun z => absurd z.2 q⟩
      · exact decide_eq_decide.mpr (by omega)
theorem wg_is (hi : ∀ h k, h < 8 → k < 8 → B h < 8 → B h = B k → h = k) : ∀ n, n ≤ 8 → wg_s B n < 256 ∧ (∀ g, g < 8 → ((wg_s B n).testBit g = true ↔ ∃ j, j < n ∧ B j = g)) ∧ vs_pc (wg_s B n) = fb_ct (fun j => decide (B j < 8)) n
  | 0, _ => ⟨by show 0 < 256; omega, fun g _ => ⟨fun z => (by rw [show wg_s B 0 = 0 from rfl, Nat.zero_testBit] at z; cases z), fun ⟨j, hj, _⟩ => absurd hj (by omega)⟩, (by decide +kernel : vs_pc 0 = 0)⟩
  | n + 1, hn => by
    obtain ⟨h1, h2, h3⟩ := wg_is hi n (by omega)
    rw [wg_s_s, fb_ct_succ]
    by_cases q : B n < 8
    · have hb : (wg_s B n).testBit (B n) = false := by
        cases z : (wg_s B n).testBit (B n)
        · rfl
        · obtain ⟨j, hj, e⟩ := (h2 (B n) q).mp z
          have := hi j n (by omega) (by omega) (by omega) e
          omega
      rw [if_pos q, decide_eq_true q]
      refine ⟨bset_256 _ h1 _ q, fun g hg => ?_, by rw [pc_set _ h1 _ q hb, h3]; rfl⟩
      rw [bset_tb, Bool.or_eq_true, decide_eq_true_iff, h2 g hg]
      constructor
      · rintro (⟨j, hj, e⟩ | e)
        · exact ⟨j, by omega, e⟩
        · exact ⟨n, by omega, e.symm⟩
      · rintro ⟨j, hj, e⟩
        by_cases z : j = n
        · subst z; exact Or.inr e.symm
        · exact Or.inl ⟨j, by omega, e⟩
    · rw [if_neg q, decide_eq_false q]
      refine ⟨h1, fun g hg => ?_, h3⟩
      rw [h2 g hg]
      constructor
      · rintro ⟨j, hj, e⟩; exact ⟨j, by omega, e⟩
      · rintro ⟨j, hj, e⟩
        by_cases z : j = n
        · subst z; omega
        · exact ⟨j, by omega, e⟩
theorem wy_B_inj (he : wy_env W L H G B Wt N0) : ∀ h k, h < 8 → k < 8 → B h < 8 → B h = B k → h = k := fun h k hh hk hB e => by
  have a := (he.2.2.2.2.2.1.1.1 h hh hB).1
  have b := (he.2.2.2.2.2.1.1.1 k hk (by omega)).1
  rw [← e, a] at b; exact b
theorem wy_lf_0 (he : wy_env W L H G B Wt N0) : wy_lf H B N0 (fun _ => 8) 0 (wg_s B H) := by
  have hH := he.2.2.2.2.1.1
  obtain ⟨g1, g2, g3⟩ := wg_is (wy_B_inj he) H hH
  obtain ⟨a1, a2⟩ := he.2.2.2.2.2.1.1
  refine ⟨g1, fun g hg => ?_, by rw [g3]; rfl, tb_hi g1⟩
  rw [g2 g hg]
  constructor
  · rintro ⟨j, hj, e⟩
    have := (a1 j (by omega) (by omega)).1
    rw [e] at this
    exact ⟨by omega, fun k hk => absurd hk (by omega)⟩
  · rintro ⟨q, -⟩
    have e := a2 g hg q
    have w := (a1 (N0 g) q (by omega)).2
    exact ⟨N0 g, (he.2.2.2.1 _ _ w).1, e⟩
/-- while one number is told off -/
def iw_at (I K : mx_I) (mo H G : Nat) (W L : Nat → Nat → Nat) (my : Nat → Nat → Bool) (B N0 : Nat → Nat) (R : Bool) (h kk lf rr : Nat) (ok : Bool) : Prop := mx_off (fun c => c = mo + 7 ∨ c = mo + 8) I K ∧ rr = vs_pc lf ∧ (∀ j, j < 8 → ¬ B j < 8 → K (mo + 7) j = -1) ∧ (∀ g, g < 8 → ¬ N0 g < 8 → K (mo + 8) g = -1) ∧ (ok = false → R = false) ∧ (ok = true → ∃ M, wy_lf H B N0 M h lf ∧ (∀ j, j < h → K (mo + 7) j = mtv (M j)) ∧ (∀ j, j < h → M j < 8 → K (mo + 8) (M j) = nI j ∧ my j (M j) = true ∧ N0 (M j) < 8) ∧ (∀ j, j < h → ∀ k, k < h → M j < 8 → M j = M k → j = k) ∧ R = wy_iw W L my G H B (H - h) M lf kk)
def iw_k (K : mx_I) (mo : Nat) (B N0 : Nat → Nat) : Prop := (∀ j, j < 8 → ¬ B j < 8 → K (mo + 7) j = -1) ∧ ∀ g, g < 8 → ¬ N0 g < 8 → K (mo + 8) g = -1
theorem iw_0 (he : wy_env W L H G B Wt N0) (hk : iw_k I mo B N0) (hs : rr = vs_pc (wg_s B H)) (hR : R = wy_iw W L my G H B H (fun _ => 8) (wg_s B H) kk) : iw_at I I mo H G W L my B N0 R 0 kk (wg_s B H) rr true := ⟨fun _ _ => rfl, hs, hk.1, hk.2, fun z => (by cases z), fun _ => ⟨fun _ => 8, wy_lf_0 he, fun j hj => absurd hj (by omega), fun j hj => absurd hj (by omega), fun j hj => absurd hj (by omega), hR⟩⟩
theorem iw_skip {K : mx_I} (h1 : iw_at I K mo H G W L my B N0 R h kk lf rr true) (hh : h < H) (hH : H ≤ 8) (hB : ¬ B h < 8) : iw_at I K mo H G W L my B N0 R (h + 1) kk lf rr true := by
  obtain ⟨a1, a2, a3, a4, a5, a6⟩ := h1
  refine ⟨a1, a2, a3, a4, a5, fun _ => ?_⟩
  obtain ⟨M, b1, b2, b3, b4, b5⟩ := a6 rfl
  refine ⟨updN M h 8, wy_lf_8 b1 hB, fun j hj => ?_, fun j hj hM => ?_, fun j hj k hk hM e => ?_, ?_⟩
  · by_cases q : j = h
    · subst q; rw [updN_e, a3 j (by omega) hB]; rfl
    · rw [updN_n q]; exact b2 j (by omega)
  · by_cases q : j = h
    · subst q; rw [updN_e] at hM; omega
    · rw [updN_n q] at hM ⊢; exact b3 j (by omega) hM
  · by_cases q : j = h
    · subst q; rw [updN_e] at hM; omega
    · rw [updN_n q] at hM e
      by_cases q2 : k = h
      · subst q2; rw [updN_e] at e; omega
      · rw [updN_n q2] at e; exact b4 j (by omega) k (by omega) hM e
  · rw [b5]
    obtain ⟨n, en⟩ : ∃ n, H - h = n + 1 := ⟨H - h - 1, by omega⟩
    rw [en, show H - (h + 1) = n by omega]
    have eh : H - (n + 1) = h := by omega
    show (if B (H - (n + 1)) < 8 then _ else _) = _
    rw [eh, if_neg hB]
/-- the facts of one step -/
theorem iw_fact {K : mx_I} (h1 : iw_at I K mo H G W L my B N0 R h kk lf rr true) (hh : h < H) (hB : B h < 8) : lf < 256 ∧ 0 < rr ∧ rr ≤ 8 ∧ kk % rr < fb_ct lf.testBit 8 ∧ wy_kt lf.testBit (kk % rr) < 8 ∧ lf.testBit (wy_kt lf.testBit (kk % rr)) = true := by
  obtain ⟨a1, a2, a3, a4, a5, a6⟩ := h1
  obtain ⟨M, b1, b2, b3, b4, b5⟩ := a6 rfl
  have p := wy_lf_pos b1 hh hB
  have e := pc_tb lf b1.1
  have f := fb_ct_le lf.testBit 8
  have g := Nat.mod_lt kk (show 0 < rr by omega)
  obtain ⟨c1, c2, -⟩ := wy_kt_is (p := lf.testBit) (i := kk % rr) (by omega)
  exact ⟨b1.1, by omega, by omega, by omega, c1, c2⟩
theorem iw_step {K : mx_I} (h1 : iw_at I K mo H G W L my B N0 R h kk lf rr true) (hh : h < H) (hH : H ≤ 8) (hB : B h < 8) (hg : g = wy_kt lf.testBit (kk % rr)) : iw_at I (mx_up (mx_up K (mo + 7) h (nI g)) (mo + 8) g (nI h)) mo H G W L my B N0 R (h + 1) (kk / rr) (lf - 2 ^ g) (rr - 1) (my h g) := by
  obtain ⟨f1, f2, f3, f4, f5, f6⟩ := iw_fact h1 hh hB
  rw [← hg] at f5 f6
  obtain ⟨a1, a2, a3, a4, a5, a6⟩ := h1
  obtain ⟨M, b1, b2, b3, b4, b5⟩ := a6 rfl
  have hN := (b1.2.1 g f5).mp f6
  have pc := pc_clr lf f1 g f5 f6
  have eR : R = (my h g && wy_iw W L my G H B (H - (h + 1)) (updN M h g) (lf - 2 ^ g) (kk / rr)) := by
    rw [b5]
    obtain ⟨n, en⟩ : ∃ n, H - h = n + 1 := ⟨H - h - 1, by omega⟩
    rw [en, show H - (h + 1) = n by omega]
    have eh : H - (n + 1) = h := by omega
    show (if B (H - (n + 1)) < 8 then _ else _) = _
    rw [eh, if_pos hB, ← a2, ← hg]
  have r7 : ∀ j, (mx_up (mx_up K (mo + 7) h (nI g)) (mo + 8) g (nI h)) (mo + 7) j = if j = h then nI g else K (mo + 7) j := fun j => by rw [mx_up_ne (by omega)]; simp [mx_up]
  have r8 : ∀ j, (mx_up (mx_up K (mo + 7) h (nI g)) (mo + 8) g (nI h)) (mo + 8) j = if j = g then nI h else K (mo + 8) j := fun j => by simp [mx_up]
  refine ⟨fun c hc => ?_, by omega, fun j hj hn => ?_, fun b hb hn => ?_, fun z => by rw [eR, z]; rfl, fun z => ?_⟩
  · rw [mx_up_ne (fun z => hc (Or.inr z)), mx_up_ne (fun z => hc (Or.inl z))]; exact a1 c hc
  · rw [r7, if_neg (fun z => hn (by rw [z]; exact hB))]; exact a3 j hj hn
  · rw [r8, if_neg (fun z => hn (by rw [z]; exact hN.1))]; exact a4 b hb hn
  · refine ⟨updN M h g, wy_lf_g b1 hB f5 f6, fun j hj => ?_, fun j hj hM => ?_, fun j hj k hk hM e => ?_, by rw [eR, z, Bool.true_and]⟩
    · rw [r7]
      by_cases q : j = h
      · subst q; rw [if_pos rfl, updN_e, mtv_lt f5]
      · rw [if_neg q, updN_n q]; exact b2 j (by omega)
    · by_cases q : j = h
      · subst q; rw [updN_e, r8, if_pos rfl]; exact ⟨rfl, z, hN.1⟩
      · rw [updN_n q] at hM ⊢
        rw [r8, if_neg (hN.2 j (by omega))]
        exact b3 j (by omega) hM
    · by_cases q : j = h
      · subst q
        rw [updN_e] at e
        by_cases q2 : k = j
        · exact q2.symm
        · rw [updN_n q2] at e; exact absurd e.symm (hN.2 k (by omega))
      · rw [updN_n q] at hM e
        by_cases q2 : k = h
        · subst q2; rw [updN_e] at e; exact absurd e (hN.2 j (by omega))
        · rw [updN_n q2] at e; exact b4 j (by omega) k (by omega) hM e
theorem wy_N0G (he : wy_env W L H G B Wt N0) (hg : g < 8) (h : N0 g < 8) : g < G := by
  obtain ⟨a1, a2⟩ := he.2.2.2.2.2.1.1
  have e := a2 g hg h
  have w := (a1 (N0 g) h (by omega)).2
  rw [e] at w
  exact (he.2.2.2.1 _ _ w).2
/-- all told -/
theorem iw_end {K : mx_I} (hr : rk9 m) (he : wy_env (WW m H G) (LW m H G) H G B Wt N0) (h1 : iw_at I K mo H G (WW m H G) (LW m H G) (vs_may m) B N0 R H kk lf rr true) : ∃ M, (∀ h, h < H → K (mo + 7) h = mtv (M h)) ∧ (∀ g, g < 8 → K (mo + 8) g = mtv (vs_ho M H g)) ∧ vs_raP m M (vs_ho M H) G H ≤ 64 ∧ R = decide (vs_raP m M (vs_ho M H) G H = 0) := by
  obtain ⟨a1, a2, a3, a4, a5, a6⟩ := h1
  obtain ⟨M, b1, b2, b3, b4, b5⟩ := a6 rfl
  have hH := he.2.2.2.2.1.1
  have hG := he.2.2.2.2.1.2
  have l0 : vs_pc lf = 0 := by have := b1.2.2.1; omega
  have ln : ∀ g, g < 8 → lf.testBit g = false := fb_ct_zero.mp (by rw [← pc_tb lf b1.1]; exact l0)
  have hG8 : ∀ h, h < H → M h < 8 → M h < G := fun h hh hM => wy_N0G he hM (b3 h hh hM).2.2
  have hho : ∀ h, h < H → M h < 8 → vs_ho M H (M h) = h := fun h hh hM => vs_ho_at hH hh rfl (fun k hk e => (b4 h hh k hk hM e.symm).symm)
  have era := vs_ra_rv hr hH hG (M := M) (N := vs_ho M H) (fun h hh hM => ⟨hG8 h hh hM, (b3 h hh hM).2.1⟩) (fun g hg hN => by
    obtain ⟨q1, q2⟩ := vs_ho_in hN
    have := (b3 _ q1 (by omega)).2.1
    rw [q2] at this
    exact ⟨q1, this⟩)
  refine ⟨M, b2, fun g hg => ?_, by rw [era]; exact rv_le _ _ _ _ hG hH, ?_⟩
  · by_cases q : vs_ho M H g < 8
    · obtain ⟨q1, q2⟩ := vs_ho_in q
      have := (b3 _ q1 (by omega)).1
      rw [q2] at this
      rw [this, mtv_lt q]
    · rw [mtv_ge q]
      refine a4 g hg (fun z => ?_)
      have := (b1.2.1 g hg).mpr ⟨z, fun j hj e => q (by rw [← e, hho j hj (by omega)]; omega)⟩
      rw [ln g hg] at this; cases this
  · rw [b5, Nat.sub_self]
    show decide (gd_p (WW m H G) (LW m H G) G H M) = _
    rw [era]
    exact decide_eq_decide.mpr ⟨fun z => z.2.2, fun z => ⟨fun h hh hM => (WW_may hr hH hG).mpr ⟨⟨hh, hG8 h hh hM⟩, (b3 h hh hM).2.1⟩, b4, z⟩⟩
theorem nI_dv {a b : Nat} (ha : a < 2 ^ 31) (hb : b < 2 ^ 31) : nI a / nI b = nI (a / b) := by
  apply Int32.toInt_inj.mp
  have hq := Nat.div_le_self a b
  rw [Int32.toInt_div, nI_toInt ha, nI_toInt hb, ← Int.ofNat_tdiv]
  generalize a / b = c at hq ⊢
  rw [nI_toInt (by omega), Int.bmod_eq_of_le (by omega) (by omega)]
theorem nI_md {a b : Nat} (ha : a < 2 ^ 31) (hb : b < 2 ^ 31) : nI a - nI a / nI b * nI b = nI (a % b) := by
  have e := Nat.div_add_mod a b
  have e2 := Nat.mul_comm b (a / b)
  rw [nI_dv ha hb, nI_mul, nI_sub (by omega)]
  congr 1
  omega
theorem wy_fc_le : ∀ n, n ≤ 8 → wy_fc n ≤ 40320 := by decide +kernel
theorem c_Mo_kth {i : Nat} (hs : s < 256) (hi : i < fb_ct s.testBit 8) : mx_C l E M_Mo_kth 1 0 0 [.int (nI (s)), .int (nI (i))] (t, S, I, P, J) (mx_ri (nI (wy_kt s.testBit i)) (t, S, I, P, J)) := by
  have hcl := fb_ct_le s.testBit 8
  refine mx_C_of (ls0 := [some (.int (nI (s))), some (.int (nI (i))), none, none]) (by decide +kernel) rfl rfl (Nat.le_of_ble_eq_true rfl) rfl ?_
  refine mx_in_0 d_Mo_kth_0 ?_
  refine mx_is2 d_Mo_kth_1 ?_
  refine mx_in_0 d_Mo_kth_2 ?_
  refine mx_is3 d_Mo_kth_3 ?_
  refine mx_loopI (N := 8) (fun j => fb_ct s.testBit j ≤ i) (ls := fun j => [some (.int (nI (s))), some (.int (nI (i))), some (.int (nI (fb_ct s.testBit j))), some (.int (nI (j)))]) (X := fun j => (t, S, I, P, J)) (Nat.zero_le _) (fun j hj hinv ih => ?_) (fun hinv => ?_)
  · try dsimp only at hinv ih ⊢
    refine mx_il3 d_Mo_kth_4 ?_
    refine mx_bip 8 d_Mo_kth_5 (by decide) ?_
    refine mx_icN_ge 37 d_Mo_kth_7 (by decide) (by omega) (by omega) (fun c_7 => absurd c_7 (by omega)) (fun c_7 => ?_)
    refine mx_il0 d_Mo_kth_10 ?_
    refine mx_il3 d_Mo_kth_11 ?_
    have hle := fb_ct_le s.testBit j
    refine mx_cS2i d_Mo_kth_12 (c_Mo_isOf (j := j) (by omega)) ok_Mo_isOf ml_Mo_74 (by decide) (Nat.le_of_ble_eq_true rfl) ?_
    refine mx_ifB_ne 21 d_Mo_kth_15 (by decide) (fun c_15 => ?_) (fun c_15 => ?_)
    · skip
      rw [vs_bt_nI _ _ (by omega)] at c_15
      refine mx_il2 d_Mo_kth_21 ?_
      refine mx_il1 d_Mo_kth_22 ?_
      refine mx_icN_ne 28 d_Mo_kth_23 (by decide) (by omega) (by omega) (fun c_23 => ?_) (fun c_23 => ?_)
      · skip
        refine mx_iN2 d_Mo_kth_28 ?_
        refine mx_iN3 d_Mo_kth_31 ?_
        refine mx_goto 4 d_Mo_kth_34 (by decide) ?_
        have e2 : nI (fb_ct s.testBit j + 1) = nI (fb_ct s.testBit (j + 1)) := by first | (rw [fb_ct_succ, if_pos c_15]; done) | (rw [fb_ct_succ, if_neg (by rw [c_15]; decide), Nat.add_zero]; done)
        refine mx_lsc (congrArg (fun z9 => ([some (.int (nI (s))), some (.int (nI (i))), some (.int (z9)), some (.int (nI (j + 1)))] : List (Option Value))) e2) ?_
        exact ih (by rw [fb_ct_succ]; first | (rw [if_neg (by rw [c_15]; decide)]; exact hinv) | (rw [if_pos c_15]; omega))
      · skip
        refine mx_il3 d_Mo_kth_26 ?_
        exact mx_iret d_Mo_kth_27 rfl (mx_ri_of (by rw [wy_kt_eq (by omega) c_15 (by omega)]))
    · skip
      rw [vs_bt_nI _ _ (by omega)] at c_15
      refine mx_goto 31 d_Mo_kth_18 (by decide) ?_
      refine mx_iN3 d_Mo_kth_31 ?_
      refine mx_goto 4 d_Mo_kth_34 (by decide) ?_
      have e2 : nI (fb_ct s.testBit j) = nI (fb_ct s.testBit (j + 1)) := by first | (rw [fb_ct_succ, if_pos c_15]; done) | (rw [fb_ct_succ, if_neg (by rw [c_15]; decide), Nat.add_zero]; done)
      refine mx_lsc (congrArg (fun z9 => ([some (.int (nI (s))), some (.int (nI (i))), some (.int (z9)), some (.int (nI (j + 1)))] : List (Option Value))) e2) ?_
      exact ih (by rw [fb_ct_succ]; first | (rw [if_neg (by rw [c_15]; decide)]; exact hinv) | (rw [if_pos c_15]; omega))
  · try dsimp only at hinv ⊢
    have hle := fb_ct_le s.testBit 8
    refine mx_il3 d_Mo_kth_4 ?_
    refine mx_bip 8 d_Mo_kth_5 (by decide) ?_
    refine mx_icN_ge 37 d_Mo_kth_7 (by decide) (by omega) (by omega) (fun c_7 => ?_) (fun c_7 => absurd c_7 (by omega))
    refine mx_ic_m1 d_Mo_kth_37 ?_
    exact mx_iret d_Mo_kth_38 rfl (mx_ri_of (absurd hi (by omega)))
theorem c_Mo_isWay (hM : mo_ok S P mo) (hm : I (mo + 1) = m) (hH : m 3 = nI H) (hH8 : H ≤ 8) (hG : m 4 = nI G) (hG8 : G ≤ 8) (he : wy_env (WW m H G) (LW m H G) H G B Wt N0) (hr : rk9 m) (hk : iw_k I mo B N0) (hR : R = wy_iw (WW m H G) (LW m H G) (vs_may m) G H B H (fun _ => 8) (wg_s B H) n) (hn : n < 50000) : mx_C l E M_Mo_isWay 5 0 0 [.ref (mo), .int (nI (n)), .int (nI (wh_s B H)), .int (nI (wg_s B H))] (t, S, I, P, J) (mx_sR (some (.int (bI R))) t S P J (fun K => mx_off (fun c => c = mo + 7 ∨ c = mo + 8) I K ∧ iw_k K mo B N0)) := by
  obtain ⟨hM0, hMp1, hMp2, hMp4, hMp5, hMp7, hMp14, hMp21, hMp22, hMp23, hMp24, hMp25, hMp26, hMp27, hMs1, hMs2, hMs3, hMs4, hMs5, hMs6, hMs7, hMs8, hMs9, hMs10, hMs11, hMs12, hMs13⟩ := id hM
  have hwh := wh_is (B := B) H hH8
  have hwg := wg_is (wy_B_inj he) H hH8
  refine mx_C_of (ls0 := [some (.ref (mo)), some (.int (nI (n))), some (.int (nI (wh_s B H))), some (.int (nI (wg_s B H))), none, none, none, none, none, none]) (by decide +kernel) rfl rfl (Nat.le_of_ble_eq_true rfl) rfl ?_
  refine mx_il1 d_Mo_isWay_0 ?_
  refine mx_is4 d_Mo_isWay_1 ?_
  refine mx_il3 d_Mo_isWay_3 ?_
  refine mx_is5 d_Mo_isWay_4 ?_
  refine mx_il2 d_Mo_isWay_6 ?_
  refine mx_cS1i d_Mo_isWay_7 (c_Mo_bitsN (k := wh_s B H)) ok_Mo_bits ml_Mo_303 (by decide) (Nat.le_of_ble_eq_true rfl) ?_
  refine mx_is6 d_Mo_isWay_10 ?_
  refine mx_in_1 d_Mo_isWay_12 ?_
  refine mx_is7 d_Mo_isWay_13 ?_
  refine mx_in_0 d_Mo_isWay_15 ?_
  refine mx_is8 d_Mo_isWay_16 ?_
  refine mx_lsc (congrArg (fun z9 => ([some (.ref (mo)), some (.int (nI (n))), some (.int (nI (wh_s B H))), some (.int (nI (wg_s B H))), some (.int (nI (n))), some (.int (nI (wg_s B H))), some (.int (nI (vs_pc (wh_s B H)))), some (.int (z9)), some (.int (nI (0))), none] : List (Option Value))) ((rfl : nI 1 = bI true))) ?_
  refine mx_loopX (α := (mx_I × Nat × Nat × Nat × Bool)) (N := H) (a0 := (I, n, wg_s B H, vs_pc (wh_s B H), true)) (fun h z9 => iw_at I z9.1 mo H G (WW m H G) (LW m H G) (vs_may m) B N0 R (h) (z9.2.1) (z9.2.2.1) (z9.2.2.2.1) (z9.2.2.2.2) ∧ z9.2.1 < 50000) (ls := fun h z9 => [some (.ref (mo)), some (.int (nI (n))), some (.int (nI (wh_s B H))), some (.int (nI (wg_s B H))), some (.int (nI (z9.2.1))), some (.int (nI (z9.2.2.1))), some (.int (nI (z9.2.2.2.1))), some (.int (bI (z9.2.2.2.2))), some (.int (nI (h))), none]) (X := fun h z9 => (t, S, z9.1, P, J)) (⟨iw_0 he hk (by rw [hwh.2.2, hwg.2.2]) hR, hn⟩) (fun h hh z9 hinv ih => ?_) (fun z9 hinv => ?_)
  · skip
    obtain ⟨K, kk, lf, rr, ok⟩ := z9
    try dsimp only at hinv ih ⊢
    obtain ⟨hinv, hkk⟩ := hinv
    have hmK : K (mo + 1) = m := (hinv.1 (mo + 1) (fun z => by have z : mo + 1 = mo + 7 ∨ mo + 1 = mo + 8 := z; omega)).trans hm
    refine mx_il8 d_Mo_isWay_18 ?_
    refine mx_al0 d_Mo_isWay_20 ?_
    refine mx_getR d_Mo_isWay_21 fl_Mo_7 (by assumption) (by assumption) ?_
    refine mx_in_3 d_Mo_isWay_24 ?_
    refine mx_iald d_Mo_isWay_25 (by assumption) (nI_inb (by omega) (by omega)) ?_
    refine mx_ti (y := K (mo + 1) (3)) (by rw [nI_clamp (by omega)]) ?_
    refine mx_ti (y := nI (H)) ((congrFun hmK 3).trans hH) ?_
    refine mx_icN_ge 113 d_Mo_isWay_26 (by decide) (by omega) (by omega) (fun c_26 => absurd c_26 (by omega)) (fun c_26 => ?_)
    refine mx_il7 d_Mo_isWay_29 ?_
    refine mx_ifB_eq 113 d_Mo_isWay_31 (by decide) (fun c_31 => ?_) (fun c_31 => ?_)
    · skip
      subst c_31
      refine mx_il7 d_Mo_isWay_113 ?_
      refine mx_ifB_eq 129 d_Mo_isWay_115 (by decide) (fun c_115 => ?_) (fun c_115 => absurd c_115 (by decide))
      refine mx_in_0 d_Mo_isWay_129 ?_
      exact mx_zret d_Mo_isWay_130 rfl (by first | exact Or.inl rfl | exact Or.inr rfl) (mx_sR_i (by first | (rw [hinv.2.2.2.2.1 c_115]; rfl) | (rw [hinv.2.2.2.2.1 rfl]; rfl) | (rw [e4, decide_eq_true (show _ = 0 from by have z := nI_z (by omega) c_122; omega)]; rfl) | (rw [e4, decide_eq_false (fun e => c_122 (by rw [e]; rfl))]; rfl)) ⟨hinv.1, hinv.2.2.1, hinv.2.2.2.1⟩)
    · skip
      subst c_31
      refine mx_il2 d_Mo_isWay_34 ?_
      refine mx_il8 d_Mo_isWay_35 ?_
      refine mx_cS2i d_Mo_isWay_37 (c_Mo_isOf (j := h) (by omega)) ok_Mo_isOf ml_Mo_74 (by decide) (Nat.le_of_ble_eq_true rfl) ?_
      refine mx_ifB_ne 46 d_Mo_isWay_40 (by decide) (fun c_40 => ?_) (fun c_40 => ?_)
      · skip
        rw [vs_bt_nI _ _ (by omega), hwh.2.1 h (by omega), decide_eq_true_iff] at c_40
        have hB := c_40.2
        obtain ⟨f1, f2, f3, f4, f5, f6⟩ := iw_fact hinv (by omega) hB
        have hlk := hinv.2.1
        refine mx_il5 d_Mo_isWay_46 ?_
        refine mx_il4 d_Mo_isWay_48 ?_
        refine mx_il6 d_Mo_isWay_50 ?_
        refine mx_irem d_Mo_isWay_52 (by exact fun z => by have := nI_z (by omega) z; omega) ?_
        refine mx_ti (y := nI (kk % rr)) ((nI_md (by omega) (by omega))) ?_
        refine mx_cS2i d_Mo_isWay_53 (c_Mo_kth (s := lf) (i := kk % rr) f1 f4) ok_Mo_kth ml_Mo_372 (by decide) (Nat.le_of_ble_eq_true rfl) ?_
        refine mx_is9 d_Mo_isWay_56 ?_
        refine mx_il4 d_Mo_isWay_58 ?_
        refine mx_il6 d_Mo_isWay_60 ?_
        refine mx_idiv d_Mo_isWay_62 (by exact fun z => by have := nI_z (by omega) z; omega) ?_
        refine mx_ti (y := nI (kk / rr)) ((nI_dv (by omega) (by omega))) ?_
        refine mx_is4 d_Mo_isWay_63 ?_
        refine mx_ii6 (v := -1) d_Mo_isWay_65 (by decide) ?_
        refine mx_lsc (congrArg (fun z9 => ([some (.ref (mo)), some (.int (nI (n))), some (.int (nI (wh_s B H))), some (.int (nI (wg_s B H))), some (.int (nI (kk / rr))), some (.int (nI (lf))), some (.int (z9)), some (.int (bI (true))), some (.int (nI (h))), some (.int (nI (wy_kt lf.testBit (kk % rr))))] : List (Option Value))) ((nI_dec (by omega)))) ?_
        refine mx_il5 d_Mo_isWay_68 ?_
        refine mx_in_1 d_Mo_isWay_70 ?_
        refine mx_il9 d_Mo_isWay_71 ?_
        refine mx_ishl d_Mo_isWay_73 ?_
        refine mx_ic_m1 d_Mo_isWay_74 ?_
        refine mx_ixor d_Mo_isWay_75 ?_
        refine mx_iand d_Mo_isWay_76 ?_
        refine mx_ti (y := nI (lf - 2 ^ (wy_kt lf.testBit (kk % rr)))) ((bclr_nI lf f1 (wy_kt lf.testBit (kk % rr)) f5 f6)) ?_
        refine mx_is5 d_Mo_isWay_77 ?_
        refine mx_al0 d_Mo_isWay_79 ?_
        refine mx_getR d_Mo_isWay_80 fl_Mo_32 (by assumption) (by assumption) ?_
        refine mx_il8 d_Mo_isWay_83 ?_
        refine mx_il9 d_Mo_isWay_85 ?_
        refine mx_iast d_Mo_isWay_87 (by assumption) (nI_inb (by omega) (by omega)) ?_
        rw [nI_clamp (by omega)]
        refine mx_al0 d_Mo_isWay_88 ?_
        refine mx_getR d_Mo_isWay_89 fl_Mo_35 (by assumption) (by assumption) ?_
        refine mx_il9 d_Mo_isWay_92 ?_
        refine mx_il8 d_Mo_isWay_94 ?_
        refine mx_iast d_Mo_isWay_96 (by assumption) (nI_inb (by omega) (by omega)) ?_
        rw [nI_clamp (by omega)]
        refine mx_al0 d_Mo_isWay_97 ?_
        refine mx_il8 d_Mo_isWay_98 ?_
        refine mx_il9 d_Mo_isWay_100 ?_
        refine mx_cV2i d_Mo_isWay_102 (cm_mayMeet hM (m := m) (by rw [mx_up_ne (by omega), mx_up_ne (by omega)]; exact hmK) (h := h) (g := wy_kt lf.testBit (kk % rr)) (by omega) f5) ok_Mo_mayMeet ml_Mo_78 (by assumption) ⟨rfl, rfl⟩ (by decide) (Nat.le_of_ble_eq_true rfl) ?_
        refine mx_is7 d_Mo_isWay_105 ?_
        refine mx_iN8 d_Mo_isWay_107 ?_
        refine mx_goto 18 d_Mo_isWay_110 (by decide) ?_
        refine mx_dn9 ?_
        exact ih ((mx_up (mx_up K (mo + 7) (h) (nI (wy_kt lf.testBit (kk % rr)))) (mo + 8) (wy_kt lf.testBit (kk % rr)) (nI (h))), kk / rr, lf - 2 ^ (wy_kt lf.testBit (kk % rr)), rr - 1, vs_may m h (wy_kt lf.testBit (kk % rr))) (⟨iw_step hinv (by omega) hH8 hB rfl, Nat.lt_of_le_of_lt (Nat.div_le_self _ _) hkk⟩)
      · skip
        rw [vs_bt_nI _ _ (by omega), hwh.2.1 h (by omega), decide_eq_false_iff_not] at c_40
        have hB : ¬ B h < 8 := fun z => c_40 ⟨by omega, z⟩
        refine mx_goto 107 d_Mo_isWay_43 (by decide) ?_
        refine mx_iN8 d_Mo_isWay_107 ?_
        refine mx_goto 18 d_Mo_isWay_110 (by decide) ?_
        exact ih (K, kk, lf, rr, true) (⟨iw_skip hinv (by omega) hH8 hB, hkk⟩)
  · skip
    obtain ⟨K, kk, lf, rr, ok⟩ := z9
    try dsimp only at hinv ⊢
    obtain ⟨hinv, hkk⟩ := hinv
    have hmK : K (mo + 1) = m := (hinv.1 (mo + 1) (fun z => by have z : mo + 1 = mo + 7 ∨ mo + 1 = mo + 8 := z; omega)).trans hm
    refine mx_il8 d_Mo_isWay_18 ?_
    refine mx_al0 d_Mo_isWay_20 ?_
    refine mx_getR d_Mo_isWay_21 fl_Mo_7 (by assumption) (by assumption) ?_
    refine mx_in_3 d_Mo_isWay_24 ?_
    refine mx_iald d_Mo_isWay_25 (by assumption) (nI_inb (by omega) (by omega)) ?_
    refine mx_ti (y := K (mo + 1) (3)) (by rw [nI_clamp (by omega)]) ?_
    refine mx_ti (y := nI (H)) ((congrFun hmK 3).trans hH) ?_
    refine mx_icN_ge 113 d_Mo_isWay_26 (by decide) (by omega) (by omega) (fun c_26 => ?_) (fun c_26 => absurd c_26 (by omega))
    refine mx_il7 d_Mo_isWay_113 ?_
    refine mx_ifB_eq 129 d_Mo_isWay_115 (by decide) (fun c_115 => ?_) (fun c_115 => ?_)
    · skip
      refine mx_in_0 d_Mo_isWay_129 ?_
      exact mx_zret d_Mo_isWay_130 rfl (by first | exact Or.inl rfl | exact Or.inr rfl) (mx_sR_i (by first | (rw [hinv.2.2.2.2.1 c_115]; rfl) | (rw [hinv.2.2.2.2.1 rfl]; rfl) | (rw [e4, decide_eq_true (show _ = 0 from by have z := nI_z (by omega) c_122; omega)]; rfl) | (rw [e4, decide_eq_false (fun e => c_122 (by rw [e]; rfl))]; rfl)) ⟨hinv.1, hinv.2.2.1, hinv.2.2.2.1⟩)
    · skip
      subst c_115
      obtain ⟨M, e1, e2, e3, e4⟩ := iw_end hr he hinv
      refine mx_al0 d_Mo_isWay_118 ?_
      refine mx_cV0i d_Mo_isWay_119 (c_Mo_rathers hM hmK hH hH8 hG hG8 hr (M := M) (N9 := vs_ho M H) e1 e2) ok_Mo_rathers ml_Mo_375 (by assumption) ⟨rfl, rfl⟩ (by decide) (Nat.le_of_ble_eq_true rfl) ?_
      refine mx_if_ne 129 d_Mo_isWay_122 (by decide) (fun c_122 => ?_) (fun c_122 => ?_)
      · skip
        refine mx_in_0 d_Mo_isWay_129 ?_
        exact mx_zret d_Mo_isWay_130 rfl (by first | exact Or.inl rfl | exact Or.inr rfl) (mx_sR_i (by first | (rw [hinv.2.2.2.2.1 c_115]; rfl) | (rw [hinv.2.2.2.2.1 rfl]; rfl) | (rw [e4, decide_eq_true (show _ = 0 from by have z := nI_z (by omega) c_122; omega)]; rfl) | (rw [e4, decide_eq_false (fun e => c_122 (by rw [e]; rfl))]; rfl)) ⟨hinv.1, hinv.2.2.1, hinv.2.2.2.1⟩)
      · skip
        refine mx_in_1 d_Mo_isWay_125 ?_
        refine mx_goto 130 d_Mo_isWay_126 (by decide) ?_
        exact mx_zret d_Mo_isWay_130 rfl (by first | exact Or.inl rfl | exact Or.inr rfl) (mx_sR_i (by first | (rw [hinv.2.2.2.2.1 c_115]; rfl) | (rw [hinv.2.2.2.2.1 rfl]; rfl) | (rw [e4, decide_eq_true (show _ = 0 from by have z := nI_z (by omega) c_122; omega)]; rfl) | (rw [e4, decide_eq_false (fun e => c_122 (by rw [e]; rfl))]; rfl)) ⟨hinv.1, hinv.2.2.1, hinv.2.2.2.1⟩)
def iw_f (m : Nat → Int32) (H G : Nat) (B : Nat → Nat) (n : Nat) : Bool := wy_iw (WW m H G) (LW m H G) (vs_may m) G H B H (fun _ => 8) (wg_s B H) n
theorem c_Mo_ways (hM : mo_ok S P mo) (hm : I (mo + 1) = m) (hH : m 3 = nI H) (hH8 : H ≤ 8) (hG : m 4 = nI G) (hG8 : G ≤ 8) (hr : rk9 m) : mx_C l E M_Mo_ways 6 0 0 [.ref (mo)] (t, S, I, P, J) (mx_sR (some (.int (nI (sp_ways m H G)))) t S P J (fun K => mx_off (pz3 mo) (mx_up I (mo) 0 (nI (0))) K)) := by
  obtain ⟨hM0, hMp1, hMp2, hMp4, hMp5, hMp7, hMp14, hMp21, hMp22, hMp23, hMp24, hMp25, hMp26, hMp27, hMs1, hMs2, hMs3, hMs4, hMs5, hMs6, hMs7, hMs8, hMs9, hMs10, hMs11, hMs12, hMs13⟩ := id hM
  refine mx_C_of (ls0 := [some (.ref (mo)), none, none, none, none, none]) (by decide +kernel) rfl rfl (Nat.le_of_ble_eq_true rfl) rfl ?_
  refine mx_al0 d_Mo_ways_0 ?_
  refine mx_in_0 d_Mo_ways_1 ?_
  refine mx_putI d_Mo_ways_2 fl_Mo_54 (by assumption) ?_
  refine mx_al0 d_Mo_ways_5 ?_
  refine mx_in_1 d_Mo_ways_6 ?_
  refine mx_cV1vR d_Mo_ways_7 (c_Mo_pairsT hM (vs_hm hm) hH hH8 hG hG8 hr) ok_Mo_pairs ml_Mo_365 (by assumption) ⟨rfl, rfl⟩ (by decide) (Nat.le_of_ble_eq_true rfl) (fun K1 hK1 => ?_)
  obtain ⟨B, hBe⟩ : ∃ B, B = (gs_E (WW m H G) (LW m H G)).1 := ⟨_, rfl⟩
  obtain ⟨N0, hNe⟩ : ∃ N0, N0 = (gs_E (WW m H G) (LW m H G)).2.1 := ⟨_, rfl⟩
  have he := wy_env_m hr hH8 hG8
  rw [← hBe, ← hNe] at he
  rw [← hBe, ← hNe] at hK1
  have hmK : K1 (mo + 1) = m := (hK1.1 _ (by unfold pz3; omega)).trans (vs_hm hm)
  have hwg := fun n (hn : n ≤ 8) => wg_is (wy_B_inj he) n hn
  have hsp : sp_ways m H G = fb_ct (iw_f m H G B) (wy_fc (fb_ct (fun j => decide (B j < 8)) H)) := by have q := wy_iw_ct he (my := vs_may m) (fun h g hh hg e => (by have z : ¬ 0 < WW m H G h g := (fun z => (by rw [((WW_may hr hH8 hG8).mp z).2] at e; cases e)); omega)) H (Nat.le_refl H) (fun _ => 8) (wg_s B H) (by rw [Nat.sub_self]; exact wy_lf_0 he); rw [(hwg H hH8).2.2] at q; unfold sp_ways; rw [← hBe]; exact q.symm
  refine mx_in_0 d_Mo_ways_10 ?_
  refine mx_is1 d_Mo_ways_11 ?_
  refine mx_in_0 d_Mo_ways_12 ?_
  refine mx_is2 d_Mo_ways_13 ?_
  refine mx_in_1 d_Mo_ways_14 ?_
  refine mx_is3 d_Mo_ways_15 ?_
  refine mx_in_0 d_Mo_ways_16 ?_
  refine mx_is4 d_Mo_ways_17 ?_
  refine mx_loop (N := H) (ls := fun h => [some (.ref (mo)), some (.int (nI (wh_s B h))), some (.int (nI (wg_s B h))), some (.int (nI (wy_fc (fb_ct (fun j => decide (B j < 8)) h)))), some (.int (nI (h))), none]) (X := fun h => (t, S, K1, P, J)) (fun h hh ih => ?_) ?_
  · try dsimp only
    refine mx_il4 d_Mo_ways_19 ?_
    refine mx_al0 d_Mo_ways_21 ?_
    refine mx_getR d_Mo_ways_22 fl_Mo_7 (by assumption) (by assumption) ?_
    refine mx_in_3 d_Mo_ways_25 ?_
    refine mx_iald d_Mo_ways_26 (by assumption) (nI_inb (by omega) (by omega)) ?_
    refine mx_ti (y := K1 (mo + 1) (3)) (by rw [nI_clamp (by omega)]) ?_
    refine mx_ti (y := nI (H)) ((congrFun hmK 3).trans hH) ?_
    refine mx_icN_ge 76 d_Mo_ways_27 (by decide) (by omega) (by omega) (fun c_27 => absurd c_27 (by omega)) (fun c_27 => ?_)
    refine mx_al0 d_Mo_ways_30 ?_
    refine mx_getR d_Mo_ways_31 fl_Mo_32 (by assumption) (by assumption) ?_
    refine mx_il4 d_Mo_ways_34 ?_
    refine mx_iald d_Mo_ways_36 (by assumption) (nI_inb (by omega) (by omega)) ?_
    refine mx_ti (y := K1 (mo + 7) (h)) (by rw [nI_clamp (by omega)]) ?_
    refine mx_ti (y := (mtv (B h))) ((hK1.2 h (by omega)).1) ?_
    refine mx_ic_m1 d_Mo_ways_37 ?_
    refine mx_icmp_ne 44 d_Mo_ways_38 (by decide) (fun c_38 => ?_) (fun c_38 => ?_)
    · skip
      have u8 := mtv_n c_38
      obtain ⟨wh1, wh2, wh3⟩ := wh_is (B := B) h (by omega)
      obtain ⟨wg1, wg2, wg3⟩ := hwg h (by omega)
      refine mx_il1 d_Mo_ways_44 ?_
      refine mx_in_1 d_Mo_ways_45 ?_
      refine mx_il4 d_Mo_ways_46 ?_
      refine mx_ishl d_Mo_ways_48 ?_
      refine mx_ior d_Mo_ways_49 ?_
      refine mx_ti (y := nI (wh_s B (h + 1))) (((bset_nI _ wh1 h (by omega)).trans (congrArg nI ((wh_s_s B h).trans (if_pos u8)).symm))) ?_
      refine mx_is1 d_Mo_ways_50 ?_
      refine mx_il2 d_Mo_ways_51 ?_
      refine mx_in_1 d_Mo_ways_52 ?_
      refine mx_al0 d_Mo_ways_53 ?_
      refine mx_getR d_Mo_ways_54 fl_Mo_32 (by assumption) (by assumption) ?_
      refine mx_il4 d_Mo_ways_57 ?_
      refine mx_iald d_Mo_ways_59 (by assumption) (nI_inb (by omega) (by omega)) ?_
      refine mx_ti (y := K1 (mo + 7) (h)) (by rw [nI_clamp (by omega)]) ?_
      refine mx_ti (y := nI (B h)) (((hK1.2 h (by omega)).1.trans (mtv_lt u8))) ?_
      refine mx_ishl d_Mo_ways_60 ?_
      refine mx_ior d_Mo_ways_61 ?_
      refine mx_ti (y := nI (wg_s B (h + 1))) (((bset_nI _ wg1 (B h) u8).trans (congrArg nI ((wg_s_s B h).trans (if_pos u8)).symm))) ?_
      refine mx_is2 d_Mo_ways_62 ?_
      refine mx_il3 d_Mo_ways_63 ?_
      refine mx_il1 d_Mo_ways_64 ?_
      refine mx_cS1i d_Mo_ways_65 (c_Mo_bitsN (k := wh_s B (h + 1))) ok_Mo_bits ml_Mo_303 (by decide) (Nat.le_of_ble_eq_true rfl) ?_
      refine mx_ti (y := nI (fb_ct (fun j => decide (B j < 8)) h + 1)) ((congrArg nI ((wh_is (B := B) (h + 1) (by omega)).2.2.trans (by rw [fb_ct_succ, decide_eq_true u8]; rfl)))) ?_
      refine mx_imulN d_Mo_ways_68 ?_
      refine mx_is3 d_Mo_ways_69 ?_
      refine mx_iN4 d_Mo_ways_70 ?_
      refine mx_goto 19 d_Mo_ways_73 (by decide) ?_
      have e3 : nI ((wy_fc (fb_ct (fun j => decide (B j < 8)) h)) * (fb_ct (fun j => decide (B j < 8)) h + 1)) = nI (wy_fc (fb_ct (fun j => decide (B j < 8)) (h + 1))) := by first | (rw [fb_ct_succ, decide_eq_true u8]; rfl) | (rw [fb_ct_succ, decide_eq_false u8]; rfl)
      refine mx_lsc (congrArg (fun z9 => ([some (.ref (mo)), some (.int (nI (wh_s B (h + 1)))), some (.int (nI (wg_s B (h + 1)))), some (.int (z9)), some (.int (nI (h + 1))), none] : List (Option Value))) e3) ?_
      exact ih
    · skip
      have u8 := mtv_e c_38
      refine mx_goto 70 d_Mo_ways_41 (by decide) ?_
      refine mx_iN4 d_Mo_ways_70 ?_
      refine mx_goto 19 d_Mo_ways_73 (by decide) ?_
      have e1 : nI (wh_s B h) = nI (wh_s B (h + 1)) := by rw [wh_s_s, if_neg u8]
      refine mx_lsc (congrArg (fun z9 => ([some (.ref (mo)), some (.int (z9)), some (.int (nI (wg_s B h))), some (.int (nI (wy_fc (fb_ct (fun j => decide (B j < 8)) h)))), some (.int (nI (h + 1))), none] : List (Option Value))) e1) ?_
      have e2 : nI (wg_s B h) = nI (wg_s B (h + 1)) := by rw [wg_s_s, if_neg u8]
      refine mx_lsc (congrArg (fun z9 => ([some (.ref (mo)), some (.int (nI (wh_s B (h + 1)))), some (.int (z9)), some (.int (nI (wy_fc (fb_ct (fun j => decide (B j < 8)) h)))), some (.int (nI (h + 1))), none] : List (Option Value))) e2) ?_
      have e3 : nI (wy_fc (fb_ct (fun j => decide (B j < 8)) h)) = nI (wy_fc (fb_ct (fun j => decide (B j < 8)) (h + 1))) := by first | (rw [fb_ct_succ, decide_eq_true u8]; rfl) | (rw [fb_ct_succ, decide_eq_false u8]; rfl)
      refine mx_lsc (congrArg (fun z9 => ([some (.ref (mo)), some (.int (nI (wh_s B (h + 1)))), some (.int (nI (wg_s B (h + 1)))), some (.int (z9)), some (.int (nI (h + 1))), none] : List (Option Value))) e3) ?_
      exact ih
  · try dsimp only
    have hfc := wy_fc_le (fb_ct (fun j => decide (B j < 8)) H) (Nat.le_trans (fb_ct_le _ H) hH8)
    refine mx_il4 d_Mo_ways_19 ?_
    refine mx_al0 d_Mo_ways_21 ?_
    refine mx_getR d_Mo_ways_22 fl_Mo_7 (by assumption) (by assumption) ?_
    refine mx_in_3 d_Mo_ways_25 ?_
    refine mx_iald d_Mo_ways_26 (by assumption) (nI_inb (by omega) (by omega)) ?_
    refine mx_ti (y := K1 (mo + 1) (3)) (by rw [nI_clamp (by omega)]) ?_
    refine mx_ti (y := nI (H)) ((congrFun hmK 3).trans hH) ?_
    refine mx_icN_ge 76 d_Mo_ways_27 (by decide) (by omega) (by omega) (fun c_27 => ?_) (fun c_27 => absurd c_27 (by omega))
    refine mx_in_0 d_Mo_ways_76 ?_
    refine mx_is4 d_Mo_ways_77 ?_
    refine mx_in_0 d_Mo_ways_79 ?_
    refine mx_is5 d_Mo_ways_80 ?_
    refine mx_loopX (α := (mx_I)) (N := (wy_fc (fb_ct (fun j => decide (B j < 8)) H))) (a0 := K1) (fun k z9 => mx_off (fun c => c = mo + 7 ∨ c = mo + 8) K1 z9 ∧ iw_k z9 mo B N0) (ls := fun k z9 => [some (.ref (mo)), some (.int (nI (wh_s B H))), some (.int (nI (wg_s B H))), some (.int (nI (wy_fc (fb_ct (fun j => decide (B j < 8)) H)))), some (.int (nI (fb_ct (iw_f m H G B) k))), some (.int (nI (k)))]) (X := fun k z9 => (t, S, z9, P, J)) (⟨fun _ _ => rfl, fun j hj hn => by rw [(hK1.2 j hj).1, mtv_ge hn], fun j hj hn => by rw [(hK1.2 j hj).2, mtv_ge hn]⟩) (fun k hk z9 hinv ih => ?_) (fun z9 hinv => ?_)
    · skip
      obtain ⟨K, hz9⟩ : ∃ q, q = z9 := ⟨_, rfl⟩
      subst hz9
      try dsimp only at hinv ih ⊢
      have hct := fb_ct_le (iw_f m H G B) k
      refine mx_il5 d_Mo_ways_82 ?_
      refine mx_il3 d_Mo_ways_84 ?_
      refine mx_icN_ge 115 d_Mo_ways_85 (by decide) (by omega) (by omega) (fun c_85 => absurd c_85 (by omega)) (fun c_85 => ?_)
      refine mx_il4 d_Mo_ways_88 ?_
      refine mx_al0 d_Mo_ways_90 ?_
      refine mx_il5 d_Mo_ways_91 ?_
      refine mx_il1 d_Mo_ways_93 ?_
      refine mx_il2 d_Mo_ways_94 ?_
      refine mx_cV3iR d_Mo_ways_95 (c_Mo_isWay hM (m := m) (by rw [hinv.1 _ (fun z => by have z : mo + 1 = mo + 7 ∨ mo + 1 = mo + 8 := z; omega)]; exact hmK) hH hH8 hG hG8 he hr (R := iw_f m H G B k) hinv.2 rfl (n := k) (by omega)) ok_Mo_isWay ml_Mo_369 (by assumption) ⟨rfl, rfl⟩ (by decide) (Nat.le_of_ble_eq_true rfl) (fun K2 hK2 => ?_)
      refine mx_ifB_eq 105 d_Mo_ways_98 (by decide) (fun c_98 => ?_) (fun c_98 => ?_)
      · skip
        refine mx_in_0 d_Mo_ways_105 ?_
        refine mx_iaddN d_Mo_ways_106 ?_
        refine mx_is4 d_Mo_ways_107 ?_
        refine mx_iN5 d_Mo_ways_109 ?_
        refine mx_goto 82 d_Mo_ways_112 (by decide) ?_
        have e4 : nI (fb_ct (iw_f m H G B) k + 0) = nI (fb_ct (iw_f m H G B) (k + 1)) := by rw [fb_ct_succ]; first | (rw [if_pos c_98]; done) | (rw [if_neg (by rw [c_98]; decide)]; done)
        refine mx_lsc (congrArg (fun z9 => ([some (.ref (mo)), some (.int (nI (wh_s B H))), some (.int (nI (wg_s B H))), some (.int (nI (wy_fc (fb_ct (fun j => decide (B j < 8)) H)))), some (.int (z9)), some (.int (nI (k + 1)))] : List (Option Value))) e4) ?_
        exact ih K2 (⟨hinv.1.tr hK2.1, hK2.2⟩)
      · skip
        refine mx_in_1 d_Mo_ways_101 ?_
        refine mx_goto 106 d_Mo_ways_102 (by decide) ?_
        refine mx_iaddN d_Mo_ways_106 ?_
        refine mx_is4 d_Mo_ways_107 ?_
        refine mx_iN5 d_Mo_ways_109 ?_
        refine mx_goto 82 d_Mo_ways_112 (by decide) ?_
        have e4 : nI (fb_ct (iw_f m H G B) k + 1) = nI (fb_ct (iw_f m H G B) (k + 1)) := by rw [fb_ct_succ]; first | (rw [if_pos c_98]; done) | (rw [if_neg (by rw [c_98]; decide)]; done)
        refine mx_lsc (congrArg (fun z9 => ([some (.ref (mo)), some (.int (nI (wh_s B H))), some (.int (nI (wg_s B H))), some (.int (nI (wy_fc (fb_ct (fun j => decide (B j < 8)) H)))), some (.int (z9)), some (.int (nI (k + 1)))] : List (Option Value))) e4) ?_
        exact ih K2 (⟨hinv.1.tr hK2.1, hK2.2⟩)
    · skip
      obtain ⟨K, hz9⟩ : ∃ q, q = z9 := ⟨_, rfl⟩
      subst hz9
      try dsimp only at hinv ⊢
      refine mx_il5 d_Mo_ways_82 ?_
      refine mx_il3 d_Mo_ways_84 ?_
      refine mx_icN_ge 115 d_Mo_ways_85 (by decide) (by omega) (by omega) (fun c_85 => ?_) (fun c_85 => absurd c_85 (by omega))
      refine mx_il4 d_Mo_ways_115 ?_
      exact mx_iret d_Mo_ways_117 rfl (mx_sR_i (by rw [hsp]) (fun c hc => (hinv.1 c (fun z => hc (by unfold pz3; omega))).trans (hK1.1 c hc)))
end AO51
