/-! THE REFERENCE READS THE LAW: lines -/
section AW64
variable {l : Launch} {E : mx_Env} {t : Nat} {S : mx_S} {I K K2 K3 I0 : mx_I} {P : mx_P} {J : mx_G} {mo L a e c n i dp u u2 tt k sep np : Nat} {f : Nat → Nat} {w : List Nat} {b : Bool} {v v2 : Int32} {fc : Nat → Int32} {s : List gq_L}
/-- a String's constant by its wide place (the proof follows that of ldcStringW, Shelf/FreeValueOf.lean) -/
theorem mx_ldcSW {M : mx_M} {d k n pc nx idx : Nat} {ls : List (Option Value)} {st : List Value} {Q : mx_R → mx_H → Prop} {X : mx_H} {i : Nat} {own tx : String} (hd : mx_d M pc (.ldc_w idx) 3 nx) (ho : mx_own M = own) (hi : mx_st[i]? = some (own, idx, tx)) (kk : mx_E l E M d k n nx ls (.ref (mx_aK E i) :: st) X Q) : mx_E l E M d k n pc ls st X Q := by
  obtain ⟨hd, rfl⟩ := hd
  subst ho
  intro p e R s m args below meth c9 H locs cells slots mc ms A F h1 h2 h3 h4 hP hS hl
  have hZ := hP.1.2.2.2.2.2.1.2 i _ hi
  have k1 := kk p e R s m args below meth c9 H locs cells slots mc ms A F h1 h2 h3 h4 hP hS hl
  have hown : s.vm.findClass (mx_own M) = some m.cls := F.2.2.2.1
  intro T hT X1
  obtain ⟨t1, a1, b1⟩ := k1 T hT X1
  obtain ⟨k0, cf, i0, a', hk, hcf, hcp, -, hr, hev'⟩ := Cond.stringRef_spec hown hZ.1
  cases hZ.2.symm.trans hev'
  obtain ⟨k', hk', he⟩ := X1.warmed.alike.2.2 _ _ hk
  have hr' : k'.resolved[idx]? = some (some (.string (mx_aK E i))) := by
    rcases X1.warmed.entry hk hk' idx with h | ⟨h, -⟩
    · rw [h]; exact hr
    · rw [hr] at h; cases h
  have hexec := F.1
  have hdg : decode c9.code pc = .ok (.ldc_w idx, 3) := by rw [F.2.1]; exact hd
  refine ⟨t1, ?_, b1⟩
  jvm_step X1.here [hexec, hdg, ldc_w.wp_string (e := e) (s := T) (f := F0 m pc A st) X1.here.top hk' (by rw [he]; exact hcf) hcp hr']
  exact a1
def ml_off (I K : mx_I) (mo : Nat) : Prop := (∀ c, c ≠ mo → K c = I c) ∧ ∀ k, k ≠ 11 → k ≠ 12 → k ≠ 13 → k ≠ 17 → k ≠ 18 → k ≠ 19 → K mo k = I mo k
theorem ml_off.rf : ml_off I I mo := ⟨fun _ _ => rfl, fun _ _ _ _ _ _ _ => rfl⟩
theorem ml_off.tr (h : ml_off I K mo) (h2 : ml_off K K2 mo) : ml_off I K2 mo := ⟨fun c hc => (h2.1 c hc).trans (h.1 c hc), fun k a b c d e f => (h2.2 k a b c d e f).trans (h.2 k a b c d e f)⟩
theorem mc_off.ml (h : mc_off I K mo) : ml_off I K mo := ⟨h.1, fun k a b c _ _ _ => h.2 k a b c⟩
theorem ml_off.uu {k : Nat} {x : Int32} (h : ml_off I K mo) (hk : k = 11 ∨ k = 12 ∨ k = 13 ∨ k = 17 ∨ k = 18 ∨ k = 19) : ml_off I (mx_up K mo k x) mo := ⟨fun c hc => by rw [← h.1 c hc, mx_up_ne hc], fun j h1 h2 h3 h4 h5 h6 => by rw [← h.2 j h1 h2 h3 h4 h5 h6]; simp [mx_up, show j ≠ k by omega]⟩
theorem ml_off.tx (h : ml_off I K mo) (hx : mt_tx I mo f L) : mt_tx K mo f L := hx.of (h.1 _ (by omega)) (h.1 _ (by omega)) (h.2 9 (by omega) (by omega) (by omega) (by omega) (by omega) (by omega)) (h.2 10 (by omega) (by omega) (by omega) (by omega) (by omega) (by omega))
theorem ml_off.mf (h : ml_off I K mo) (hf : mf_ok I mo fc) : mf_ok K mo fc := ⟨fun k hk => by rw [h.1 _ (by omega)]; exact hf.1 k hk, by rw [h.2 15 (by omega) (by omega) (by omega) (by omega) (by omega) (by omega)]; exact hf.2.1, by rw [h.2 16 (by omega) (by omega) (by omega) (by omega) (by omega) (by omega)]; exact hf.2.2⟩
def li_h (fc : Nat → Int32) (x : gq_L) : Bool := decide (x.2.2 = []) || decide (¬ gr_v fc x.2.2 = 0)
def li_g (fc : Nat → Int32) (x : gq_L) (g : Int32) : Int32 := if li_h fc x = true then g + (if x.1 = 29 then nI x.2.1 else if x.1 = 30 then -nI x.2.1 else nI 0) else g
def li_a (fc : Nat → Int32) (x : gq_L) (g : Int32) : Int32 := if li_h fc x = true then bI (decide (¬ g = 0) || decide (x.1 = 31)) else g
def ml_bad (I K : mx_I) (mo : Nat) (f : Nat → Nat) (L e u : Nat) : Prop := ml_off I K mo ∧ K mo 12 = nI (tq_b f L e) ∧ ∃ a, K mo 11 = nI a ∧ a ≤ u
def ml_s (I K : mx_I) (mo : Nat) (f : Nat → Nat) (L c : Nat) : Prop := ml_off I K mo ∧ K mo 12 = -1 ∧ mt_cur K mo f L c ∧ K mo 13 = nI 0
def ml_out (I K : mx_I) (mo : Nat) (f : Nat → Nat) (L : Nat) (fc : Nat → Int32) (r : Nat ⊕ (gq_L × Nat)) : Prop := match r with
  | .inl e => ml_bad I K mo f L e 600
  | .inr q => ml_s I K mo f L q.2 ∧ K mo 17 = li_g fc q.1 (I mo 17) ∧ K mo 18 = bI (decide (¬ I mo 18 = 0) || decide (q.1.1 = 31)) ∧ K mo 19 = li_a fc q.1 (I mo 19)
theorem mc_bad.ml (h : mc_bad I K mo f L e u) (hu : u ≤ 600) : ml_bad I K mo f L e 600 := by
  obtain ⟨h1, h2, a, h3, h4⟩ := h
  exact ⟨h1.ml, h2, a, h3, by omega⟩
theorem mc_s.ml (h : mc_s I K mo f L c 0) : ml_s I K mo f L c := ⟨h.1.ml, h.2⟩
theorem ml_s.mc (h : ml_s I K mo f L c) : mc_s K K mo f L c 0 := ⟨mc_off.rf, h.2⟩
theorem ml_s.vv {k : Nat} {x : Int32} (h : ml_s I K mo f L c) (hk : k = 17 ∨ k = 18 ∨ k = 19) : ml_s I (mx_up K mo k x) mo f L c := by
  refine ⟨h.1.uu (by omega), by rw [← h.2.1]; simp [mx_up, show ¬ 12 = k by omega], ?_, by rw [← h.2.2.2]; simp [mx_up, show ¬ 13 = k by omega]⟩
  obtain ⟨a, h1, h2⟩ := h.2.2.1
  exact ⟨a, by rw [← h1]; simp [mx_up, show ¬ 11 = k by omega], h2⟩
theorem mc_off.g (h : mc_off I K mo) : K mo 17 = I mo 17 ∧ K mo 18 = I mo 18 ∧ K mo 19 = I mo 19 := ⟨h.2 17 (by omega) (by omega) (by omega), h.2 18 (by omega) (by omega) (by omega), h.2 19 (by omega) (by omega) (by omega)⟩
theorem li_y {x : gq_L} (h : x.2.2 = [] ∨ ¬ gr_v fc x.2.2 = 0) : li_h fc x = true := by
  unfold li_h
  rcases h with z | z
  · rw [decide_eq_true z]; rfl
  · rw [decide_eq_true z, Bool.or_true]
theorem li_n {x : gq_L} (h : ¬ x.2.2 = []) (h2 : gr_v fc x.2.2 = 0) : li_h fc x = false := by
  unfold li_h
  rw [decide_eq_false h, decide_eq_false (fun z => z h2)]; rfl
theorem som_ne {q : List Int32 × Nat} (h : gq_som (tK f L) (gq_atm (tK f L) (tV f L) 6) c = .inr q) : ¬ q.1 = [] := fun z => by
  have g := gr_som (gr_atm (fc := fun _ => 0) tV1 6 (by omega)) (by omega) (by omega) _ _ h
  rw [z] at g
  exact gr_pu_ne g
/-- the line does not hold -/
theorem ml_end_n {q : gq_L × Nat} {x : Int32} (hs : mc_s I K mo f L q.2 0) (hn : li_h fc q.1 = false) (hx : x = bI (decide (¬ K mo 18 = 0) || decide (q.1.1 = 31))) : ml_out I (mx_up K mo 18 x) mo f L fc (.inr q) := by
  obtain ⟨g1, g2, g3⟩ := hs.1.g
  refine ⟨hs.ml.vv (by omega), ?_, ?_, ?_⟩
  · unfold li_g; rw [if_neg (by rw [hn]; simp), ← g1]; simp [mx_up]
  · rw [mu_e, hx, g2]
  · unfold li_a; rw [if_neg (by rw [hn]; simp), ← g3]; simp [mx_up]
/-- the line holds -/
theorem ml_end_y {q : gq_L × Nat} {x y z : Int32} (hs : mc_s I K mo f L q.2 0) (hn : li_h fc q.1 = true) (hx : x = bI (decide (¬ K mo 18 = 0) || decide (q.1.1 = 31))) (hy : y = bI (decide (¬ K mo 19 = 0) || decide (q.1.1 = 31))) (hz : z = K mo 17 + (if q.1.1 = 29 then nI q.1.2.1 else if q.1.1 = 30 then -nI q.1.2.1 else nI 0)) : ml_out I (mx_up (mx_up (mx_up K mo 18 x) mo 19 y) mo 17 z) mo f L fc (.inr q) := by
  obtain ⟨g1, g2, g3⟩ := hs.1.g
  refine ⟨((hs.ml.vv (by omega)).vv (by omega)).vv (by omega), ?_, ?_, ?_⟩
  · unfold li_g; rw [if_pos hn, mu_e, hz, g1]
  · rw [← g2, ← hx]; simp [mx_up]
  · unfold li_a; rw [if_pos hn, ← g3, ← hy]; simp [mx_up]
theorem fig_no {lo hb : Nat} (h : match gq_num (tK f L) (tV f L) lo hb c with | .inl e => mc_bad I K mo f L e 500 | .inr q => mc_s I K mo f L q.2 dp) (hf : ¬ K mo 12 = -1) : ∃ e, gq_num (tK f L) (tV f L) lo hb c = .inl e ∧ mc_bad I K mo f L e 500 := by
  cases hr : gq_num (tK f L) (tV f L) lo hb c with
  | inl e => rw [hr] at h; exact ⟨e, rfl, h⟩
  | inr q => rw [hr] at h; exact absurd h.2.1 hf
theorem fig_ok {lo hb : Nat} (h : match gq_num (tK f L) (tV f L) lo hb c with | .inl e => mc_bad I K mo f L e 500 | .inr q => mc_s I K mo f L q.2 dp) (hf : K mo 12 = -1) (hL : L ≤ 400) : ∃ q, gq_num (tK f L) (tV f L) lo hb c = .inr q ∧ mc_s I K mo f L q.2 dp := by
  cases hr : gq_num (tK f L) (tV f L) lo hb c with
  | inl e => rw [hr] at h; exact absurd hf (mc_bad.f1 h hL)
  | inr q => rw [hr] at h; exact ⟨q, rfl, h⟩
theorem c_Mo_lawLine (hM : mo_ok S P mo) (hx : mt_tx I mo f L) (hs0 : mc_s I I mo f L c 0) (hmf : mf_ok I mo fc)  : mx_C l E M_Mo_lawLine 29 0 0 [.ref (mo)] (t, S, I, P, J) (mx_sR none t S P J (fun K => ml_out I K mo f L fc (gq_line (tK f L) (tV f L) c))) := by
  obtain ⟨hM0, hMp1, hMp2, hMp4, hMp5, hMp7, hMp14, hMp21, hMp22, hMp23, hMp24, hMp25, hMp26, hMp27, hMs1, hMs2, hMs3, hMs4, hMs5, hMs6, hMs7, hMs8, hMs9, hMs10, hMs11, hMs12, hMs13⟩ := id hM
  have hL := hx.2.1
  have hs := hs0
  refine mx_C_of (ls0 := [some (.ref (mo)), none, none, none]) (by decide +kernel) rfl rfl (Nat.le_of_ble_eq_true rfl) rfl ?_
  refine mx_al0 d_Mo_lawLine_0 ?_
  refine mx_ldcS (i := 43) d_Mo_lawLine_1 rfl rfl ?_
  refine mx_cV1iR d_Mo_lawLine_3 (c_Mo_has_43 hM (hs.tx hx) hs) ok_Mo_has ml_Mo_117 (by assumption) ⟨rfl, rfl⟩ (by omega) (Nat.le_of_ble_eq_true rfl) (fun K1 hK1 => ?_)
  refine mx_ifB_eq 13 d_Mo_lawLine_6 (by decide) (fun c_6 => ?_) (fun c_6 => ?_)
  · skip
    have hk29 : ¬ tK f L c = 29 := of_decide_eq_false c_6
    rw [if_neg hk29] at hK1
    have ha := hK1.2 hk29
    have hs := hK1.1
    refine mx_al0 d_Mo_lawLine_13 ?_
    refine mx_ldcS (i := 44) d_Mo_lawLine_14 rfl rfl ?_
    refine mx_cV1iR d_Mo_lawLine_16 (c_Mo_has_44 hM (hs.tx hx) hs) ok_Mo_has ml_Mo_117 (by assumption) ⟨rfl, rfl⟩ (by omega) (Nat.le_of_ble_eq_true rfl) (fun K2 hK2 => ?_)
    refine mx_ifB_eq 26 d_Mo_lawLine_19 (by decide) (fun c_19 => ?_) (fun c_19 => ?_)
    · skip
      have hk30 : ¬ tK f L c = 30 := of_decide_eq_false c_19
      rw [if_neg hk30] at hK2
      have ha := hK2.2 hk30
      have hs := hK2.1
      refine mx_al0 d_Mo_lawLine_26 ?_
      refine mx_ldcSW (i := 45) d_Mo_lawLine_27 rfl rfl ?_
      refine mx_cV1iR d_Mo_lawLine_30 (c_Mo_has_45 hM (hs.tx hx) hs) ok_Mo_has ml_Mo_117 (by assumption) ⟨rfl, rfl⟩ (by omega) (Nat.le_of_ble_eq_true rfl) (fun K3 hK3 => ?_)
      refine mx_ifB_eq 40 d_Mo_lawLine_33 (by decide) (fun c_33 => ?_) (fun c_33 => ?_)
      · skip
        have hk31 : ¬ tK f L c = 31 := of_decide_eq_false c_33
        rw [if_neg hk31] at hK3
        have ha := hK3.2 hk31
        have hs := hK3.1
        refine mx_ic_m1 d_Mo_lawLine_40 ?_
        refine mx_is1 d_Mo_lawLine_41 ?_
        refine mx_il1 d_Mo_lawLine_42 ?_
        refine mx_ic_m1 d_Mo_lawLine_43 ?_
        refine mx_icmp_ne 56 d_Mo_lawLine_44 (by decide) (fun c_44 => absurd c_44 (fun z => z rfl)) (fun c_44 => ?_)
        refine mx_al0 d_Mo_lawLine_47 ?_
        refine mx_al0 d_Mo_lawLine_48 ?_
        refine mx_getI d_Mo_lawLine_49 fl_Mo_87 (by assumption) ?_
        refine mx_ti (y := nI (tq_b f L c)) (ha) ?_
        refine mx_cV1vR d_Mo_lawLine_52 (c_Mo_wrongS hM hs ha (u := 500) (by omega) hL) ok_Mo_wrong ml_Mo_113 (by assumption) ⟨rfl, rfl⟩ (by omega) (Nat.le_of_ble_eq_true rfl) (fun K4 hK4 => ?_)
        exact mx_vret d_Mo_lawLine_55 rfl (mx_sR_of rfl (by rw [gq_line_n (by omega)]; exact hK4.ml (by omega)))
      · skip
        have hk31 : tK f L c = 31 := of_decide_eq_true c_33
        have h3 : tK f L c = 29 ∨ tK f L c = 30 ∨ tK f L c = 31 := by omega
        rw [if_pos hk31] at hK3
        have hs := hK3.1
        obtain ⟨p, hp0⟩ : ∃ p : Nat × Nat, p = (0, c + 1) := ⟨_, rfl⟩
        have ham : gq_am (tK f L) (tV f L) c = .inr p := (if_pos hk31).trans (congrArg Sum.inr hp0.symm)
        have hp2 : c + 1 = p.2 := by rw [hp0]
        rw [hp2] at hs
        refine mx_in_2 d_Mo_lawLine_36 ?_
        refine mx_goto 41 d_Mo_lawLine_37 (by decide) ?_
        refine mx_is1 d_Mo_lawLine_41 ?_
        refine mx_il1 d_Mo_lawLine_42 ?_
        refine mx_ic_m1 d_Mo_lawLine_43 ?_
        refine mx_icmp_ne 56 d_Mo_lawLine_44 (by decide) (fun c_44 => ?_) (fun c_44 => absurd c_44 (by decide))
        refine mx_il1 d_Mo_lawLine_56 ?_
        refine mx_in_2 d_Mo_lawLine_57 ?_
        refine mx_icN_ne 65 d_Mo_lawLine_58 (by decide) (by omega) (by omega) (fun c_58 => absurd c_58 (by omega)) (fun c_58 => ?_)
        refine mx_in_0 d_Mo_lawLine_61 ?_
        refine mx_goto 72 d_Mo_lawLine_62 (by decide) ?_
        refine mx_is2 d_Mo_lawLine_72 ?_
        refine mx_al0 d_Mo_lawLine_73 ?_
        refine mx_getI d_Mo_lawLine_74 fl_Mo_25 (by assumption) ?_
        refine mx_ti (y := (-1)) (hs.f0) ?_
        refine mx_ic_m1 d_Mo_lawLine_77 ?_
        refine mx_icmp_eq 82 d_Mo_lawLine_78 (by decide) (fun c_78 => ?_) (fun c_78 => absurd c_78 (fun z => z rfl))
        refine mx_al0 d_Mo_lawLine_82 ?_
        refine mx_ldcSW (i := 46) d_Mo_lawLine_83 rfl rfl ?_
        refine mx_cV1iR d_Mo_lawLine_86 (c_Mo_has_46 hM (hs.tx hx) hs) ok_Mo_has ml_Mo_117 (by assumption) ⟨rfl, rfl⟩ (by omega) (Nat.le_of_ble_eq_true rfl) (fun K5 hK5 => ?_)
        refine mx_ifB_eq 99 d_Mo_lawLine_89 (by decide) (fun c_89 => ?_) (fun c_89 => ?_)
        · skip
          have hk32 : ¬ tK f L p.2 = 32 := of_decide_eq_false c_89
          rw [if_neg hk32] at hK5
          have hs := hK5.1
          obtain ⟨q, hq0⟩ : ∃ q : List Int32 × Nat, q = ([], p.2) := ⟨_, rfl⟩
          have hif : gq_if (tK f L) (tV f L) p.2 = .inr q := (if_neg hk32).trans (congrArg Sum.inr hq0.symm)
          have e8 : p.2 = q.2 := by rw [hq0]
          rw [e8] at hs
          have hem : q.1 = [] := by rw [hq0]
          refine mx_in_1 d_Mo_lawLine_99 ?_
          refine mx_goto 104 d_Mo_lawLine_100 (by decide) ?_
          refine mx_is3 d_Mo_lawLine_104 ?_
          refine mx_al0 d_Mo_lawLine_105 ?_
          refine mx_getI d_Mo_lawLine_106 fl_Mo_25 (by assumption) ?_
          refine mx_ti (y := (-1)) (hs.f0) ?_
          refine mx_ic_m1 d_Mo_lawLine_109 ?_
          refine mx_icmp_eq 114 d_Mo_lawLine_110 (by decide) (fun c_110 => ?_) (fun c_110 => absurd c_110 (fun z => z rfl))
          have hq := gq_line_y h3 ham hif
          rw [hk31] at hq
          have hli : li_h fc (((31, p.1, q.1), q.2) : gq_L × Nat).1 = true := li_y (Or.inl hem)
          refine mx_al0 d_Mo_lawLine_114 ?_
          refine mx_al0 d_Mo_lawLine_115 ?_
          refine mx_getI d_Mo_lawLine_116 fl_Mo_260 (by assumption) ?_
          refine mx_if_ne 127 d_Mo_lawLine_119 (by decide) (fun c_119 => ?_) (fun c_119 => ?_)
          · skip
            refine mx_in_1 d_Mo_lawLine_127 ?_
            refine mx_goto 132 d_Mo_lawLine_128 (by decide) ?_
            refine mx_putZ d_Mo_lawLine_132 fl_Mo_260 (by assumption) (by first | exact Or.inl rfl | exact Or.inr rfl) ?_
            refine mx_il3 d_Mo_lawLine_135 ?_
            refine mx_if_ne 140 d_Mo_lawLine_136 (by decide) (fun c_136 => ?_) (fun c_136 => absurd c_136 (by decide))
            refine mx_al0 d_Mo_lawLine_140 ?_
            refine mx_al0 d_Mo_lawLine_141 ?_
            refine mx_getI d_Mo_lawLine_142 fl_Mo_263 (by assumption) ?_
            refine mx_if_ne 153 d_Mo_lawLine_145 (by decide) (fun c_145 => ?_) (fun c_145 => ?_)
            · skip
              refine mx_in_1 d_Mo_lawLine_153 ?_
              refine mx_goto 158 d_Mo_lawLine_154 (by decide) ?_
              refine mx_putZ d_Mo_lawLine_158 fl_Mo_263 (by assumption) (by first | exact Or.inl rfl | exact Or.inr rfl) ?_
              refine mx_al0 d_Mo_lawLine_161 ?_
              refine mx_dup d_Mo_lawLine_162 rfl ?_
              refine mx_getI d_Mo_lawLine_163 fl_Mo_266 (by assumption) ?_
              refine mx_il1 d_Mo_lawLine_166 ?_
              refine mx_if_ne 174 d_Mo_lawLine_167 (by decide) (fun c_167 => ?_) (fun c_167 => absurd c_167 (by decide))
              refine mx_il1 d_Mo_lawLine_174 ?_
              refine mx_in_1 d_Mo_lawLine_175 ?_
              refine mx_icN_ne 184 d_Mo_lawLine_176 (by decide) (by omega) (by omega) (fun c_176 => ?_) (fun c_176 => absurd c_176 (by omega))
              refine mx_in_0 d_Mo_lawLine_184 ?_
              refine mx_iadd d_Mo_lawLine_185 ?_
              refine mx_putI d_Mo_lawLine_186 fl_Mo_266 (by assumption) ?_
              exact mx_vret d_Mo_lawLine_189 rfl (mx_sR_of rfl (by rw [hq]; exact ml_end_y (q := ((31, p.1, q.1), q.2)) hs hli (by simp [bI, c_119]) (by simp [mx_up] at c_145; simp [bI, c_145]) (by simp [mx_up])))
            · skip
              refine mx_il1 d_Mo_lawLine_148 ?_
              refine mx_in_2 d_Mo_lawLine_149 ?_
              refine mx_icN_ne 157 d_Mo_lawLine_150 (by decide) (by omega) (by omega) (fun c_150 => absurd c_150 (by omega)) (fun c_150 => ?_)
              refine mx_in_1 d_Mo_lawLine_153 ?_
              refine mx_goto 158 d_Mo_lawLine_154 (by decide) ?_
              refine mx_putZ d_Mo_lawLine_158 fl_Mo_263 (by assumption) (by first | exact Or.inl rfl | exact Or.inr rfl) ?_
              refine mx_al0 d_Mo_lawLine_161 ?_
              refine mx_dup d_Mo_lawLine_162 rfl ?_
              refine mx_getI d_Mo_lawLine_163 fl_Mo_266 (by assumption) ?_
              refine mx_il1 d_Mo_lawLine_166 ?_
              refine mx_if_ne 174 d_Mo_lawLine_167 (by decide) (fun c_167 => ?_) (fun c_167 => absurd c_167 (by decide))
              refine mx_il1 d_Mo_lawLine_174 ?_
              refine mx_in_1 d_Mo_lawLine_175 ?_
              refine mx_icN_ne 184 d_Mo_lawLine_176 (by decide) (by omega) (by omega) (fun c_176 => ?_) (fun c_176 => absurd c_176 (by omega))
              refine mx_in_0 d_Mo_lawLine_184 ?_
              refine mx_iadd d_Mo_lawLine_185 ?_
              refine mx_putI d_Mo_lawLine_186 fl_Mo_266 (by assumption) ?_
              exact mx_vret d_Mo_lawLine_189 rfl (mx_sR_of rfl (by rw [hq]; exact ml_end_y (q := ((31, p.1, q.1), q.2)) hs hli (by simp [bI, c_119]) (by simp [mx_up] at c_145; simp [bI, c_145]) (by simp [mx_up])))
          · skip
            refine mx_il1 d_Mo_lawLine_122 ?_
            refine mx_in_2 d_Mo_lawLine_123 ?_
            refine mx_icN_ne 131 d_Mo_lawLine_124 (by decide) (by omega) (by omega) (fun c_124 => absurd c_124 (by omega)) (fun c_124 => ?_)
            refine mx_in_1 d_Mo_lawLine_127 ?_
            refine mx_goto 132 d_Mo_lawLine_128 (by decide) ?_
            refine mx_putZ d_Mo_lawLine_132 fl_Mo_260 (by assumption) (by first | exact Or.inl rfl | exact Or.inr rfl) ?_
            refine mx_il3 d_Mo_lawLine_135 ?_
            refine mx_if_ne 140 d_Mo_lawLine_136 (by decide) (fun c_136 => ?_) (fun c_136 => absurd c_136 (by decide))
            refine mx_al0 d_Mo_lawLine_140 ?_
            refine mx_al0 d_Mo_lawLine_141 ?_
            refine mx_getI d_Mo_lawLine_142 fl_Mo_263 (by assumption) ?_
            refine mx_if_ne 153 d_Mo_lawLine_145 (by decide) (fun c_145 => ?_) (fun c_145 => ?_)
            · skip
              refine mx_in_1 d_Mo_lawLine_153 ?_
              refine mx_goto 158 d_Mo_lawLine_154 (by decide) ?_
              refine mx_putZ d_Mo_lawLine_158 fl_Mo_263 (by assumption) (by first | exact Or.inl rfl | exact Or.inr rfl) ?_
              refine mx_al0 d_Mo_lawLine_161 ?_
              refine mx_dup d_Mo_lawLine_162 rfl ?_
              refine mx_getI d_Mo_lawLine_163 fl_Mo_266 (by assumption) ?_
              refine mx_il1 d_Mo_lawLine_166 ?_
              refine mx_if_ne 174 d_Mo_lawLine_167 (by decide) (fun c_167 => ?_) (fun c_167 => absurd c_167 (by decide))
              refine mx_il1 d_Mo_lawLine_174 ?_
              refine mx_in_1 d_Mo_lawLine_175 ?_
              refine mx_icN_ne 184 d_Mo_lawLine_176 (by decide) (by omega) (by omega) (fun c_176 => ?_) (fun c_176 => absurd c_176 (by omega))
              refine mx_in_0 d_Mo_lawLine_184 ?_
              refine mx_iadd d_Mo_lawLine_185 ?_
              refine mx_putI d_Mo_lawLine_186 fl_Mo_266 (by assumption) ?_
              exact mx_vret d_Mo_lawLine_189 rfl (mx_sR_of rfl (by rw [hq]; exact ml_end_y (q := ((31, p.1, q.1), q.2)) hs hli (by simp [bI, c_119]) (by simp [mx_up] at c_145; simp [bI, c_145]) (by simp [mx_up])))
            · skip
              refine mx_il1 d_Mo_lawLine_148 ?_
              refine mx_in_2 d_Mo_lawLine_149 ?_
              refine mx_icN_ne 157 d_Mo_lawLine_150 (by decide) (by omega) (by omega) (fun c_150 => absurd c_150 (by omega)) (fun c_150 => ?_)
              refine mx_in_1 d_Mo_lawLine_153 ?_
              refine mx_goto 158 d_Mo_lawLine_154 (by decide) ?_
              refine mx_putZ d_Mo_lawLine_158 fl_Mo_263 (by assumption) (by first | exact Or.inl rfl | exact Or.inr rfl) ?_
              refine mx_al0 d_Mo_lawLine_161 ?_
              refine mx_dup d_Mo_lawLine_162 rfl ?_
              refine mx_getI d_Mo_lawLine_163 fl_Mo_266 (by assumption) ?_
              refine mx_il1 d_Mo_lawLine_166 ?_
              refine mx_if_ne 174 d_Mo_lawLine_167 (by decide) (fun c_167 => ?_) (fun c_167 => absurd c_167 (by decide))
              refine mx_il1 d_Mo_lawLine_174 ?_
              refine mx_in_1 d_Mo_lawLine_175 ?_
              refine mx_icN_ne 184 d_Mo_lawLine_176 (by decide) (by omega) (by omega) (fun c_176 => ?_) (fun c_176 => absurd c_176 (by omega))
              refine mx_in_0 d_Mo_lawLine_184 ?_
              refine mx_iadd d_Mo_lawLine_185 ?_
              refine mx_putI d_Mo_lawLine_186 fl_Mo_266 (by assumption) ?_
              exact mx_vret d_Mo_lawLine_189 rfl (mx_sR_of rfl (by rw [hq]; exact ml_end_y (q := ((31, p.1, q.1), q.2)) hs hli (by simp [bI, c_119]) (by simp [mx_up] at c_145; simp [bI, c_145]) (by simp [mx_up])))
        · skip
          have hk32 : tK f L p.2 = 32 := of_decide_eq_true c_89
          rw [if_pos hk32] at hK5
          have hs := hK5.1
          refine mx_al0 d_Mo_lawLine_92 ?_
          refine mx_cV0y d_Mo_lawLine_93 ((c_Mo_AO hM 6 (by omega)).2 _ _ (hs.tx hx) hs.self (hs.1.mf hmf)) ok_Mo_some ml_Mo_242 (by assumption) ⟨rfl, rfl⟩ (by omega) (Nat.le_of_ble_eq_true rfl) (fun v6 K6 hK6 => ?_)
          have hK7 : mc_out I K6 mo f L 0 506 fc v6 (gq_som (tK f L) (gq_atm (tK f L) (tV f L) 6) (p.2 + 1)) := mc_out.tr hs hK6.2
          refine mx_if_eq 103 d_Mo_lawLine_96 (by decide) (fun c_96 => ?_) (fun c_96 => ?_)
          · skip
            refine mx_in_0 d_Mo_lawLine_103 ?_
            refine mx_is3 d_Mo_lawLine_104 ?_
            refine mx_al0 d_Mo_lawLine_105 ?_
            refine mx_getI d_Mo_lawLine_106 fl_Mo_25 (by assumption) ?_
            refine mx_ti (y := (K6 (mo) 12)) (rfl) ?_
            refine mx_ic_m1 d_Mo_lawLine_109 ?_
            refine mx_icmp_eq 114 d_Mo_lawLine_110 (by decide) (fun c_110 => ?_) (fun c_110 => ?_)
            · skip
              obtain ⟨q, he, hs, hv⟩ := hK7.ok c_110 hL
              have hif : gq_if (tK f L) (tV f L) p.2 = .inr q := (if_pos hk32).trans he
              have hne := som_ne he
              have hq := gq_line_y h3 ham hif
              rw [hk31] at hq
              have hli : li_h fc (((31, p.1, q.1), q.2) : gq_L × Nat).1 = false := li_n hne (hv.symm.trans c_96)
              refine mx_al0 d_Mo_lawLine_114 ?_
              refine mx_al0 d_Mo_lawLine_115 ?_
              refine mx_getI d_Mo_lawLine_116 fl_Mo_260 (by assumption) ?_
              refine mx_if_ne 127 d_Mo_lawLine_119 (by decide) (fun c_119 => ?_) (fun c_119 => ?_)
              · skip
                refine mx_in_1 d_Mo_lawLine_127 ?_
                refine mx_goto 132 d_Mo_lawLine_128 (by decide) ?_
                refine mx_putZ d_Mo_lawLine_132 fl_Mo_260 (by assumption) (by first | exact Or.inl rfl | exact Or.inr rfl) ?_
                refine mx_il3 d_Mo_lawLine_135 ?_
                refine mx_if_ne 140 d_Mo_lawLine_136 (by decide) (fun c_136 => absurd (by decide) c_136) (fun c_136 => ?_)
                exact mx_vret d_Mo_lawLine_139 rfl (mx_sR_of rfl (by rw [hq]; exact ml_end_n (q := ((31, p.1, q.1), q.2)) hs hli (by simp [bI, c_119])))
              · skip
                refine mx_il1 d_Mo_lawLine_122 ?_
                refine mx_in_2 d_Mo_lawLine_123 ?_
                refine mx_icN_ne 131 d_Mo_lawLine_124 (by decide) (by omega) (by omega) (fun c_124 => absurd c_124 (by omega)) (fun c_124 => ?_)
                refine mx_in_1 d_Mo_lawLine_127 ?_
                refine mx_goto 132 d_Mo_lawLine_128 (by decide) ?_
                refine mx_putZ d_Mo_lawLine_132 fl_Mo_260 (by assumption) (by first | exact Or.inl rfl | exact Or.inr rfl) ?_
                refine mx_il3 d_Mo_lawLine_135 ?_
                refine mx_if_ne 140 d_Mo_lawLine_136 (by decide) (fun c_136 => absurd (by decide) c_136) (fun c_136 => ?_)
                exact mx_vret d_Mo_lawLine_139 rfl (mx_sR_of rfl (by rw [hq]; exact ml_end_n (q := ((31, p.1, q.1), q.2)) hs hli (by simp [bI, c_119])))
            · skip
              obtain ⟨e, he, hb⟩ := hK7.no c_110
              have hq := gq_line_i h3 ham ((if_pos hk32).trans he)
              exact mx_vret d_Mo_lawLine_113 rfl (mx_sR_of rfl (by rw [hq]; exact hb.ml (by omega)))
          · skip
            refine mx_in_1 d_Mo_lawLine_99 ?_
            refine mx_goto 104 d_Mo_lawLine_100 (by decide) ?_
            refine mx_is3 d_Mo_lawLine_104 ?_
            refine mx_al0 d_Mo_lawLine_105 ?_
            refine mx_getI d_Mo_lawLine_106 fl_Mo_25 (by assumption) ?_
            refine mx_ti (y := (K6 (mo) 12)) (rfl) ?_
            refine mx_ic_m1 d_Mo_lawLine_109 ?_
            refine mx_icmp_eq 114 d_Mo_lawLine_110 (by decide) (fun c_110 => ?_) (fun c_110 => ?_)
            · skip
              obtain ⟨q, he, hs, hv⟩ := hK7.ok c_110 hL
              have hif : gq_if (tK f L) (tV f L) p.2 = .inr q := (if_pos hk32).trans he
              have hne := som_ne he
              have hq := gq_line_y h3 ham hif
              rw [hk31] at hq
              have hli : li_h fc (((31, p.1, q.1), q.2) : gq_L × Nat).1 = true := li_y (Or.inr (fun z => c_96 (hv.trans z)))
              refine mx_al0 d_Mo_lawLine_114 ?_
              refine mx_al0 d_Mo_lawLine_115 ?_
              refine mx_getI d_Mo_lawLine_116 fl_Mo_260 (by assumption) ?_
              refine mx_if_ne 127 d_Mo_lawLine_119 (by decide) (fun c_119 => ?_) (fun c_119 => ?_)
              · skip
                refine mx_in_1 d_Mo_lawLine_127 ?_
                refine mx_goto 132 d_Mo_lawLine_128 (by decide) ?_
                refine mx_putZ d_Mo_lawLine_132 fl_Mo_260 (by assumption) (by first | exact Or.inl rfl | exact Or.inr rfl) ?_
                refine mx_il3 d_Mo_lawLine_135 ?_
                refine mx_if_ne 140 d_Mo_lawLine_136 (by decide) (fun c_136 => ?_) (fun c_136 => absurd c_136 (by decide))
                refine mx_al0 d_Mo_lawLine_140 ?_
                refine mx_al0 d_Mo_lawLine_141 ?_
                refine mx_getI d_Mo_lawLine_142 fl_Mo_263 (by assumption) ?_
                refine mx_if_ne 153 d_Mo_lawLine_145 (by decide) (fun c_145 => ?_) (fun c_145 => ?_)
                · skip
                  refine mx_in_1 d_Mo_lawLine_153 ?_
                  refine mx_goto 158 d_Mo_lawLine_154 (by decide) ?_
                  refine mx_putZ d_Mo_lawLine_158 fl_Mo_263 (by assumption) (by first | exact Or.inl rfl | exact Or.inr rfl) ?_
                  refine mx_al0 d_Mo_lawLine_161 ?_
                  refine mx_dup d_Mo_lawLine_162 rfl ?_
                  refine mx_getI d_Mo_lawLine_163 fl_Mo_266 (by assumption) ?_
                  refine mx_il1 d_Mo_lawLine_166 ?_
                  refine mx_if_ne 174 d_Mo_lawLine_167 (by decide) (fun c_167 => ?_) (fun c_167 => absurd c_167 (by decide))
                  refine mx_il1 d_Mo_lawLine_174 ?_
                  refine mx_in_1 d_Mo_lawLine_175 ?_
                  refine mx_icN_ne 184 d_Mo_lawLine_176 (by decide) (by omega) (by omega) (fun c_176 => ?_) (fun c_176 => absurd c_176 (by omega))
                  refine mx_in_0 d_Mo_lawLine_184 ?_
                  refine mx_iadd d_Mo_lawLine_185 ?_
                  refine mx_putI d_Mo_lawLine_186 fl_Mo_266 (by assumption) ?_
                  exact mx_vret d_Mo_lawLine_189 rfl (mx_sR_of rfl (by rw [hq]; exact ml_end_y (q := ((31, p.1, q.1), q.2)) hs hli (by simp [bI, c_119]) (by simp [mx_up] at c_145; simp [bI, c_145]) (by simp [mx_up])))
                · skip
                  refine mx_il1 d_Mo_lawLine_148 ?_
                  refine mx_in_2 d_Mo_lawLine_149 ?_
                  refine mx_icN_ne 157 d_Mo_lawLine_150 (by decide) (by omega) (by omega) (fun c_150 => absurd c_150 (by omega)) (fun c_150 => ?_)
                  refine mx_in_1 d_Mo_lawLine_153 ?_
                  refine mx_goto 158 d_Mo_lawLine_154 (by decide) ?_
                  refine mx_putZ d_Mo_lawLine_158 fl_Mo_263 (by assumption) (by first | exact Or.inl rfl | exact Or.inr rfl) ?_
                  refine mx_al0 d_Mo_lawLine_161 ?_
                  refine mx_dup d_Mo_lawLine_162 rfl ?_
                  refine mx_getI d_Mo_lawLine_163 fl_Mo_266 (by assumption) ?_
                  refine mx_il1 d_Mo_lawLine_166 ?_
                  refine mx_if_ne 174 d_Mo_lawLine_167 (by decide) (fun c_167 => ?_) (fun c_167 => absurd c_167 (by decide))
                  refine mx_il1 d_Mo_lawLine_174 ?_
                  refine mx_in_1 d_Mo_lawLine_175 ?_
                  refine mx_icN_ne 184 d_Mo_lawLine_176 (by decide) (by omega) (by omega) (fun c_176 => ?_) (fun c_176 => absurd c_176 (by omega))
                  refine mx_in_0 d_Mo_lawLine_184 ?_
                  refine mx_iadd d_Mo_lawLine_185 ?_
                  refine mx_putI d_Mo_lawLine_186 fl_Mo_266 (by assumption) ?_
                  exact mx_vret d_Mo_lawLine_189 rfl (mx_sR_of rfl (by rw [hq]; exact ml_end_y (q := ((31, p.1, q.1), q.2)) hs hli (by simp [bI, c_119]) (by simp [mx_up] at c_145; simp [bI, c_145]) (by simp [mx_up])))
              · skip
                refine mx_il1 d_Mo_lawLine_122 ?_
                refine mx_in_2 d_Mo_lawLine_123 ?_
                refine mx_icN_ne 131 d_Mo_lawLine_124 (by decide) (by omega) (by omega) (fun c_124 => absurd c_124 (by omega)) (fun c_124 => ?_)
                refine mx_in_1 d_Mo_lawLine_127 ?_
                refine mx_goto 132 d_Mo_lawLine_128 (by decide) ?_
                refine mx_putZ d_Mo_lawLine_132 fl_Mo_260 (by assumption) (by first | exact Or.inl rfl | exact Or.inr rfl) ?_
                refine mx_il3 d_Mo_lawLine_135 ?_
                refine mx_if_ne 140 d_Mo_lawLine_136 (by decide) (fun c_136 => ?_) (fun c_136 => absurd c_136 (by decide))
                refine mx_al0 d_Mo_lawLine_140 ?_
                refine mx_al0 d_Mo_lawLine_141 ?_
                refine mx_getI d_Mo_lawLine_142 fl_Mo_263 (by assumption) ?_
                refine mx_if_ne 153 d_Mo_lawLine_145 (by decide) (fun c_145 => ?_) (fun c_145 => ?_)
                · skip
                  refine mx_in_1 d_Mo_lawLine_153 ?_
                  refine mx_goto 158 d_Mo_lawLine_154 (by decide) ?_
                  refine mx_putZ d_Mo_lawLine_158 fl_Mo_263 (by assumption) (by first | exact Or.inl rfl | exact Or.inr rfl) ?_
                  refine mx_al0 d_Mo_lawLine_161 ?_
                  refine mx_dup d_Mo_lawLine_162 rfl ?_
                  refine mx_getI d_Mo_lawLine_163 fl_Mo_266 (by assumption) ?_
                  refine mx_il1 d_Mo_lawLine_166 ?_
                  refine mx_if_ne 174 d_Mo_lawLine_167 (by decide) (fun c_167 => ?_) (fun c_167 => absurd c_167 (by decide))
                  refine mx_il1 d_Mo_lawLine_174 ?_
                  refine mx_in_1 d_Mo_lawLine_175 ?_
                  refine mx_icN_ne 184 d_Mo_lawLine_176 (by decide) (by omega) (by omega) (fun c_176 => ?_) (fun c_176 => absurd c_176 (by omega))
                  refine mx_in_0 d_Mo_lawLine_184 ?_
                  refine mx_iadd d_Mo_lawLine_185 ?_
                  refine mx_putI d_Mo_lawLine_186 fl_Mo_266 (by assumption) ?_
                  exact mx_vret d_Mo_lawLine_189 rfl (mx_sR_of rfl (by rw [hq]; exact ml_end_y (q := ((31, p.1, q.1), q.2)) hs hli (by simp [bI, c_119]) (by simp [mx_up] at c_145; simp [bI, c_145]) (by simp [mx_up])))
                · skip
                  refine mx_il1 d_Mo_lawLine_148 ?_
                  refine mx_in_2 d_Mo_lawLine_149 ?_
                  refine mx_icN_ne 157 d_Mo_lawLine_150 (by decide) (by omega) (by omega) (fun c_150 => absurd c_150 (by omega)) (fun c_150 => ?_)
                  refine mx_in_1 d_Mo_lawLine_153 ?_
                  refine mx_goto 158 d_Mo_lawLine_154 (by decide) ?_
                  refine mx_putZ d_Mo_lawLine_158 fl_Mo_263 (by assumption) (by first | exact Or.inl rfl | exact Or.inr rfl) ?_
                  refine mx_al0 d_Mo_lawLine_161 ?_
                  refine mx_dup d_Mo_lawLine_162 rfl ?_
                  refine mx_getI d_Mo_lawLine_163 fl_Mo_266 (by assumption) ?_
                  refine mx_il1 d_Mo_lawLine_166 ?_
                  refine mx_if_ne 174 d_Mo_lawLine_167 (by decide) (fun c_167 => ?_) (fun c_167 => absurd c_167 (by decide))
                  refine mx_il1 d_Mo_lawLine_174 ?_
                  refine mx_in_1 d_Mo_lawLine_175 ?_
                  refine mx_icN_ne 184 d_Mo_lawLine_176 (by decide) (by omega) (by omega) (fun c_176 => ?_) (fun c_176 => absurd c_176 (by omega))
                  refine mx_in_0 d_Mo_lawLine_184 ?_
                  refine mx_iadd d_Mo_lawLine_185 ?_
                  refine mx_putI d_Mo_lawLine_186 fl_Mo_266 (by assumption) ?_
                  exact mx_vret d_Mo_lawLine_189 rfl (mx_sR_of rfl (by rw [hq]; exact ml_end_y (q := ((31, p.1, q.1), q.2)) hs hli (by simp [bI, c_119]) (by simp [mx_up] at c_145; simp [bI, c_145]) (by simp [mx_up])))
            · skip
              obtain ⟨e, he, hb⟩ := hK7.no c_110
              have hq := gq_line_i h3 ham ((if_pos hk32).trans he)
              exact mx_vret d_Mo_lawLine_113 rfl (mx_sR_of rfl (by rw [hq]; exact hb.ml (by omega)))
    · skip
      have hk30 : tK f L c = 30 := of_decide_eq_true c_19
      have h3 : tK f L c = 29 ∨ tK f L c = 30 ∨ tK f L c = 31 := by omega
      rw [if_pos hk30] at hK2
      have hs := hK2.1
      have ham : gq_am (tK f L) (tV f L) c = gq_num (tK f L) (tV f L) 0 100 (c + 1) := if_neg (by omega)
      refine mx_in_1 d_Mo_lawLine_22 ?_
      refine mx_goto 41 d_Mo_lawLine_23 (by decide) ?_
      refine mx_is1 d_Mo_lawLine_41 ?_
      refine mx_il1 d_Mo_lawLine_42 ?_
      refine mx_ic_m1 d_Mo_lawLine_43 ?_
      refine mx_icmp_ne 56 d_Mo_lawLine_44 (by decide) (fun c_44 => ?_) (fun c_44 => absurd c_44 (by decide))
      refine mx_il1 d_Mo_lawLine_56 ?_
      refine mx_in_2 d_Mo_lawLine_57 ?_
      refine mx_icN_ne 65 d_Mo_lawLine_58 (by decide) (by omega) (by omega) (fun c_58 => ?_) (fun c_58 => absurd c_58 (by omega))
      refine mx_al0 d_Mo_lawLine_65 ?_
      refine mx_in_0 d_Mo_lawLine_66 ?_
      refine mx_bip 99 d_Mo_lawLine_67 (by decide) ?_
      refine mx_cV2iR d_Mo_lawLine_69 (c_Mo_figuresS hM (hs.tx hx) hs (lo := 0) (hb := 100) (by omega) h99) ok_Mo_figures ml_Mo_121 (by assumption) ⟨rfl, rfl⟩ (by omega) (Nat.le_of_ble_eq_true rfl) (fun K4 hK4 => ?_)
      refine mx_is2 d_Mo_lawLine_72 ?_
      refine mx_al0 d_Mo_lawLine_73 ?_
      refine mx_getI d_Mo_lawLine_74 fl_Mo_25 (by assumption) ?_
      refine mx_ti (y := (K4 (mo) 12)) (rfl) ?_
      refine mx_ic_m1 d_Mo_lawLine_77 ?_
      refine mx_icmp_eq 82 d_Mo_lawLine_78 (by decide) (fun c_78 => ?_) (fun c_78 => ?_)
      · skip
        obtain ⟨p, he, hs⟩ := fig_ok hK4 c_78 hL
        have ham := ham.trans he
        have hpv := (fg_num he (by have := hs0.cu.choose_spec.2.2.2; have := (gq_num_go (tK0 rfl)).1 p he; omega)).symm
        refine mx_al0 d_Mo_lawLine_82 ?_
        refine mx_ldcSW (i := 46) d_Mo_lawLine_83 rfl rfl ?_
        refine mx_cV1iR d_Mo_lawLine_86 (c_Mo_has_46 hM (hs.tx hx) hs) ok_Mo_has ml_Mo_117 (by assumption) ⟨rfl, rfl⟩ (by omega) (Nat.le_of_ble_eq_true rfl) (fun K5 hK5 => ?_)
        refine mx_ifB_eq 99 d_Mo_lawLine_89 (by decide) (fun c_89 => ?_) (fun c_89 => ?_)
        · skip
          have hk32 : ¬ tK f L p.2 = 32 := of_decide_eq_false c_89
          rw [if_neg hk32] at hK5
          have hs := hK5.1
          obtain ⟨q, hq0⟩ : ∃ q : List Int32 × Nat, q = ([], p.2) := ⟨_, rfl⟩
          have hif : gq_if (tK f L) (tV f L) p.2 = .inr q := (if_neg hk32).trans (congrArg Sum.inr hq0.symm)
          have e8 : p.2 = q.2 := by rw [hq0]
          rw [e8] at hs
          have hem : q.1 = [] := by rw [hq0]
          refine mx_in_1 d_Mo_lawLine_99 ?_
          refine mx_goto 104 d_Mo_lawLine_100 (by decide) ?_
          refine mx_is3 d_Mo_lawLine_104 ?_
          refine mx_al0 d_Mo_lawLine_105 ?_
          refine mx_getI d_Mo_lawLine_106 fl_Mo_25 (by assumption) ?_
          refine mx_ti (y := (-1)) (hs.f0) ?_
          refine mx_ic_m1 d_Mo_lawLine_109 ?_
          refine mx_icmp_eq 114 d_Mo_lawLine_110 (by decide) (fun c_110 => ?_) (fun c_110 => absurd c_110 (fun z => z rfl))
          have hq := gq_line_y h3 ham hif
          rw [hk30] at hq
          have hli : li_h fc (((30, p.1, q.1), q.2) : gq_L × Nat).1 = true := li_y (Or.inl hem)
          refine mx_al0 d_Mo_lawLine_114 ?_
          refine mx_al0 d_Mo_lawLine_115 ?_
          refine mx_getI d_Mo_lawLine_116 fl_Mo_260 (by assumption) ?_
          refine mx_if_ne 127 d_Mo_lawLine_119 (by decide) (fun c_119 => ?_) (fun c_119 => ?_)
          · skip
            refine mx_in_1 d_Mo_lawLine_127 ?_
            refine mx_goto 132 d_Mo_lawLine_128 (by decide) ?_
            refine mx_putZ d_Mo_lawLine_132 fl_Mo_260 (by assumption) (by first | exact Or.inl rfl | exact Or.inr rfl) ?_
            refine mx_il3 d_Mo_lawLine_135 ?_
            refine mx_if_ne 140 d_Mo_lawLine_136 (by decide) (fun c_136 => ?_) (fun c_136 => absurd c_136 (by decide))
            refine mx_al0 d_Mo_lawLine_140 ?_
            refine mx_al0 d_Mo_lawLine_141 ?_
            refine mx_getI d_Mo_lawLine_142 fl_Mo_263 (by assumption) ?_
            refine mx_if_ne 153 d_Mo_lawLine_145 (by decide) (fun c_145 => ?_) (fun c_145 => ?_)
            · skip
              refine mx_in_1 d_Mo_lawLine_153 ?_
              refine mx_goto 158 d_Mo_lawLine_154 (by decide) ?_
              refine mx_putZ d_Mo_lawLine_158 fl_Mo_263 (by assumption) (by first | exact Or.inl rfl | exact Or.inr rfl) ?_
              refine mx_al0 d_Mo_lawLine_161 ?_
              refine mx_dup d_Mo_lawLine_162 rfl ?_
              refine mx_getI d_Mo_lawLine_163 fl_Mo_266 (by assumption) ?_
              refine mx_il1 d_Mo_lawLine_166 ?_
              refine mx_if_ne 174 d_Mo_lawLine_167 (by decide) (fun c_167 => ?_) (fun c_167 => absurd c_167 (by decide))
              refine mx_il1 d_Mo_lawLine_174 ?_
              refine mx_in_1 d_Mo_lawLine_175 ?_
              refine mx_icN_ne 184 d_Mo_lawLine_176 (by decide) (by omega) (by omega) (fun c_176 => absurd c_176 (by omega)) (fun c_176 => ?_)
              refine mx_il2 d_Mo_lawLine_179 ?_
              refine mx_ineg d_Mo_lawLine_180 ?_
              refine mx_goto 185 d_Mo_lawLine_181 (by decide) ?_
              refine mx_iadd d_Mo_lawLine_185 ?_
              refine mx_putI d_Mo_lawLine_186 fl_Mo_266 (by assumption) ?_
              exact mx_vret d_Mo_lawLine_189 rfl (mx_sR_of rfl (by rw [hq]; exact ml_end_y (q := ((30, p.1, q.1), q.2)) hs hli (by simp [bI, c_119]) (by simp [mx_up] at c_145; simp [bI, c_145]) (by simp [mx_up, hpv])))
            · skip
              refine mx_il1 d_Mo_lawLine_148 ?_
              refine mx_in_2 d_Mo_lawLine_149 ?_
              refine mx_icN_ne 157 d_Mo_lawLine_150 (by decide) (by omega) (by omega) (fun c_150 => ?_) (fun c_150 => absurd c_150 (by omega))
              refine mx_in_0 d_Mo_lawLine_157 ?_
              refine mx_putZ d_Mo_lawLine_158 fl_Mo_263 (by assumption) (by first | exact Or.inl rfl | exact Or.inr rfl) ?_
              refine mx_al0 d_Mo_lawLine_161 ?_
              refine mx_dup d_Mo_lawLine_162 rfl ?_
              refine mx_getI d_Mo_lawLine_163 fl_Mo_266 (by assumption) ?_
              refine mx_il1 d_Mo_lawLine_166 ?_
              refine mx_if_ne 174 d_Mo_lawLine_167 (by decide) (fun c_167 => ?_) (fun c_167 => absurd c_167 (by decide))
              refine mx_il1 d_Mo_lawLine_174 ?_
              refine mx_in_1 d_Mo_lawLine_175 ?_
              refine mx_icN_ne 184 d_Mo_lawLine_176 (by decide) (by omega) (by omega) (fun c_176 => absurd c_176 (by omega)) (fun c_176 => ?_)
              refine mx_il2 d_Mo_lawLine_179 ?_
              refine mx_ineg d_Mo_lawLine_180 ?_
              refine mx_goto 185 d_Mo_lawLine_181 (by decide) ?_
              refine mx_iadd d_Mo_lawLine_185 ?_
              refine mx_putI d_Mo_lawLine_186 fl_Mo_266 (by assumption) ?_
              exact mx_vret d_Mo_lawLine_189 rfl (mx_sR_of rfl (by rw [hq]; exact ml_end_y (q := ((30, p.1, q.1), q.2)) hs hli (by simp [bI, c_119]) (by simp [mx_up] at c_145; simp [bI, c_145]) (by simp [mx_up, hpv])))
          · skip
            refine mx_il1 d_Mo_lawLine_122 ?_
            refine mx_in_2 d_Mo_lawLine_123 ?_
            refine mx_icN_ne 131 d_Mo_lawLine_124 (by decide) (by omega) (by omega) (fun c_124 => ?_) (fun c_124 => absurd c_124 (by omega))
            refine mx_in_0 d_Mo_lawLine_131 ?_
            refine mx_putZ d_Mo_lawLine_132 fl_Mo_260 (by assumption) (by first | exact Or.inl rfl | exact Or.inr rfl) ?_
            refine mx_il3 d_Mo_lawLine_135 ?_
            refine mx_if_ne 140 d_Mo_lawLine_136 (by decide) (fun c_136 => ?_) (fun c_136 => absurd c_136 (by decide))
            refine mx_al0 d_Mo_lawLine_140 ?_
            refine mx_al0 d_Mo_lawLine_141 ?_
            refine mx_getI d_Mo_lawLine_142 fl_Mo_263 (by assumption) ?_
            refine mx_if_ne 153 d_Mo_lawLine_145 (by decide) (fun c_145 => ?_) (fun c_145 => ?_)
            · skip
              refine mx_in_1 d_Mo_lawLine_153 ?_
              refine mx_goto 158 d_Mo_lawLine_154 (by decide) ?_
              refine mx_putZ d_Mo_lawLine_158 fl_Mo_263 (by assumption) (by first | exact Or.inl rfl | exact Or.inr rfl) ?_
              refine mx_al0 d_Mo_lawLine_161 ?_
              refine mx_dup d_Mo_lawLine_162 rfl ?_
              refine mx_getI d_Mo_lawLine_163 fl_Mo_266 (by assumption) ?_
              refine mx_il1 d_Mo_lawLine_166 ?_
              refine mx_if_ne 174 d_Mo_lawLine_167 (by decide) (fun c_167 => ?_) (fun c_167 => absurd c_167 (by decide))
              refine mx_il1 d_Mo_lawLine_174 ?_
              refine mx_in_1 d_Mo_lawLine_175 ?_
              refine mx_icN_ne 184 d_Mo_lawLine_176 (by decide) (by omega) (by omega) (fun c_176 => absurd c_176 (by omega)) (fun c_176 => ?_)
              refine mx_il2 d_Mo_lawLine_179 ?_
              refine mx_ineg d_Mo_lawLine_180 ?_
              refine mx_goto 185 d_Mo_lawLine_181 (by decide) ?_
              refine mx_iadd d_Mo_lawLine_185 ?_
              refine mx_putI d_Mo_lawLine_186 fl_Mo_266 (by assumption) ?_
              exact mx_vret d_Mo_lawLine_189 rfl (mx_sR_of rfl (by rw [hq]; exact ml_end_y (q := ((30, p.1, q.1), q.2)) hs hli (by simp [bI, c_119]) (by simp [mx_up] at c_145; simp [bI, c_145]) (by simp [mx_up, hpv])))
            · skip
              refine mx_il1 d_Mo_lawLine_148 ?_
              refine mx_in_2 d_Mo_lawLine_149 ?_
              refine mx_icN_ne 157 d_Mo_lawLine_150 (by decide) (by omega) (by omega) (fun c_150 => ?_) (fun c_150 => absurd c_150 (by omega))
              refine mx_in_0 d_Mo_lawLine_157 ?_
              refine mx_putZ d_Mo_lawLine_158 fl_Mo_263 (by assumption) (by first | exact Or.inl rfl | exact Or.inr rfl) ?_
              refine mx_al0 d_Mo_lawLine_161 ?_
              refine mx_dup d_Mo_lawLine_162 rfl ?_
              refine mx_getI d_Mo_lawLine_163 fl_Mo_266 (by assumption) ?_
              refine mx_il1 d_Mo_lawLine_166 ?_
              refine mx_if_ne 174 d_Mo_lawLine_167 (by decide) (fun c_167 => ?_) (fun c_167 => absurd c_167 (by decide))
              refine mx_il1 d_Mo_lawLine_174 ?_
              refine mx_in_1 d_Mo_lawLine_175 ?_
              refine mx_icN_ne 184 d_Mo_lawLine_176 (by decide) (by omega) (by omega) (fun c_176 => absurd c_176 (by omega)) (fun c_176 => ?_)
              refine mx_il2 d_Mo_lawLine_179 ?_
              refine mx_ineg d_Mo_lawLine_180 ?_
              refine mx_goto 185 d_Mo_lawLine_181 (by decide) ?_
              refine mx_iadd d_Mo_lawLine_185 ?_
              refine mx_putI d_Mo_lawLine_186 fl_Mo_266 (by assumption) ?_
              exact mx_vret d_Mo_lawLine_189 rfl (mx_sR_of rfl (by rw [hq]; exact ml_end_y (q := ((30, p.1, q.1), q.2)) hs hli (by simp [bI, c_119]) (by simp [mx_up] at c_145; simp [bI, c_145]) (by simp [mx_up, hpv])))
        · skip
          have hk32 : tK f L p.2 = 32 := of_decide_eq_true c_89
          rw [if_pos hk32] at hK5
          have hs := hK5.1
          refine mx_al0 d_Mo_lawLine_92 ?_
          refine mx_cV0y d_Mo_lawLine_93 ((c_Mo_AO hM 6 (by omega)).2 _ _ (hs.tx hx) hs.self (hs.1.mf hmf)) ok_Mo_some ml_Mo_242 (by assumption) ⟨rfl, rfl⟩ (by omega) (Nat.le_of_ble_eq_true rfl) (fun v6 K6 hK6 => ?_)
          have hK7 : mc_out I K6 mo f L 0 506 fc v6 (gq_som (tK f L) (gq_atm (tK f L) (tV f L) 6) (p.2 + 1)) := mc_out.tr hs hK6.2
          refine mx_if_eq 103 d_Mo_lawLine_96 (by decide) (fun c_96 => ?_) (fun c_96 => ?_)
          · skip
            refine mx_in_0 d_Mo_lawLine_103 ?_
            refine mx_is3 d_Mo_lawLine_104 ?_
            refine mx_al0 d_Mo_lawLine_105 ?_
            refine mx_getI d_Mo_lawLine_106 fl_Mo_25 (by assumption) ?_
            refine mx_ti (y := (K6 (mo) 12)) (rfl) ?_
            refine mx_ic_m1 d_Mo_lawLine_109 ?_
            refine mx_icmp_eq 114 d_Mo_lawLine_110 (by decide) (fun c_110 => ?_) (fun c_110 => ?_)
            · skip
              obtain ⟨q, he, hs, hv⟩ := hK7.ok c_110 hL
              have hif : gq_if (tK f L) (tV f L) p.2 = .inr q := (if_pos hk32).trans he
              have hne := som_ne he
              have hq := gq_line_y h3 ham hif
              rw [hk30] at hq
              have hli : li_h fc (((30, p.1, q.1), q.2) : gq_L × Nat).1 = false := li_n hne (hv.symm.trans c_96)
              refine mx_al0 d_Mo_lawLine_114 ?_
              refine mx_al0 d_Mo_lawLine_115 ?_
              refine mx_getI d_Mo_lawLine_116 fl_Mo_260 (by assumption) ?_
              refine mx_if_ne 127 d_Mo_lawLine_119 (by decide) (fun c_119 => ?_) (fun c_119 => ?_)
              · skip
                refine mx_in_1 d_Mo_lawLine_127 ?_
                refine mx_goto 132 d_Mo_lawLine_128 (by decide) ?_
                refine mx_putZ d_Mo_lawLine_132 fl_Mo_260 (by assumption) (by first | exact Or.inl rfl | exact Or.inr rfl) ?_
                refine mx_il3 d_Mo_lawLine_135 ?_
                refine mx_if_ne 140 d_Mo_lawLine_136 (by decide) (fun c_136 => absurd (by decide) c_136) (fun c_136 => ?_)
                exact mx_vret d_Mo_lawLine_139 rfl (mx_sR_of rfl (by rw [hq]; exact ml_end_n (q := ((30, p.1, q.1), q.2)) hs hli (by simp [bI, c_119])))
              · skip
                refine mx_il1 d_Mo_lawLine_122 ?_
                refine mx_in_2 d_Mo_lawLine_123 ?_
                refine mx_icN_ne 131 d_Mo_lawLine_124 (by decide) (by omega) (by omega) (fun c_124 => ?_) (fun c_124 => absurd c_124 (by omega))
                refine mx_in_0 d_Mo_lawLine_131 ?_
                refine mx_putZ d_Mo_lawLine_132 fl_Mo_260 (by assumption) (by first | exact Or.inl rfl | exact Or.inr rfl) ?_
                refine mx_il3 d_Mo_lawLine_135 ?_
                refine mx_if_ne 140 d_Mo_lawLine_136 (by decide) (fun c_136 => absurd (by decide) c_136) (fun c_136 => ?_)
                exact mx_vret d_Mo_lawLine_139 rfl (mx_sR_of rfl (by rw [hq]; exact ml_end_n (q := ((30, p.1, q.1), q.2)) hs hli (by simp [bI, c_119])))
            · skip
              obtain ⟨e, he, hb⟩ := hK7.no c_110
              have hq := gq_line_i h3 ham ((if_pos hk32).trans he)
              exact mx_vret d_Mo_lawLine_113 rfl (mx_sR_of rfl (by rw [hq]; exact hb.ml (by omega)))
          · skip
            refine mx_in_1 d_Mo_lawLine_99 ?_
            refine mx_goto 104 d_Mo_lawLine_100 (by decide) ?_
            refine mx_is3 d_Mo_lawLine_104 ?_
            refine mx_al0 d_Mo_lawLine_105 ?_
            refine mx_getI d_Mo_lawLine_106 fl_Mo_25 (by assumption) ?_
            refine mx_ti (y := (K6 (mo) 12)) (rfl) ?_
            refine mx_ic_m1 d_Mo_lawLine_109 ?_
            refine mx_icmp_eq 114 d_Mo_lawLine_110 (by decide) (fun c_110 => ?_) (fun c_110 => ?_)
            · skip
              obtain ⟨q, he, hs, hv⟩ := hK7.ok c_110 hL
              have hif : gq_if (tK f L) (tV f L) p.2 = .inr q := (if_pos hk32).trans he
              have hne := som_ne he
              have hq := gq_line_y h3 ham hif
              rw [hk30] at hq
              have hli : li_h fc (((30, p.1, q.1), q.2) : gq_L × Nat).1 = true := li_y (Or.inr (fun z => c_96 (hv.trans z)))
              refine mx_al0 d_Mo_lawLine_114 ?_
              refine mx_al0 d_Mo_lawLine_115 ?_
              refine mx_getI d_Mo_lawLine_116 fl_Mo_260 (by assumption) ?_
              refine mx_if_ne 127 d_Mo_lawLine_119 (by decide) (fun c_119 => ?_) (fun c_119 => ?_)
              · skip
                refine mx_in_1 d_Mo_lawLine_127 ?_
                refine mx_goto 132 d_Mo_lawLine_128 (by decide) ?_
                refine mx_putZ d_Mo_lawLine_132 fl_Mo_260 (by assumption) (by first | exact Or.inl rfl | exact Or.inr rfl) ?_
                refine mx_il3 d_Mo_lawLine_135 ?_
                refine mx_if_ne 140 d_Mo_lawLine_136 (by decide) (fun c_136 => ?_) (fun c_136 => absurd c_136 (by decide))
                refine mx_al0 d_Mo_lawLine_140 ?_
                refine mx_al0 d_Mo_lawLine_141 ?_
                refine mx_getI d_Mo_lawLine_142 fl_Mo_263 (by assumption) ?_
                refine mx_if_ne 153 d_Mo_lawLine_145 (by decide) (fun c_145 => ?_) (fun c_145 => ?_)
                · skip
                  refine mx_in_1 d_Mo_lawLine_153 ?_
                  refine mx_goto 158 d_Mo_lawLine_154 (by decide) ?_
                  refine mx_putZ d_Mo_lawLine_158 fl_Mo_263 (by assumption) (by first | exact Or.inl rfl | exact Or.inr rfl) ?_
                  refine mx_al0 d_Mo_lawLine_161 ?_
                  refine mx_dup d_Mo_lawLine_162 rfl ?_
                  refine mx_getI d_Mo_lawLine_163 fl_Mo_266 (by assumption) ?_
                  refine mx_il1 d_Mo_lawLine_166 ?_
                  refine mx_if_ne 174 d_Mo_lawLine_167 (by decide) (fun c_167 => ?_) (fun c_167 => absurd c_167 (by decide))
                  refine mx_il1 d_Mo_lawLine_174 ?_
                  refine mx_in_1 d_Mo_lawLine_175 ?_
                  refine mx_icN_ne 184 d_Mo_lawLine_176 (by decide) (by omega) (by omega) (fun c_176 => absurd c_176 (by omega)) (fun c_176 => ?_)
                  refine mx_il2 d_Mo_lawLine_179 ?_
                  refine mx_ineg d_Mo_lawLine_180 ?_
                  refine mx_goto 185 d_Mo_lawLine_181 (by decide) ?_
                  refine mx_iadd d_Mo_lawLine_185 ?_
                  refine mx_putI d_Mo_lawLine_186 fl_Mo_266 (by assumption) ?_
                  exact mx_vret d_Mo_lawLine_189 rfl (mx_sR_of rfl (by rw [hq]; exact ml_end_y (q := ((30, p.1, q.1), q.2)) hs hli (by simp [bI, c_119]) (by simp [mx_up] at c_145; simp [bI, c_145]) (by simp [mx_up, hpv])))
                · skip
                  refine mx_il1 d_Mo_lawLine_148 ?_
                  refine mx_in_2 d_Mo_lawLine_149 ?_
                  refine mx_icN_ne 157 d_Mo_lawLine_150 (by decide) (by omega) (by omega) (fun c_150 => ?_) (fun c_150 => absurd c_150 (by omega))
                  refine mx_in_0 d_Mo_lawLine_157 ?_
                  refine mx_putZ d_Mo_lawLine_158 fl_Mo_263 (by assumption) (by first | exact Or.inl rfl | exact Or.inr rfl) ?_
                  refine mx_al0 d_Mo_lawLine_161 ?_
                  refine mx_dup d_Mo_lawLine_162 rfl ?_
                  refine mx_getI d_Mo_lawLine_163 fl_Mo_266 (by assumption) ?_
                  refine mx_il1 d_Mo_lawLine_166 ?_
                  refine mx_if_ne 174 d_Mo_lawLine_167 (by decide) (fun c_167 => ?_) (fun c_167 => absurd c_167 (by decide))
                  refine mx_il1 d_Mo_lawLine_174 ?_
                  refine mx_in_1 d_Mo_lawLine_175 ?_
                  refine mx_icN_ne 184 d_Mo_lawLine_176 (by decide) (by omega) (by omega) (fun c_176 => absurd c_176 (by omega)) (fun c_176 => ?_)
                  refine mx_il2 d_Mo_lawLine_179 ?_
                  refine mx_ineg d_Mo_lawLine_180 ?_
                  refine mx_goto 185 d_Mo_lawLine_181 (by decide) ?_
                  refine mx_iadd d_Mo_lawLine_185 ?_
                  refine mx_putI d_Mo_lawLine_186 fl_Mo_266 (by assumption) ?_
                  exact mx_vret d_Mo_lawLine_189 rfl (mx_sR_of rfl (by rw [hq]; exact ml_end_y (q := ((30, p.1, q.1), q.2)) hs hli (by simp [bI, c_119]) (by simp [mx_up] at c_145; simp [bI, c_145]) (by simp [mx_up, hpv])))
              · skip
                refine mx_il1 d_Mo_lawLine_122 ?_
                refine mx_in_2 d_Mo_lawLine_123 ?_
                refine mx_icN_ne 131 d_Mo_lawLine_124 (by decide) (by omega) (by omega) (fun c_124 => ?_) (fun c_124 => absurd c_124 (by omega))
                refine mx_in_0 d_Mo_lawLine_131 ?_
                refine mx_putZ d_Mo_lawLine_132 fl_Mo_260 (by assumption) (by first | exact Or.inl rfl | exact Or.inr rfl) ?_
                refine mx_il3 d_Mo_lawLine_135 ?_
                refine mx_if_ne 140 d_Mo_lawLine_136 (by decide) (fun c_136 => ?_) (fun c_136 => absurd c_136 (by decide))
                refine mx_al0 d_Mo_lawLine_140 ?_
                refine mx_al0 d_Mo_lawLine_141 ?_
                refine mx_getI d_Mo_lawLine_142 fl_Mo_263 (by assumption) ?_
                refine mx_if_ne 153 d_Mo_lawLine_145 (by decide) (fun c_145 => ?_) (fun c_145 => ?_)
                · skip
                  refine mx_in_1 d_Mo_lawLine_153 ?_
                  refine mx_goto 158 d_Mo_lawLine_154 (by decide) ?_
                  refine mx_putZ d_Mo_lawLine_158 fl_Mo_263 (by assumption) (by first | exact Or.inl rfl | exact Or.inr rfl) ?_
                  refine mx_al0 d_Mo_lawLine_161 ?_
                  refine mx_dup d_Mo_lawLine_162 rfl ?_
                  refine mx_getI d_Mo_lawLine_163 fl_Mo_266 (by assumption) ?_
                  refine mx_il1 d_Mo_lawLine_166 ?_
                  refine mx_if_ne 174 d_Mo_lawLine_167 (by decide) (fun c_167 => ?_) (fun c_167 => absurd c_167 (by decide))
                  refine mx_il1 d_Mo_lawLine_174 ?_
                  refine mx_in_1 d_Mo_lawLine_175 ?_
                  refine mx_icN_ne 184 d_Mo_lawLine_176 (by decide) (by omega) (by omega) (fun c_176 => absurd c_176 (by omega)) (fun c_176 => ?_)
                  refine mx_il2 d_Mo_lawLine_179 ?_
                  refine mx_ineg d_Mo_lawLine_180 ?_
                  refine mx_goto 185 d_Mo_lawLine_181 (by decide) ?_
                  refine mx_iadd d_Mo_lawLine_185 ?_
                  refine mx_putI d_Mo_lawLine_186 fl_Mo_266 (by assumption) ?_
                  exact mx_vret d_Mo_lawLine_189 rfl (mx_sR_of rfl (by rw [hq]; exact ml_end_y (q := ((30, p.1, q.1), q.2)) hs hli (by simp [bI, c_119]) (by simp [mx_up] at c_145; simp [bI, c_145]) (by simp [mx_up, hpv])))
                · skip
                  refine mx_il1 d_Mo_lawLine_148 ?_
                  refine mx_in_2 d_Mo_lawLine_149 ?_
                  refine mx_icN_ne 157 d_Mo_lawLine_150 (by decide) (by omega) (by omega) (fun c_150 => ?_) (fun c_150 => absurd c_150 (by omega))
                  refine mx_in_0 d_Mo_lawLine_157 ?_
                  refine mx_putZ d_Mo_lawLine_158 fl_Mo_263 (by assumption) (by first | exact Or.inl rfl | exact Or.inr rfl) ?_
                  refine mx_al0 d_Mo_lawLine_161 ?_
                  refine mx_dup d_Mo_lawLine_162 rfl ?_
                  refine mx_getI d_Mo_lawLine_163 fl_Mo_266 (by assumption) ?_
                  refine mx_il1 d_Mo_lawLine_166 ?_
                  refine mx_if_ne 174 d_Mo_lawLine_167 (by decide) (fun c_167 => ?_) (fun c_167 => absurd c_167 (by decide))
                  refine mx_il1 d_Mo_lawLine_174 ?_
                  refine mx_in_1 d_Mo_lawLine_175 ?_
                  refine mx_icN_ne 184 d_Mo_lawLine_176 (by decide) (by omega) (by omega) (fun c_176 => absurd c_176 (by omega)) (fun c_176 => ?_)
                  refine mx_il2 d_Mo_lawLine_179 ?_
                  refine mx_ineg d_Mo_lawLine_180 ?_
                  refine mx_goto 185 d_Mo_lawLine_181 (by decide) ?_
                  refine mx_iadd d_Mo_lawLine_185 ?_
                  refine mx_putI d_Mo_lawLine_186 fl_Mo_266 (by assumption) ?_
                  exact mx_vret d_Mo_lawLine_189 rfl (mx_sR_of rfl (by rw [hq]; exact ml_end_y (q := ((30, p.1, q.1), q.2)) hs hli (by simp [bI, c_119]) (by simp [mx_up] at c_145; simp [bI, c_145]) (by simp [mx_up, hpv])))
            · skip
              obtain ⟨e, he, hb⟩ := hK7.no c_110
              have hq := gq_line_i h3 ham ((if_pos hk32).trans he)
              exact mx_vret d_Mo_lawLine_113 rfl (mx_sR_of rfl (by rw [hq]; exact hb.ml (by omega)))
      · skip
        obtain ⟨e, he, hb⟩ := fig_no hK4 c_78
        have hq := gq_line_a h3 (ham.trans he)
        exact mx_vret d_Mo_lawLine_81 rfl (mx_sR_of rfl (by rw [hq]; exact hb.ml (by omega)))
  · skip
    have hk29 : tK f L c = 29 := of_decide_eq_true c_6
    have h3 : tK f L c = 29 ∨ tK f L c = 30 ∨ tK f L c = 31 := by omega
    rw [if_pos hk29] at hK1
    have hs := hK1.1
    have ham : gq_am (tK f L) (tV f L) c = gq_num (tK f L) (tV f L) 0 100 (c + 1) := if_neg (by omega)
    refine mx_in_0 d_Mo_lawLine_9 ?_
    refine mx_goto 41 d_Mo_lawLine_10 (by decide) ?_
    refine mx_is1 d_Mo_lawLine_41 ?_
    refine mx_il1 d_Mo_lawLine_42 ?_
    refine mx_ic_m1 d_Mo_lawLine_43 ?_
    refine mx_icmp_ne 56 d_Mo_lawLine_44 (by decide) (fun c_44 => ?_) (fun c_44 => absurd c_44 (by decide))
    refine mx_il1 d_Mo_lawLine_56 ?_
    refine mx_in_2 d_Mo_lawLine_57 ?_
    refine mx_icN_ne 65 d_Mo_lawLine_58 (by decide) (by omega) (by omega) (fun c_58 => ?_) (fun c_58 => absurd c_58 (by omega))
    refine mx_al0 d_Mo_lawLine_65 ?_
    refine mx_in_0 d_Mo_lawLine_66 ?_
    refine mx_bip 99 d_Mo_lawLine_67 (by decide) ?_
    refine mx_cV2iR d_Mo_lawLine_69 (c_Mo_figuresS hM (hs.tx hx) hs (lo := 0) (hb := 100) (by omega) h99) ok_Mo_figures ml_Mo_121 (by assumption) ⟨rfl, rfl⟩ (by omega) (Nat.le_of_ble_eq_true rfl) (fun K4 hK4 => ?_)
    refine mx_is2 d_Mo_lawLine_72 ?_
    refine mx_al0 d_Mo_lawLine_73 ?_
    refine mx_getI d_Mo_lawLine_74 fl_Mo_25 (by assumption) ?_
    refine mx_ti (y := (K4 (mo) 12)) (rfl) ?_
    refine mx_ic_m1 d_Mo_lawLine_77 ?_
    refine mx_icmp_eq 82 d_Mo_lawLine_78 (by decide) (fun c_78 => ?_) (fun c_78 => ?_)
    · skip
      obtain ⟨p, he, hs⟩ := fig_ok hK4 c_78 hL
      have ham := ham.trans he
      have hpv := (fg_num he (by have := hs0.cu.choose_spec.2.2.2; have := (gq_num_go (tK0 rfl)).1 p he; omega)).symm
      refine mx_al0 d_Mo_lawLine_82 ?_
      refine mx_ldcSW (i := 46) d_Mo_lawLine_83 rfl rfl ?_
      refine mx_cV1iR d_Mo_lawLine_86 (c_Mo_has_46 hM (hs.tx hx) hs) ok_Mo_has ml_Mo_117 (by assumption) ⟨rfl, rfl⟩ (by omega) (Nat.le_of_ble_eq_true rfl) (fun K5 hK5 => ?_)
      refine mx_ifB_eq 99 d_Mo_lawLine_89 (by decide) (fun c_89 => ?_) (fun c_89 => ?_)
      · skip
        have hk32 : ¬ tK f L p.2 = 32 := of_decide_eq_false c_89
        rw [if_neg hk32] at hK5
        have hs := hK5.1
        obtain ⟨q, hq0⟩ : ∃ q : List Int32 × Nat, q = ([], p.2) := ⟨_, rfl⟩
        have hif : gq_if (tK f L) (tV f L) p.2 = .inr q := (if_neg hk32).trans (congrArg Sum.inr hq0.symm)
        have e8 : p.2 = q.2 := by rw [hq0]
        rw [e8] at hs
        have hem : q.1 = [] := by rw [hq0]
        refine mx_in_1 d_Mo_lawLine_99 ?_
        refine mx_goto 104 d_Mo_lawLine_100 (by decide) ?_
        refine mx_is3 d_Mo_lawLine_104 ?_
        refine mx_al0 d_Mo_lawLine_105 ?_
        refine mx_getI d_Mo_lawLine_106 fl_Mo_25 (by assumption) ?_
        refine mx_ti (y := (-1)) (hs.f0) ?_
        refine mx_ic_m1 d_Mo_lawLine_109 ?_
        refine mx_icmp_eq 114 d_Mo_lawLine_110 (by decide) (fun c_110 => ?_) (fun c_110 => absurd c_110 (fun z => z rfl))
        have hq := gq_line_y h3 ham hif
        rw [hk29] at hq
        have hli : li_h fc (((29, p.1, q.1), q.2) : gq_L × Nat).1 = true := li_y (Or.inl hem)
        refine mx_al0 d_Mo_lawLine_114 ?_
        refine mx_al0 d_Mo_lawLine_115 ?_
        refine mx_getI d_Mo_lawLine_116 fl_Mo_260 (by assumption) ?_
        refine mx_if_ne 127 d_Mo_lawLine_119 (by decide) (fun c_119 => ?_) (fun c_119 => ?_)
        · skip
          refine mx_in_1 d_Mo_lawLine_127 ?_
          refine mx_goto 132 d_Mo_lawLine_128 (by decide) ?_
          refine mx_putZ d_Mo_lawLine_132 fl_Mo_260 (by assumption) (by first | exact Or.inl rfl | exact Or.inr rfl) ?_
          refine mx_il3 d_Mo_lawLine_135 ?_
          refine mx_if_ne 140 d_Mo_lawLine_136 (by decide) (fun c_136 => ?_) (fun c_136 => absurd c_136 (by decide))
          refine mx_al0 d_Mo_lawLine_140 ?_
          refine mx_al0 d_Mo_lawLine_141 ?_
          refine mx_getI d_Mo_lawLine_142 fl_Mo_263 (by assumption) ?_
          refine mx_if_ne 153 d_Mo_lawLine_145 (by decide) (fun c_145 => ?_) (fun c_145 => ?_)
          · skip
            refine mx_in_1 d_Mo_lawLine_153 ?_
            refine mx_goto 158 d_Mo_lawLine_154 (by decide) ?_
            refine mx_putZ d_Mo_lawLine_158 fl_Mo_263 (by assumption) (by first | exact Or.inl rfl | exact Or.inr rfl) ?_
            refine mx_al0 d_Mo_lawLine_161 ?_
            refine mx_dup d_Mo_lawLine_162 rfl ?_
            refine mx_getI d_Mo_lawLine_163 fl_Mo_266 (by assumption) ?_
            refine mx_il1 d_Mo_lawLine_166 ?_
            refine mx_if_ne 174 d_Mo_lawLine_167 (by decide) (fun c_167 => absurd (by decide) c_167) (fun c_167 => ?_)
            refine mx_il2 d_Mo_lawLine_170 ?_
            refine mx_goto 185 d_Mo_lawLine_171 (by decide) ?_
            refine mx_iadd d_Mo_lawLine_185 ?_
            refine mx_putI d_Mo_lawLine_186 fl_Mo_266 (by assumption) ?_
            exact mx_vret d_Mo_lawLine_189 rfl (mx_sR_of rfl (by rw [hq]; exact ml_end_y (q := ((29, p.1, q.1), q.2)) hs hli (by simp [bI, c_119]) (by simp [mx_up] at c_145; simp [bI, c_145]) (by simp [mx_up, hpv])))
          · skip
            refine mx_il1 d_Mo_lawLine_148 ?_
            refine mx_in_2 d_Mo_lawLine_149 ?_
            refine mx_icN_ne 157 d_Mo_lawLine_150 (by decide) (by omega) (by omega) (fun c_150 => ?_) (fun c_150 => absurd c_150 (by omega))
            refine mx_in_0 d_Mo_lawLine_157 ?_
            refine mx_putZ d_Mo_lawLine_158 fl_Mo_263 (by assumption) (by first | exact Or.inl rfl | exact Or.inr rfl) ?_
            refine mx_al0 d_Mo_lawLine_161 ?_
            refine mx_dup d_Mo_lawLine_162 rfl ?_
            refine mx_getI d_Mo_lawLine_163 fl_Mo_266 (by assumption) ?_
            refine mx_il1 d_Mo_lawLine_166 ?_
            refine mx_if_ne 174 d_Mo_lawLine_167 (by decide) (fun c_167 => absurd (by decide) c_167) (fun c_167 => ?_)
            refine mx_il2 d_Mo_lawLine_170 ?_
            refine mx_goto 185 d_Mo_lawLine_171 (by decide) ?_
            refine mx_iadd d_Mo_lawLine_185 ?_
            refine mx_putI d_Mo_lawLine_186 fl_Mo_266 (by assumption) ?_
            exact mx_vret d_Mo_lawLine_189 rfl (mx_sR_of rfl (by rw [hq]; exact ml_end_y (q := ((29, p.1, q.1), q.2)) hs hli (by simp [bI, c_119]) (by simp [mx_up] at c_145; simp [bI, c_145]) (by simp [mx_up, hpv])))
        · skip
          refine mx_il1 d_Mo_lawLine_122 ?_
          refine mx_in_2 d_Mo_lawLine_123 ?_
          refine mx_icN_ne 131 d_Mo_lawLine_124 (by decide) (by omega) (by omega) (fun c_124 => ?_) (fun c_124 => absurd c_124 (by omega))
          refine mx_in_0 d_Mo_lawLine_131 ?_
          refine mx_putZ d_Mo_lawLine_132 fl_Mo_260 (by assumption) (by first | exact Or.inl rfl | exact Or.inr rfl) ?_
          refine mx_il3 d_Mo_lawLine_135 ?_
          refine mx_if_ne 140 d_Mo_lawLine_136 (by decide) (fun c_136 => ?_) (fun c_136 => absurd c_136 (by decide))
          refine mx_al0 d_Mo_lawLine_140 ?_
          refine mx_al0 d_Mo_lawLine_141 ?_
          refine mx_getI d_Mo_lawLine_142 fl_Mo_263 (by assumption) ?_
          refine mx_if_ne 153 d_Mo_lawLine_145 (by decide) (fun c_145 => ?_) (fun c_145 => ?_)
          · skip
            refine mx_in_1 d_Mo_lawLine_153 ?_
            refine mx_goto 158 d_Mo_lawLine_154 (by decide) ?_
            refine mx_putZ d_Mo_lawLine_158 fl_Mo_263 (by assumption) (by first | exact Or.inl rfl | exact Or.inr rfl) ?_
            refine mx_al0 d_Mo_lawLine_161 ?_
            refine mx_dup d_Mo_lawLine_162 rfl ?_
            refine mx_getI d_Mo_lawLine_163 fl_Mo_266 (by assumption) ?_
            refine mx_il1 d_Mo_lawLine_166 ?_
            refine mx_if_ne 174 d_Mo_lawLine_167 (by decide) (fun c_167 => absurd (by decide) c_167) (fun c_167 => ?_)
            refine mx_il2 d_Mo_lawLine_170 ?_
            refine mx_goto 185 d_Mo_lawLine_171 (by decide) ?_
            refine mx_iadd d_Mo_lawLine_185 ?_
            refine mx_putI d_Mo_lawLine_186 fl_Mo_266 (by assumption) ?_
            exact mx_vret d_Mo_lawLine_189 rfl (mx_sR_of rfl (by rw [hq]; exact ml_end_y (q := ((29, p.1, q.1), q.2)) hs hli (by simp [bI, c_119]) (by simp [mx_up] at c_145; simp [bI, c_145]) (by simp [mx_up, hpv])))
          · skip
            refine mx_il1 d_Mo_lawLine_148 ?_
            refine mx_in_2 d_Mo_lawLine_149 ?_
            refine mx_icN_ne 157 d_Mo_lawLine_150 (by decide) (by omega) (by omega) (fun c_150 => ?_) (fun c_150 => absurd c_150 (by omega))
            refine mx_in_0 d_Mo_lawLine_157 ?_
            refine mx_putZ d_Mo_lawLine_158 fl_Mo_263 (by assumption) (by first | exact Or.inl rfl | exact Or.inr rfl) ?_
            refine mx_al0 d_Mo_lawLine_161 ?_
            refine mx_dup d_Mo_lawLine_162 rfl ?_
            refine mx_getI d_Mo_lawLine_163 fl_Mo_266 (by assumption) ?_
            refine mx_il1 d_Mo_lawLine_166 ?_
            refine mx_if_ne 174 d_Mo_lawLine_167 (by decide) (fun c_167 => absurd (by decide) c_167) (fun c_167 => ?_)
            refine mx_il2 d_Mo_lawLine_170 ?_
            refine mx_goto 185 d_Mo_lawLine_171 (by decide) ?_
            refine mx_iadd d_Mo_lawLine_185 ?_
            refine mx_putI d_Mo_lawLine_186 fl_Mo_266 (by assumption) ?_
            exact mx_vret d_Mo_lawLine_189 rfl (mx_sR_of rfl (by rw [hq]; exact ml_end_y (q := ((29, p.1, q.1), q.2)) hs hli (by simp [bI, c_119]) (by simp [mx_up] at c_145; simp [bI, c_145]) (by simp [mx_up, hpv])))
      · skip
        have hk32 : tK f L p.2 = 32 := of_decide_eq_true c_89
        rw [if_pos hk32] at hK5
        have hs := hK5.1
        refine mx_al0 d_Mo_lawLine_92 ?_
        refine mx_cV0y d_Mo_lawLine_93 ((c_Mo_AO hM 6 (by omega)).2 _ _ (hs.tx hx) hs.self (hs.1.mf hmf)) ok_Mo_some ml_Mo_242 (by assumption) ⟨rfl, rfl⟩ (by omega) (Nat.le_of_ble_eq_true rfl) (fun v6 K6 hK6 => ?_)
        have hK7 : mc_out I K6 mo f L 0 506 fc v6 (gq_som (tK f L) (gq_atm (tK f L) (tV f L) 6) (p.2 + 1)) := mc_out.tr hs hK6.2
        refine mx_if_eq 103 d_Mo_lawLine_96 (by decide) (fun c_96 => ?_) (fun c_96 => ?_)
        · skip
          refine mx_in_0 d_Mo_lawLine_103 ?_
          refine mx_is3 d_Mo_lawLine_104 ?_
          refine mx_al0 d_Mo_lawLine_105 ?_
          refine mx_getI d_Mo_lawLine_106 fl_Mo_25 (by assumption) ?_
          refine mx_ti (y := (K6 (mo) 12)) (rfl) ?_
          refine mx_ic_m1 d_Mo_lawLine_109 ?_
          refine mx_icmp_eq 114 d_Mo_lawLine_110 (by decide) (fun c_110 => ?_) (fun c_110 => ?_)
          · skip
            obtain ⟨q, he, hs, hv⟩ := hK7.ok c_110 hL
            have hif : gq_if (tK f L) (tV f L) p.2 = .inr q := (if_pos hk32).trans he
            have hne := som_ne he
            have hq := gq_line_y h3 ham hif
            rw [hk29] at hq
            have hli : li_h fc (((29, p.1, q.1), q.2) : gq_L × Nat).1 = false := li_n hne (hv.symm.trans c_96)
            refine mx_al0 d_Mo_lawLine_114 ?_
            refine mx_al0 d_Mo_lawLine_115 ?_
            refine mx_getI d_Mo_lawLine_116 fl_Mo_260 (by assumption) ?_
            refine mx_if_ne 127 d_Mo_lawLine_119 (by decide) (fun c_119 => ?_) (fun c_119 => ?_)
            · skip
              refine mx_in_1 d_Mo_lawLine_127 ?_
              refine mx_goto 132 d_Mo_lawLine_128 (by decide) ?_
              refine mx_putZ d_Mo_lawLine_132 fl_Mo_260 (by assumption) (by first | exact Or.inl rfl | exact Or.inr rfl) ?_
              refine mx_il3 d_Mo_lawLine_135 ?_
              refine mx_if_ne 140 d_Mo_lawLine_136 (by decide) (fun c_136 => absurd (by decide) c_136) (fun c_136 => ?_)
              exact mx_vret d_Mo_lawLine_139 rfl (mx_sR_of rfl (by rw [hq]; exact ml_end_n (q := ((29, p.1, q.1), q.2)) hs hli (by simp [bI, c_119])))
            · skip
              refine mx_il1 d_Mo_lawLine_122 ?_
              refine mx_in_2 d_Mo_lawLine_123 ?_
              refine mx_icN_ne 131 d_Mo_lawLine_124 (by decide) (by omega) (by omega) (fun c_124 => ?_) (fun c_124 => absurd c_124 (by omega))
              refine mx_in_0 d_Mo_lawLine_131 ?_
              refine mx_putZ d_Mo_lawLine_132 fl_Mo_260 (by assumption) (by first | exact Or.inl rfl | exact Or.inr rfl) ?_
              refine mx_il3 d_Mo_lawLine_135 ?_
              refine mx_if_ne 140 d_Mo_lawLine_136 (by decide) (fun c_136 => absurd (by decide) c_136) (fun c_136 => ?_)
              exact mx_vret d_Mo_lawLine_139 rfl (mx_sR_of rfl (by rw [hq]; exact ml_end_n (q := ((29, p.1, q.1), q.2)) hs hli (by simp [bI, c_119])))
          · skip
            obtain ⟨e, he, hb⟩ := hK7.no c_110
            have hq := gq_line_i h3 ham ((if_pos hk32).trans he)
            exact mx_vret d_Mo_lawLine_113 rfl (mx_sR_of rfl (by rw [hq]; exact hb.ml (by omega)))
        · skip
          refine mx_in_1 d_Mo_lawLine_99 ?_
          refine mx_goto 104 d_Mo_lawLine_100 (by decide) ?_
          refine mx_is3 d_Mo_lawLine_104 ?_
          refine mx_al0 d_Mo_lawLine_105 ?_
          refine mx_getI d_Mo_lawLine_106 fl_Mo_25 (by assumption) ?_
          refine mx_ti (y := (K6 (mo) 12)) (rfl) ?_
          refine mx_ic_m1 d_Mo_lawLine_109 ?_
          refine mx_icmp_eq 114 d_Mo_lawLine_110 (by decide) (fun c_110 => ?_) (fun c_110 => ?_)
          · skip
            obtain ⟨q, he, hs, hv⟩ := hK7.ok c_110 hL
            have hif : gq_if (tK f L) (tV f L) p.2 = .inr q := (if_pos hk32).trans he
            have hne := som_ne he
            have hq := gq_line_y h3 ham hif
            rw [hk29] at hq
            have hli : li_h fc (((29, p.1, q.1), q.2) : gq_L × Nat).1 = true := li_y (Or.inr (fun z => c_96 (hv.trans z)))
            refine mx_al0 d_Mo_lawLine_114 ?_
            refine mx_al0 d_Mo_lawLine_115 ?_
            refine mx_getI d_Mo_lawLine_116 fl_Mo_260 (by assumption) ?_
            refine mx_if_ne 127 d_Mo_lawLine_119 (by decide) (fun c_119 => ?_) (fun c_119 => ?_)
            · skip
              refine mx_in_1 d_Mo_lawLine_127 ?_
              refine mx_goto 132 d_Mo_lawLine_128 (by decide) ?_
              refine mx_putZ d_Mo_lawLine_132 fl_Mo_260 (by assumption) (by first | exact Or.inl rfl | exact Or.inr rfl) ?_
              refine mx_il3 d_Mo_lawLine_135 ?_
              refine mx_if_ne 140 d_Mo_lawLine_136 (by decide) (fun c_136 => ?_) (fun c_136 => absurd c_136 (by decide))
              refine mx_al0 d_Mo_lawLine_140 ?_
              refine mx_al0 d_Mo_lawLine_141 ?_
              refine mx_getI d_Mo_lawLine_142 fl_Mo_263 (by assumption) ?_
              refine mx_if_ne 153 d_Mo_lawLine_145 (by decide) (fun c_145 => ?_) (fun c_145 => ?_)
              · skip
                refine mx_in_1 d_Mo_lawLine_153 ?_
                refine mx_goto 158 d_Mo_lawLine_154 (by decide) ?_
                refine mx_putZ d_Mo_lawLine_158 fl_Mo_263 (by assumption) (by first | exact Or.inl rfl | exact Or.inr rfl) ?_
                refine mx_al0 d_Mo_lawLine_161 ?_
                refine mx_dup d_Mo_lawLine_162 rfl ?_
                refine mx_getI d_Mo_lawLine_163 fl_Mo_266 (by assumption) ?_
                refine mx_il1 d_Mo_lawLine_166 ?_
                refine mx_if_ne 174 d_Mo_lawLine_167 (by decide) (fun c_167 => absurd (by decide) c_167) (fun c_167 => ?_)
                refine mx_il2 d_Mo_lawLine_170 ?_
                refine mx_goto 185 d_Mo_lawLine_171 (by decide) ?_
                refine mx_iadd d_Mo_lawLine_185 ?_
                refine mx_putI d_Mo_lawLine_186 fl_Mo_266 (by assumption) ?_
                exact mx_vret d_Mo_lawLine_189 rfl (mx_sR_of rfl (by rw [hq]; exact ml_end_y (q := ((29, p.1, q.1), q.2)) hs hli (by simp [bI, c_119]) (by simp [mx_up] at c_145; simp [bI, c_145]) (by simp [mx_up, hpv])))
              · skip
                refine mx_il1 d_Mo_lawLine_148 ?_
                refine mx_in_2 d_Mo_lawLine_149 ?_
                refine mx_icN_ne 157 d_Mo_lawLine_150 (by decide) (by omega) (by omega) (fun c_150 => ?_) (fun c_150 => absurd c_150 (by omega))
                refine mx_in_0 d_Mo_lawLine_157 ?_
                refine mx_putZ d_Mo_lawLine_158 fl_Mo_263 (by assumption) (by first | exact Or.inl rfl | exact Or.inr rfl) ?_
                refine mx_al0 d_Mo_lawLine_161 ?_
                refine mx_dup d_Mo_lawLine_162 rfl ?_
                refine mx_getI d_Mo_lawLine_163 fl_Mo_266 (by assumption) ?_
                refine mx_il1 d_Mo_lawLine_166 ?_
                refine mx_if_ne 174 d_Mo_lawLine_167 (by decide) (fun c_167 => absurd (by decide) c_167) (fun c_167 => ?_)
                refine mx_il2 d_Mo_lawLine_170 ?_
                refine mx_goto 185 d_Mo_lawLine_171 (by decide) ?_
                refine mx_iadd d_Mo_lawLine_185 ?_
                refine mx_putI d_Mo_lawLine_186 fl_Mo_266 (by assumption) ?_
                exact mx_vret d_Mo_lawLine_189 rfl (mx_sR_of rfl (by rw [hq]; exact ml_end_y (q := ((29, p.1, q.1), q.2)) hs hli (by simp [bI, c_119]) (by simp [mx_up] at c_145; simp [bI, c_145]) (by simp [mx_up, hpv])))
            · skip
              refine mx_il1 d_Mo_lawLine_122 ?_
              refine mx_in_2 d_Mo_lawLine_123 ?_
              refine mx_icN_ne 131 d_Mo_lawLine_124 (by decide) (by omega) (by omega) (fun c_124 => ?_) (fun c_124 => absurd c_124 (by omega))
              refine mx_in_0 d_Mo_lawLine_131 ?_
              refine mx_putZ d_Mo_lawLine_132 fl_Mo_260 (by assumption) (by first | exact Or.inl rfl | exact Or.inr rfl) ?_
              refine mx_il3 d_Mo_lawLine_135 ?_
              refine mx_if_ne 140 d_Mo_lawLine_136 (by decide) (fun c_136 => ?_) (fun c_136 => absurd c_136 (by decide))
              refine mx_al0 d_Mo_lawLine_140 ?_
              refine mx_al0 d_Mo_lawLine_141 ?_
              refine mx_getI d_Mo_lawLine_142 fl_Mo_263 (by assumption) ?_
              refine mx_if_ne 153 d_Mo_lawLine_145 (by decide) (fun c_145 => ?_) (fun c_145 => ?_)
              · skip
                refine mx_in_1 d_Mo_lawLine_153 ?_
                refine mx_goto 158 d_Mo_lawLine_154 (by decide) ?_
                refine mx_putZ d_Mo_lawLine_158 fl_Mo_263 (by assumption) (by first | exact Or.inl rfl | exact Or.inr rfl) ?_
                refine mx_al0 d_Mo_lawLine_161 ?_
                refine mx_dup d_Mo_lawLine_162 rfl ?_
                refine mx_getI d_Mo_lawLine_163 fl_Mo_266 (by assumption) ?_
                refine mx_il1 d_Mo_lawLine_166 ?_
                refine mx_if_ne 174 d_Mo_lawLine_167 (by decide) (fun c_167 => absurd (by decide) c_167) (fun c_167 => ?_)
                refine mx_il2 d_Mo_lawLine_170 ?_
                refine mx_goto 185 d_Mo_lawLine_171 (by decide) ?_
                refine mx_iadd d_Mo_lawLine_185 ?_
                refine mx_putI d_Mo_lawLine_186 fl_Mo_266 (by assumption) ?_
                exact mx_vret d_Mo_lawLine_189 rfl (mx_sR_of rfl (by rw [hq]; exact ml_end_y (q := ((29, p.1, q.1), q.2)) hs hli (by simp [bI, c_119]) (by simp [mx_up] at c_145; simp [bI, c_145]) (by simp [mx_up, hpv])))
              · skip
                refine mx_il1 d_Mo_lawLine_148 ?_
                refine mx_in_2 d_Mo_lawLine_149 ?_
                refine mx_icN_ne 157 d_Mo_lawLine_150 (by decide) (by omega) (by omega) (fun c_150 => ?_) (fun c_150 => absurd c_150 (by omega))
                refine mx_in_0 d_Mo_lawLine_157 ?_
                refine mx_putZ d_Mo_lawLine_158 fl_Mo_263 (by assumption) (by first | exact Or.inl rfl | exact Or.inr rfl) ?_
                refine mx_al0 d_Mo_lawLine_161 ?_
                refine mx_dup d_Mo_lawLine_162 rfl ?_
                refine mx_getI d_Mo_lawLine_163 fl_Mo_266 (by assumption) ?_
                refine mx_il1 d_Mo_lawLine_166 ?_
                refine mx_if_ne 174 d_Mo_lawLine_167 (by decide) (fun c_167 => absurd (by decide) c_167) (fun c_167 => ?_)
                refine mx_il2 d_Mo_lawLine_170 ?_
                refine mx_goto 185 d_Mo_lawLine_171 (by decide) ?_
                refine mx_iadd d_Mo_lawLine_185 ?_
                refine mx_putI d_Mo_lawLine_186 fl_Mo_266 (by assumption) ?_
                exact mx_vret d_Mo_lawLine_189 rfl (mx_sR_of rfl (by rw [hq]; exact ml_end_y (q := ((29, p.1, q.1), q.2)) hs hli (by simp [bI, c_119]) (by simp [mx_up] at c_145; simp [bI, c_145]) (by simp [mx_up, hpv])))
          · skip
            obtain ⟨e, he, hb⟩ := hK7.no c_110
            have hq := gq_line_i h3 ham ((if_pos hk32).trans he)
            exact mx_vret d_Mo_lawLine_113 rfl (mx_sR_of rfl (by rw [hq]; exact hb.ml (by omega)))
    · skip
      obtain ⟨e, he, hb⟩ := fig_no hK4 c_78
      have hq := gq_line_a h3 (ham.trans he)
      exact mx_vret d_Mo_lawLine_81 rfl (mx_sR_of rfl (by rw [hq]; exact hb.ml (by omega)))
end AW64
