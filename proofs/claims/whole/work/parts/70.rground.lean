/-! THE REFERENCE READS THE GROUND: lines -/
section BC70
variable {l : Launch} {E : mx_Env} {t : Nat} {S : mx_S} {I K K2 K3 I0 : mx_I} {P : mx_P} {J : mx_G} {mo L a e c n i k j : Nat} {f : Nat → Nat} {v w : Int32} {m : Nat → Int32} {r : Nat ⊕ Nat} {s : gg_S}
/-- nothing is wrong and the token c comes next, or it is wrong at a token -/
def mr (I K : mx_I) (mo : Nat) (f : Nat → Nat) (L : Nat) (r : Nat ⊕ Nat) : Prop := match r with
  | .inl e => mc_bad I K mo f L e 500
  | .inr c => mc_s I K mo f L c 0
def mr_nx (A : Nat → Nat ⊕ (Nat × Nat)) (r : Nat ⊕ Nat) : Nat ⊕ Nat := match r with
  | .inl e => .inl e
  | .inr c => gq_nx (A c)
def mr_av (f : Nat → Nat) (L kw : Nat) (r : Nat ⊕ Nat) : Nat := match r with
  | .inl _ => 0
  | .inr c => if tK f L c = kw then fg_v f L (tq_b f L (c + 1)) else 0
theorem mr_av_lt {kw : Nat} : mr_av f L kw r < 10000 := by
  cases r with
  | inl e => show 0 < 10000; omega
  | inr c => show (if _ then _ else _) < 10000; split; exact fg_lt; omega
theorem mr_tx (h : mr I K mo f L r) (hx : mt_tx I mo f L) : mt_tx K mo f L := by
  cases r with
  | inl e => exact h.1.tx hx
  | inr c => exact h.1.tx hx
theorem mr_no (h : mr I K mo f L r) (hf : ¬ K mo 12 = -1) : ∃ e, r = .inl e ∧ mc_bad I K mo f L e 500 := by
  cases r with
  | inl e => exact ⟨e, rfl, h⟩
  | inr c => exact absurd h.2.1 hf
theorem mr_ok (h : mr I K mo f L r) (hf : K mo 12 = -1) (hL : L ≤ 400) : ∃ c, r = .inr c ∧ mc_s I K mo f L c 0 := by
  cases r with
  | inl e => exact absurd hf (h.f1 hL)
  | inr c => exact ⟨c, rfl, h⟩
theorem mr_off (h : mr I K mo f L r) : mc_off I K mo := by
  cases r with
  | inl e => exact h.1
  | inr c => exact h.1
theorem mt_mr (hs : mc_s I0 I mo f L c 0) (h : mt_out I K mo f L r) : mr I0 K mo f L r := by
  obtain ⟨h1, h2⟩ := h
  cases r with
  | inl e => exact ⟨hs.1.tr h1.mc, h2.1, h2.2⟩
  | inr q => exact ⟨hs.1.tr h1.mc, h2.1, h2.2, (h1.2 13 (by omega) (by omega)).trans hs.2.2.2⟩
theorem mx_ri_sR {R : mx_I → Prop} (h : R K) (r : mx_R) (X : mx_H) (hh : mx_ri v (t, S, K, P, J) r X) : mx_sR (some (.int v)) t S P J R r X := ⟨hh.1, K, hh.2, h⟩
theorem aft_av {kw lo hb : Nat} {p : Nat × Nat} (h : gq_aft (tK f L) (tV f L) kw lo hb c = .inr p) (hc : c < tq_n f L) : mr_av f L kw (.inr c) = p.1 := by
  unfold gq_aft at h
  split at h
  · rename_i hk
    have e := fg_num h hc
    show (if _ then _ else _) = _
    rw [if_pos hk, e]
  · cases h
theorem c_Mo_wrongA (hM : mo_ok S P mo) (hs : mc_s I0 I mo f L c 0) (hL : L ≤ 400) : mx_C l E M_Mo_wrong 0 0 0 [.ref (mo), .int (nI (tq_b f L e))] (t, S, I, P, J) (mx_sR none t S P J (fun K => mr I0 K mo f L (.inl e))) := by
  obtain ⟨a, h1, h2, -⟩ := hs.cu
  exact mx_C_mono (c_Mo_wrong0 hM hs.f0) (mx_rv_sR ⟨hs.1.uu (by omega), mu_e, a, by rw [← h1]; simp [mx_up], by omega⟩)
theorem c_Mo_afterX5 (hM : mo_ok S P mo) (hf : I mo 12 = nI e) (he : e < 1000) {lo hi : Int32}  : mx_C l E M_Mo_after 5 0 0 [.ref (mo), .ref (a), .int (lo), .int (hi)] (t, S, I, P, J) (mx_ri (nI 0) (t, S, I, P, J)) := by
  obtain ⟨hM0, hMp1, hMp2, hMp4, hMp5, hMp7, hMp14, hMp21, hMp22, hMp23, hMp24, hMp25, hMp26, hMp27, hMs1, hMs2, hMs3, hMs4, hMs5, hMs6, hMs7, hMs8, hMs9, hMs10, hMs11, hMs12, hMs13⟩ := id hM
  refine mx_C_of (ls0 := [some (.ref (mo)), some (.ref (a)), some (.int (lo)), some (.int (hi))]) (by decide +kernel) rfl rfl (Nat.le_of_ble_eq_true rfl) rfl ?_
  refine mx_al0 d_Mo_after_0 ?_
  refine mx_getI d_Mo_after_1 fl_Mo_25 (by assumption) ?_
  refine mx_ti (y := nI (e)) (hf) ?_
  refine mx_ic_m1 d_Mo_after_4 ?_
  refine mx_icmp_ne 24 d_Mo_after_5 (by decide) (fun c_5 => ?_) (fun c_5 => absurd c_5 (nI_m1b (by omega)))
  refine mx_al0 d_Mo_after_24 ?_
  refine mx_il2 d_Mo_after_25 ?_
  refine mx_il3 d_Mo_after_26 ?_
  refine mx_cV2i d_Mo_after_27 (c_Mo_figuresX hM hf he) ok_Mo_figures ml_Mo_121 (by assumption) ⟨rfl, rfl⟩ (by decide) (Nat.le_of_ble_eq_true rfl) ?_
  exact mx_iret d_Mo_after_30 rfl (mx_ri_of rfl)
theorem c_Mo_afterR (hM : mo_ok S P mo) (hx : mt_tx I mo f L) (h : mr I0 I mo f L r) {q : List Nat × Nat} (hq : q ∈ tq_WL) (hi9 : i < 69) (hw : sx_w i q.1) {lo hb : Nat} {hi : Int32} (hlo : lo < 10000) (hhi : ∀ v, v < 10000 → (nI v ≤ hi ↔ v < hb)) : mx_C l E M_Mo_after 5 0 0 [.ref (mo), .ref (mx_aK E i), .int (nI (lo)), .int (hi)] (t, S, I, P, J) (mx_sR (some (.int (nI (mr_av f L q.2 r)))) t S P J (fun K => mr I0 K mo f L (mr_nx (gq_aft (tK f L) (tV f L) q.2 lo hb) r))) := by
  have hL := hx.2.1
  cases r with
  | inl e => exact mx_C_mono (c_Mo_afterX5 hM h.2.1 (by have := tq_bL f L e; omega)) (mx_ri_sR h)
  | inr c => exact mx_C_mono (c_Mo_after0 hM hx h.cu h.f0 hq hi9 hw hlo hhi) (mx_sR_mono (fun K hK => mt_mr h hK))
theorem c_Mo_lettersR (hM : mo_ok S P mo) (hx : mt_tx I mo f L) (h : mc_s I0 I mo f L c 0) : mx_C l E M_Mo_letters 3 0 0 [.ref (mo)] (t, S, I, P, J) (mx_sR (some (.int (nI (mq f (tq_b f L c) (tq_lz f L (tq_b f L c) - tq_b f L c))))) t S P J (fun K => mr I0 K mo f L (gq_nx (gq_let (tK f L) (tV f L) c)))) := mx_C_mono (c_Mo_letters0 hM hx h.cu h.f0) (mx_sR_mono (fun K hK => mt_mr h hK))
theorem c_Mo_figuresR (hM : mo_ok S P mo) (hx : mt_tx I mo f L) (h : mc_s I0 I mo f L c 0) {lo hb : Nat} {hi : Int32} (hlo : lo < 10000) (hhi : ∀ v, v < 10000 → (nI v ≤ hi ↔ v < hb)) : mx_C l E M_Mo_figures 3 0 0 [.ref (mo), .int (nI (lo)), .int (hi)] (t, S, I, P, J) (mx_sR (some (.int (nI (fg_v f L (tq_b f L c))))) t S P J (fun K => mr I0 K mo f L (gq_nx (gq_num (tK f L) (tV f L) lo hb c)))) := mx_C_mono (c_Mo_figures0 hM hx h.cu h.f0 hlo hhi) (mx_sR_mono (fun K hK => mt_mr h hK))
theorem let_mq {p : Nat × Nat} (h : gq_let (tK f L) (tV f L) c = .inr p) : mq f (tq_b f L c) (tq_lz f L (tq_b f L c) - tq_b f L c) = p.1 := by
  by_cases z : tq_lz f L (tq_b f L c) - tq_b f L c = 0 ∨ (tq_ms f (tq_b f L c) (tq_lz f L (tq_b f L c) - tq_b f L c)).isSome = false
  · rw [lt_bad z] at h; cases h
  · have z1 : ¬ tq_lz f L (tq_b f L c) - tq_b f L c = 0 := fun q => z (Or.inl q)
    have z2 : (tq_ms f (tq_b f L c) (tq_lz f L (tq_b f L c) - tq_b f L c)).isSome = true := by
      cases q : (tq_ms f (tq_b f L c) (tq_lz f L (tq_b f L c) - tq_b f L c)).isSome with
      | true => rfl
      | false => exact absurd (Or.inr q) z
    rw [(lt_good z1 z2).1] at h
    cases h; rfl
/-- the hours as the reference gathers them -/
def gb (a : Nat) : Nat → Int32
  | 0 => nI 0
  | k + 1 => gb a k ||| (nI 1 <<< (nI (a + k) &&& 31))
theorem gb_bits : ∀ a, a < 8 → ∀ b, b < 8 → a ≤ b → gb a (b + 1 - a) = gg_bits a b := by decide +kernel
def hr_1 (f : Nat → Nat) (L : Nat) (r : Nat ⊕ Nat) : Nat ⊕ Nat := mr_nx (gq_aft (tK f L) (tV f L) 20 0 8) r
def hr_n (f : Nat → Nat) (L : Nat) (r : Nat ⊕ Nat) : Nat ⊕ Nat := mr_nx (gq_aft (tK f L) (tV f L) 21 (mr_av f L 20 r) 8) (hr_1 f L r)
def hr_v (f : Nat → Nat) (L : Nat) (r : Nat ⊕ Nat) : Int32 := gb (mr_av f L 20 r) (mr_av f L 21 (hr_1 f L r) + 1 - mr_av f L 20 r)
theorem hr_bad : hr_n f L (.inl e) = .inl e := rfl
theorem hr_inl (hc : c ≤ tq_n f L) (h : hr_n f L (.inr c) = .inl e) : gg_hrs (tK f L) (tV f L) c = .inl e := by
  have h : mr_nx (gq_aft (tK f L) (tV f L) 21 (mr_av f L 20 (.inr c)) 8) (gq_nx (gq_aft (tK f L) (tV f L) 20 0 8 c)) = .inl e := h
  cases h1 : gq_aft (tK f L) (tV f L) 20 0 8 c with
  | inl e1 => rw [h1] at h; have h : (.inl e1 : Nat ⊕ Nat) = .inl e := h; cases h; exact gg_hrs_1 h1
  | inr p =>
    have g1 := gq_aft_go (by omega) p h1
    have hlt : c < tq_n f L := tK_lt g1.1 (by omega)
    rw [h1, aft_av h1 hlt] at h
    have h : gq_nx (gq_aft (tK f L) (tV f L) 21 p.1 8 p.2) = .inl e := h
    cases h2 : gq_aft (tK f L) (tV f L) 21 p.1 8 p.2 with
    | inl e2 => rw [h2] at h; have h : (.inl e2 : Nat ⊕ Nat) = .inl e := h; cases h; exact gg_hrs_2 h1 h2
    | inr q => rw [h2] at h; have h : (.inr q.2 : Nat ⊕ Nat) = .inl e := h; cases h
theorem hr_inr {c2 : Nat} (hc : c ≤ tq_n f L) (h : hr_n f L (.inr c) = .inr c2) : ∃ q, gg_hrs (tK f L) (tV f L) c = .inr q ∧ q.2 = c2 ∧ hr_v f L (.inr c) = gg_bits q.1.1 q.1.2 := by
  have h : mr_nx (gq_aft (tK f L) (tV f L) 21 (mr_av f L 20 (.inr c)) 8) (gq_nx (gq_aft (tK f L) (tV f L) 20 0 8 c)) = .inr c2 := h
  cases h1 : gq_aft (tK f L) (tV f L) 20 0 8 c with
  | inl e1 => rw [h1] at h; have h : (.inl e1 : Nat ⊕ Nat) = .inr c2 := h; cases h
  | inr p =>
    have g1 := gq_aft_go (by omega) p h1
    have hlt : c < tq_n f L := tK_lt g1.1 (by omega)
    rw [h1, aft_av h1 hlt] at h
    have h : gq_nx (gq_aft (tK f L) (tV f L) 21 p.1 8 p.2) = .inr c2 := h
    cases h2 : gq_aft (tK f L) (tV f L) 21 p.1 8 p.2 with
    | inl e2 => rw [h2] at h; have h : (.inl e2 : Nat ⊕ Nat) = .inr c2 := h; cases h
    | inr q =>
      rw [h2] at h
      have h : (.inr q.2 : Nat ⊕ Nat) = .inr c2 := h
      cases h
      have g2 := gq_aft_go (by omega) q h2
      have hlt2 : p.2 < tq_n f L := tK_lt g2.1 (by omega)
      have h3 := gg_hrs_3 h1 h2
      refine ⟨_, h3, rfl, ?_⟩
      have e1 : hr_1 f L (.inr c) = .inr p.2 := by show gq_nx (gq_aft (tK f L) (tV f L) 20 0 8 c) = _; rw [h1]; rfl
      unfold hr_v
      rw [e1, aft_av h1 hlt, aft_av h2 hlt2]
      exact gb_bits _ g1.2.2.1 _ g2.2.2.1 g2.2.2.2
theorem c_Mo_hoursR (hM : mo_ok S P mo) (hx : mt_tx I0 mo f L) (h0 : mr I0 I mo f L r)  : mx_C l E M_Mo_hours 6 0 0 [.ref (mo)] (t, S, I, P, J) (mx_sR (some (.int (hr_v f L r))) t S P J (fun K => mr I0 K mo f L (hr_n f L r))) := by
  obtain ⟨hM0, hMp1, hMp2, hMp4, hMp5, hMp7, hMp14, hMp21, hMp22, hMp23, hMp24, hMp25, hMp26, hMp27, hMs1, hMs2, hMs3, hMs4, hMs5, hMs6, hMs7, hMs8, hMs9, hMs10, hMs11, hMs12, hMs13⟩ := id hM
  have hv1 := mr_av_lt (f := f) (L := L) (kw := 20) (r := r)
  have hv2 := mr_av_lt (f := f) (L := L) (kw := 21) (r := hr_1 f L r)
  refine mx_C_of (ls0 := [some (.ref (mo)), none, none, none, none]) (by decide +kernel) rfl rfl (Nat.le_of_ble_eq_true rfl) rfl ?_
  refine mx_al0 d_Mo_hours_0 ?_
  refine mx_ldcS (i := 60) d_Mo_hours_1 rfl rfl ?_
  refine mx_in_0 d_Mo_hours_3 ?_
  refine mx_bip 7 d_Mo_hours_4 (by decide) ?_
  refine mx_cV3iR d_Mo_hours_6 (c_Mo_afterR hM (mr_tx h0 hx) h0 (q := ([102, 114, 111, 109], 20)) (by decide +kernel) (by omega) (by decide +kernel) (lo := 0) (hb := 8) (by omega) hlt8) ok_Mo_after ml_Mo_129 (by assumption) ⟨rfl, rfl⟩ (by decide) (Nat.le_of_ble_eq_true rfl) (fun K1 hK1 => ?_)
  refine mx_is1 d_Mo_hours_9 ?_
  refine mx_al0 d_Mo_hours_10 ?_
  refine mx_ldcS (i := 61) d_Mo_hours_11 rfl rfl ?_
  refine mx_il1 d_Mo_hours_13 ?_
  refine mx_bip 7 d_Mo_hours_14 (by decide) ?_
  refine mx_cV3iR d_Mo_hours_16 (c_Mo_afterR hM (mr_tx hK1 hx) hK1 (q := ([116, 111], 21)) (by decide +kernel) (by omega) (by decide +kernel) (lo := mr_av f L 20 r) (hb := 8) (by omega) hlt8) ok_Mo_after ml_Mo_129 (by assumption) ⟨rfl, rfl⟩ (by decide) (Nat.le_of_ble_eq_true rfl) (fun K2 hK2 => ?_)
  refine mx_is2 d_Mo_hours_19 ?_
  refine mx_in_0 d_Mo_hours_20 ?_
  refine mx_is3 d_Mo_hours_21 ?_
  refine mx_il1 d_Mo_hours_22 ?_
  refine mx_is4 d_Mo_hours_23 ?_
  refine mx_lsc (congrArg (fun z9 => ([some (.ref (mo)), some (.int (nI (mr_av f L 20 (r)))), some (.int (nI (mr_av f L 21 (hr_1 f L r)))), some (.int (z9)), some (.int (nI (mr_av f L 20 (r))))] : List (Option Value))) ((show nI 0 = gb (mr_av f L 20 r) 0 from rfl))) ?_
  refine mx_lsc (congrArg (fun z9 => ([some (.ref (mo)), some (.int (nI (mr_av f L 20 (r)))), some (.int (nI (mr_av f L 21 (hr_1 f L r)))), some (.int ((gb (mr_av f L 20 r) 0))), some (.int (z9))] : List (Option Value))) ((show nI (mr_av f L 20 r) = nI (mr_av f L 20 r + 0) from rfl))) ?_
  refine mx_loop (N := mr_av f L 21 (hr_1 f L r) + 1 - mr_av f L 20 r) (ls := fun k9 => [some (.ref (mo)), some (.int (nI (mr_av f L 20 (r)))), some (.int (nI (mr_av f L 21 (hr_1 f L r)))), some (.int ((gb (mr_av f L 20 r) k9))), some (.int (nI (mr_av f L 20 r + k9)))]) (X := fun k9 => (t, S, K2, P, J)) (fun k9 hk9 ih => ?_) ?_
  · try dsimp only
    refine mx_il4 d_Mo_hours_25 ?_
    refine mx_il2 d_Mo_hours_27 ?_
    refine mx_icN_gt 44 d_Mo_hours_28 (by decide) (by omega) (by omega) (fun c_28 => absurd c_28 (by omega)) (fun c_28 => ?_)
    refine mx_il3 d_Mo_hours_31 ?_
    refine mx_in_1 d_Mo_hours_32 ?_
    refine mx_il4 d_Mo_hours_33 ?_
    refine mx_ishl d_Mo_hours_35 ?_
    refine mx_ior d_Mo_hours_36 ?_
    refine mx_is3 d_Mo_hours_37 ?_
    refine mx_iN4 d_Mo_hours_38 ?_
    refine mx_goto 25 d_Mo_hours_41 (by decide) ?_
    have e4 : nI (mr_av f L 20 r + k9 + 1) = nI (mr_av f L 20 r + (k9 + 1)) := by rfl
    refine mx_lsc (congrArg (fun z9 => ([some (.ref (mo)), some (.int (nI (mr_av f L 20 (r)))), some (.int (nI (mr_av f L 21 (hr_1 f L r)))), some (.int (((gb (mr_av f L 20 r) k9) ||| (nI (1) <<< (nI (mr_av f L 20 r + k9) &&& 31))))), some (.int (z9))] : List (Option Value))) e4) ?_
    have e3 : ((gb (mr_av f L 20 r) k9) ||| (nI (1) <<< (nI (mr_av f L 20 r + k9) &&& 31))) = (gb (mr_av f L 20 r) (k9 + 1)) := by rfl
    refine mx_lsc (congrArg (fun z9 => ([some (.ref (mo)), some (.int (nI (mr_av f L 20 (r)))), some (.int (nI (mr_av f L 21 (hr_1 f L r)))), some (.int (z9)), some (.int (nI (mr_av f L 20 r + (k9 + 1))))] : List (Option Value))) e3) ?_
    exact ih
  · try dsimp only
    refine mx_il4 d_Mo_hours_25 ?_
    refine mx_il2 d_Mo_hours_27 ?_
    refine mx_icN_gt 44 d_Mo_hours_28 (by decide) (by omega) (by omega) (fun c_28 => ?_) (fun c_28 => absurd c_28 (by omega))
    refine mx_il3 d_Mo_hours_44 ?_
    exact mx_iret d_Mo_hours_45 rfl (mx_sR_i rfl hK2)
end BC70
