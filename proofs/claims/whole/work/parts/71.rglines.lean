/-! THE REFERENCE READS THE GROUND: lines -/
section BD71
variable {l : Launch} {E : mx_Env} {t : Nat} {S : mx_S} {I K K2 K3 I0 : mx_I} {P : mx_P} {J : mx_G} {mo L a e c n i k j : Nat} {f : Nat → Nat} {v w : Int32} {m : Nat → Int32} {r : Nat ⊕ Nat} {s : gg_S}
def mg_off (I K : mx_I) (mo : Nat) : Prop := (∀ c, c ≠ mo → c ≠ mo + 1 → K c = I c) ∧ (∀ k, k ≠ 11 → k ≠ 12 → k ≠ 13 → K mo k = I mo k) ∧ ∀ k, (k < 3 ∨ k = 9 ∨ k = 10 ∨ 195 ≤ k) → K (mo + 1) k = I (mo + 1) k
theorem mg_off.rf : mg_off I I mo := ⟨fun _ _ _ => rfl, fun _ _ _ _ => rfl, fun _ _ => rfl⟩
theorem mg_off.tr (h : mg_off I K mo) (h2 : mg_off K K2 mo) : mg_off I K2 mo := ⟨fun c hc hd => (h2.1 c hc hd).trans (h.1 c hc hd), fun k a b c => (h2.2.1 k a b c).trans (h.2.1 k a b c), fun k hk => (h2.2.2 k hk).trans (h.2.2 k hk)⟩
theorem mc_off.mg (h : mc_off I K mo) : mg_off I K mo := ⟨fun c hc _ => h.1 c hc, h.2, fun k _ => by rw [h.1 (mo + 1) (by omega)]⟩
theorem mg_off.row (h : mg_off I K mo) (hj : 3 ≤ j ∧ j < 195 ∧ j ≠ 9 ∧ j ≠ 10 := by omega) : mg_off I (mx_up K (mo + 1) j v) mo := ⟨fun c hc hd => by rw [mx_up_ne hd]; exact h.1 c hc hd, fun k a b c => by rw [mx_up_ne (by omega)]; exact h.2.1 k a b c, fun k hk => by rw [← h.2.2 k hk]; simp [mx_up, show ¬ k = j by omega]⟩
theorem mg_off.tx (h : mg_off I K mo) (hx : mt_tx I mo f L) (hb : I mo 9 = -1) : mt_tx K mo f L := by
  obtain ⟨h1, h2, h3, h4⟩ := hx
  refine ⟨by rw [h.2.1 10 (by omega) (by omega) (by omega)]; exact h1, h2, h3, Or.inl ⟨by rw [h.2.1 9 (by omega) (by omega) (by omega)]; exact hb, ?_⟩⟩
  rcases h4 with ⟨-, h5⟩ | ⟨h5, -⟩
  · rw [h.1 (mo + 5) (by omega) (by omega)]; exact h5
  · rw [hb] at h5; exact absurd h5 (by decide)
/-- hosts who are not there hold no gladness -/
def gg_z (s : gg_S) : Prop := ∀ h, s.1 ≤ h → h < 8 → s.2.2 (11 + 4 * h + 2) = nI 0 ∧ s.2.2 (11 + 4 * h + 3) = nI 0
def gg_in (s : gg_S) : Prop := s.2.2 3 = nI s.1 ∧ s.2.2 4 = nI s.2.1 ∧ s.1 ≤ 8 ∧ s.2.1 ≤ 8 ∧ gg_z s
def mg_s (I K : mx_I) (mo : Nat) (f : Nat → Nat) (L c : Nat) (s : gg_S) : Prop := mg_off I K mo ∧ K mo 12 = -1 ∧ mt_cur K mo f L c ∧ K mo 13 = nI 0 ∧ K (mo + 1) = s.2.2 ∧ gg_in s
def mg_bad (I K : mx_I) (mo : Nat) (f : Nat → Nat) (L e : Nat) : Prop := mg_off I K mo ∧ K mo 12 = nI (tq_b f L e) ∧ ∃ a, K mo 11 = nI a ∧ a ≤ 700
def mg_out (I K : mx_I) (mo : Nat) (f : Nat → Nat) (L : Nat) (r : Nat ⊕ (gg_S × Nat)) : Prop := match r with
  | .inl e => mg_bad I K mo f L e
  | .inr q => mg_s I K mo f L q.2 q.1
theorem mg_s.mc (h : mg_s I K mo f L c s) : mc_s K K mo f L c 0 := ⟨mc_off.rf, h.2.1, h.2.2.1, h.2.2.2.1⟩
theorem mg_s.row (h : mg_s I K mo f L c s) : K (mo + 1) = s.2.2 := h.2.2.2.2.1
theorem mg_s.gin (h : mg_s I K mo f L c s) : gg_in s := h.2.2.2.2.2
theorem mg_s.mct {c2 : Nat} (h : mg_s I K mo f L c s) (h2 : mc_s K K2 mo f L c2 0) : mg_s I K2 mo f L c2 s := ⟨h.1.tr h2.1.mg, h2.2.1, h2.2.2.1, h2.2.2.2, (h2.1.1 _ (by omega)).trans h.row, h.gin⟩
theorem mg_s.mcb {u : Nat} (h : mg_s I K mo f L c s) (h2 : mc_bad K K2 mo f L e u) (hu : u ≤ 700) : mg_bad I K2 mo f L e := by
  obtain ⟨h1, h3, a, h4, h5⟩ := h2
  exact ⟨h.1.tr h1.mg, h3, a, h4, by omega⟩
theorem mg_s.tr {c2 : Nat} {s2 : gg_S} (h : mg_s I K mo f L c s) (h2 : mg_s K K2 mo f L c2 s2) : mg_s I K2 mo f L c2 s2 := ⟨h.1.tr h2.1, h2.2⟩
theorem mg_s.trb (h : mg_s I K mo f L c s) (h2 : mg_bad K K2 mo f L e) : mg_bad I K2 mo f L e := ⟨h.1.tr h2.1, h2.2⟩
theorem mg_s.self (h : mg_s I K mo f L c s) : mg_s K K mo f L c s := ⟨mg_off.rf, h.2⟩
theorem mg_out.tr {r : Nat ⊕ (gg_S × Nat)} (h : mg_s I K mo f L c s) (h2 : mg_out K K2 mo f L r) : mg_out I K2 mo f L r := by
  cases r with
  | inl e => exact h.trb h2
  | inr q => exact h.tr h2
/-- a row that is written anew -/
theorem mg_s.wr {s2 : gg_S} (h : mg_s I K mo f L c s) (ho : mg_off K K2 mo) (he : K2 mo = K mo) (hr : K2 (mo + 1) = s2.2.2) (hi : gg_in s2) : mg_s I K2 mo f L c s2 := by
  obtain ⟨h1, h2, h3, h4, -, -⟩ := h
  exact ⟨h1.tr ho, by rw [he]; exact h2, by unfold mt_cur; rw [he]; exact h3, by rw [he]; exact h4, hr, hi⟩
theorem mu_row : mx_up I a j v a = updI (I a) j v := by
  funext q
  unfold mx_up updI
  by_cases h : q = j
  · rw [if_pos ⟨rfl, h⟩, if_pos h]
  · rw [if_neg (fun z => h z.2), if_neg h]
theorem updI_i (h : m j = v) : updI m j v = m := by
  funext q
  unfold updI
  split
  · rename_i z; rw [z]; exact h.symm
  · rfl
theorem updI_u : updI (updI m j v) j w = updI m j w := by
  funext q
  unfold updI
  split <;> rfl
theorem mu_n {x : Int32} (h : j ≠ k) : mx_up I a k x a j = I a j := by simp [mx_up, h]
theorem mg_host {p a b : Nat} (hs : mg_s I K mo f L c s) (h8 : s.1 < 8) : mg_s I (mx_up (mx_up (mx_up (mx_up (mx_up K (mo + 1) (11 + 4 * s.1 + 0) (nI p)) (mo + 1) (11 + 4 * s.1 + 1) (gg_bits a b)) (mo + 1) (11 + 4 * s.1 + 2) (nI 0)) (mo + 1) (11 + 4 * s.1 + 3) (nI 0)) (mo + 1) 3 (nI (s.1 + 1))) mo f L c (gg_hostm s p a b) := by
  obtain ⟨g1, g2, g3, g4, g5⟩ := hs.gin
  refine hs.wr mg_off.rf.row.row.row.row.row (by rw [mx_up_ne (by omega), mx_up_ne (by omega), mx_up_ne (by omega), mx_up_ne (by omega), mx_up_ne (by omega)]) ?_ ⟨?_, ?_, by show s.1 + 1 ≤ 8; omega, g4, fun h h1 h2 => ?_⟩
  · rw [mu_row, mu_row, mu_row, mu_row, mu_row, hs.row]
    have z := g5 s.1 (Nat.le_refl _) h8
    rw [updI_i (j := 11 + 4 * s.1 + 2) (by rw [updI_n (by omega), updI_n (by omega)]; exact z.1), updI_i (j := 11 + 4 * s.1 + 3) (by rw [updI_n (by omega), updI_n (by omega)]; exact z.2)]
    rfl
  · unfold gg_hostm; dsimp only
    exact updI_e _ _ _
  · unfold gg_hostm; dsimp only
    rw [updI_n (by omega), updI_n (by omega), updI_n (by omega)]; exact g2
  · have h1 : s.1 + 1 ≤ h := h1
    have z := g5 h (by omega) h2
    constructor
    · unfold gg_hostm; dsimp only
      rw [updI_n (by omega), updI_n (by omega), updI_n (by omega)]; exact z.1
    · unfold gg_hostm; dsimp only
      rw [updI_n (by omega), updI_n (by omega), updI_n (by omega)]; exact z.2
theorem mg_guest {p a b k : Nat} (hs : mg_s I K mo f L c s) (h8 : s.2.1 < 8) : mg_s I (mx_up (mx_up (mx_up (mx_up K (mo + 1) (43 + 3 * s.2.1) (nI p)) (mo + 1) (43 + 3 * s.2.1 + 1) (gg_bits a b)) (mo + 1) (43 + 3 * s.2.1 + 2) (nI k)) (mo + 1) 4 (nI (s.2.1 + 1))) mo f L c (gg_guestm s p a b k) := by
  obtain ⟨g1, g2, g3, g4, g5⟩ := hs.gin
  refine hs.wr mg_off.rf.row.row.row.row (by rw [mx_up_ne (by omega), mx_up_ne (by omega), mx_up_ne (by omega), mx_up_ne (by omega)]) ?_ ⟨?_, ?_, g3, by show s.2.1 + 1 ≤ 8; omega, fun h h1 h2 => ?_⟩
  · rw [mu_row, mu_row, mu_row, mu_row, hs.row]
    rfl
  · unfold gg_guestm; dsimp only
    rw [updI_n (by omega), updI_n (by omega), updI_n (by omega), updI_n (by omega)]; exact g1
  · show updI (updI (updI (updI s.2.2 (43 + 3 * s.2.1) (nI p)) (43 + 3 * s.2.1 + 1) (gg_bits a b)) (43 + 3 * s.2.1 + 2) (nI k)) 4 (nI (s.2.1 + 1)) 4 = nI (s.2.1 + 1)
    exact updI_e _ _ _
  · have z := g5 h h1 h2
    constructor
    · unfold gg_guestm; dsimp only
      rw [updI_n (by omega), updI_n (by omega), updI_n (by omega), updI_n (by omega)]; exact z.1
    · unfold gg_guestm; dsimp only
      rw [updI_n (by omega), updI_n (by omega), updI_n (by omega), updI_n (by omega)]; exact z.2
theorem mg_fld {k : Nat} (hs : mg_s I K mo f L c s) (hk : k = 5 ∨ k = 6 ∨ k = 7 ∨ k = 8) : mg_s I (mx_up K (mo + 1) k v) mo f L c (s.1, s.2.1, updI s.2.2 k v) := by
  obtain ⟨g1, g2, g3, g4, g5⟩ := hs.gin
  refine hs.wr mg_off.rf.row (mx_up_ne (by omega)) ?_ ⟨?_, ?_, g3, g4, fun h h1 h2 => ?_⟩
  · rw [mu_row, hs.row]
  · dsimp only
    rw [updI_n (by omega)]; exact g1
  · dsimp only
    rw [updI_n (by omega)]; exact g2
  · have z := g5 h h1 h2
    constructor
    · dsimp only
      rw [updI_n (by omega)]; exact z.1
    · dsimp only
      rw [updI_n (by omega)]; exact z.2
theorem mg_s.rk {b : Nat} (hs : mg_s I K mo f L c (s.1, s.2.1, gg_set s.2.2 f a b k)) (hb : 67 ≤ b) (hbk : b + k < 195) : mg_s I (mx_up K (mo + 1) (b + k) (nI (f (a + k) - 48))) mo f L c (s.1, s.2.1, gg_set s.2.2 f a b (k + 1)) := by
  obtain ⟨g1, g2, g3, g4, g5⟩ := hs.gin
  rw [gg_set_s]
  refine hs.wr mg_off.rf.row (mx_up_ne (by omega)) ?_ ⟨?_, ?_, g3, g4, fun h h1 h2 => ?_⟩
  · rw [mu_row, hs.row]
  · dsimp only
    rw [updI_n (by omega)]; exact g1
  · dsimp only
    rw [updI_n (by omega)]; exact g2
  · have z := g5 h h1 h2
    constructor
    · dsimp only
      rw [updI_n (by omega)]; exact z.1
    · dsimp only
      rw [updI_n (by omega)]; exact z.2
theorem nx_inl {α β : Type} {r : α ⊕ (β × Nat)} {e : α} (h : gq_nx r = .inl e) : r = .inl e := by
  cases r with
  | inl x => cases h; rfl
  | inr q => cases h
theorem nx_inr {α β : Type} {r : α ⊕ (β × Nat)} {c : Nat} (h : gq_nx r = .inr c) : ∃ q, r = .inr q ∧ q.2 = c := by
  cases r with
  | inl x => cases h
  | inr q => cases h; exact ⟨q, rfl, rfl⟩
theorem aft_no {kw lo hb : Nat} (hc : c ≤ tq_n f L) (h : hr_n f L (mr_nx (gq_aft (tK f L) (tV f L) kw lo hb) (.inr c)) = .inl e) (hlo : lo < 1000) : gq_aft (tK f L) (tV f L) kw lo hb c = .inl e ∨ ∃ p, gq_aft (tK f L) (tV f L) kw lo hb c = .inr p ∧ gg_hrs (tK f L) (tV f L) p.2 = .inl e := by
  have h : hr_n f L (gq_nx (gq_aft (tK f L) (tV f L) kw lo hb c)) = .inl e := h
  cases h1 : gq_aft (tK f L) (tV f L) kw lo hb c with
  | inl e1 => rw [h1] at h; have h : (.inl e1 : Nat ⊕ Nat) = .inl e := h; cases h; exact Or.inl rfl
  | inr p =>
    rw [h1] at h
    have g1 := gq_aft_go hlo p h1
    have hp : p.2 ≤ tq_n f L := by
      unfold gq_aft at h1
      rw [if_pos g1.1] at h1
      have g2 := (gq_num_go (tK0 rfl)).1 p h1
      have : c + 1 < tq_n f L := tK_lt (k := 2) (by
        unfold gq_num at h1
        by_cases z : tK f L (c + 1) = 2
        · exact z
        · rw [if_neg z] at h1; cases h1) (by omega)
      omega
    exact Or.inr ⟨p, rfl, hr_inl hp h⟩
theorem aft_ok {kw lo hb c2 : Nat} (hkw : 0 < kw) (hc : c ≤ tq_n f L) (h : hr_n f L (mr_nx (gq_aft (tK f L) (tV f L) kw lo hb) (.inr c)) = .inr c2) (hlo : lo < 1000) : ∃ p q, gq_aft (tK f L) (tV f L) kw lo hb c = .inr p ∧ gg_hrs (tK f L) (tV f L) p.2 = .inr q ∧ q.2 = c2 ∧ mr_av f L kw (.inr c) = p.1 ∧ hr_v f L (mr_nx (gq_aft (tK f L) (tV f L) kw lo hb) (.inr c)) = gg_bits q.1.1 q.1.2 := by
  have h : hr_n f L (gq_nx (gq_aft (tK f L) (tV f L) kw lo hb c)) = .inr c2 := h
  cases h1 : gq_aft (tK f L) (tV f L) kw lo hb c with
  | inl e1 => rw [h1] at h; have h : (.inl e1 : Nat ⊕ Nat) = .inr c2 := h; cases h
  | inr p =>
    rw [h1] at h
    have g1 := gq_aft_go hlo p h1
    have hp : p.2 ≤ tq_n f L := by
      have h1 := h1
      unfold gq_aft at h1
      rw [if_pos g1.1] at h1
      have : c + 1 < tq_n f L := tK_lt (k := 2) (by
        unfold gq_num at h1
        by_cases z : tK f L (c + 1) = 2
        · exact z
        · rw [if_neg z] at h1; cases h1) (by omega)
      omega
    obtain ⟨q, h2, h3, h4⟩ := hr_inr hp h
    refine ⟨p, q, rfl, h2, h3, aft_av h1 (tK_lt g1.1 hkw), ?_⟩
    show hr_v f L (gq_nx (gq_aft (tK f L) (tV f L) kw lo hb c)) = _
    rw [h1]; exact h4
theorem host_bad (hc : c + 1 ≤ tq_n f L) (h : hr_n f L (mr_nx (gq_aft (tK f L) (tV f L) 19 0 10) (.inr (c + 1))) = .inl e) : gg_host (tK f L) (tV f L) s c = .inl e := by
  rcases aft_no hc h (by omega) with z | ⟨p, z1, z2⟩
  · exact gg_host_1 z
  · exact gg_host_2 z1 z2
theorem host_ok {c2 : Nat} (hc : c + 1 ≤ tq_n f L) (h : hr_n f L (mr_nx (gq_aft (tK f L) (tV f L) 19 0 10) (.inr (c + 1))) = .inr c2) : ∃ (p : Nat) (q : (Nat × Nat) × Nat), gg_host (tK f L) (tV f L) s c = .inr (gg_hostm s p q.1.1 q.1.2, c2) ∧ mr_av f L 19 (.inr (c + 1)) = p ∧ hr_v f L (mr_nx (gq_aft (tK f L) (tV f L) 19 0 10) (.inr (c + 1))) = gg_bits q.1.1 q.1.2 := by
  obtain ⟨p, q, z1, z2, z3, z4, z5⟩ := aft_ok (by omega) hc h (by omega)
  refine ⟨p.1, q, ?_, z4, z5⟩
  rw [gg_host_3 z1 z2, z3]
theorem c_Mo_hostLine (hM : mo_ok S P mo) {s : gg_S} (hx : mt_tx I mo f L) (hb9 : I mo 9 = -1) (hs0 : mg_s I I mo f L (c + 1) s) (hk10 : tK f L c = 10)  : mx_C l E M_Mo_hostLine 7 0 0 [.ref (mo), .int (nI (tq_b f L c))] (t, S, I, P, J) (mx_sR none t S P J (fun K => mg_out I K mo f L ((if s.1 < 8 then gg_host (tK f L) (tV f L) s c else .inl c)))) := by
  obtain ⟨hM0, hMp1, hMp2, hMp4, hMp5, hMp7, hMp14, hMp21, hMp22, hMp23, hMp24, hMp25, hMp26, hMp27, hMs1, hMs2, hMs3, hMs4, hMs5, hMs6, hMs7, hMs8, hMs9, hMs10, hMs11, hMs12, hMs13⟩ := id hM
  have hL := hx.2.1
  obtain ⟨g1, g2, g3, g4, g5⟩ := hs0.gin
  have h13 : I (mo + 1) 3 = nI s.1 := by rw [hs0.row]; exact g1
  have h14 : I (mo + 1) 4 = nI s.2.1 := by rw [hs0.row]; exact g2
  refine mx_C_of (ls0 := [some (.ref (mo)), some (.int (nI (tq_b f L c))), none, none, none]) (by decide +kernel) rfl rfl (Nat.le_of_ble_eq_true rfl) rfl ?_
  refine mx_al0 d_Mo_hostLine_0 ?_
  refine mx_getR d_Mo_hostLine_1 fl_Mo_7 (by assumption) (by assumption) ?_
  refine mx_in_3 d_Mo_hostLine_4 ?_
  refine mx_iald d_Mo_hostLine_5 (by assumption) (nI_inb (by omega) (by omega)) ?_
  refine mx_ti (y := I (mo + 1) (3)) (by rw [nI_clamp (by omega)]) ?_
  refine mx_ti (y := nI (s.1)) (h13) ?_
  refine mx_bip 8 d_Mo_hostLine_6 (by decide) ?_
  refine mx_icN_ne 16 d_Mo_hostLine_8 (by decide) (by omega) (by omega) (fun c_8 => ?_) (fun c_8 => ?_)
  · skip
    have h8 : s.1 < 8 := by omega
    refine mx_al0 d_Mo_hostLine_16 ?_
    refine mx_ldcS (i := 59) d_Mo_hostLine_17 rfl rfl ?_
    refine mx_in_0 d_Mo_hostLine_19 ?_
    refine mx_bip 9 d_Mo_hostLine_20 (by decide) ?_
    refine mx_cV3iR d_Mo_hostLine_22 (c_Mo_afterR hM hx (show mr I I mo f L (.inr (c + 1)) from hs0.mc) (q := ([112, 97, 116, 105, 101, 110, 99, 101], 19)) (by decide +kernel) (by omega) (by decide +kernel) (lo := 0) (hb := 10) (by omega) hle9) ok_Mo_after ml_Mo_129 (by assumption) ⟨rfl, rfl⟩ (by decide) (Nat.le_of_ble_eq_true rfl) (fun K1 hK1 => ?_)
    have hK1 : mr I K1 mo f L (mr_nx (gq_aft (tK f L) (tV f L) 19 0 10) (.inr (c + 1) : Nat ⊕ Nat)) := hK1
    refine mx_is2 d_Mo_hostLine_25 ?_
    refine mx_al0 d_Mo_hostLine_26 ?_
    refine mx_cV0iR d_Mo_hostLine_27 (c_Mo_hoursR hM hx hK1) ok_Mo_hours ml_Mo_137 (by assumption) ⟨rfl, rfl⟩ (by decide) (Nat.le_of_ble_eq_true rfl) (fun K2 hK2 => ?_)
    refine mx_is3 d_Mo_hostLine_30 ?_
    refine mx_al0 d_Mo_hostLine_31 ?_
    refine mx_getI d_Mo_hostLine_32 fl_Mo_25 (by assumption) ?_
    refine mx_ic_m1 d_Mo_hostLine_35 ?_
    refine mx_icmp_eq 40 d_Mo_hostLine_36 (by decide) (fun c_36 => ?_) (fun c_36 => ?_)
    · skip
      obtain ⟨c2, hr, hs2⟩ := mr_ok hK2 c_36 hL
      have h23 : K2 (mo + 1) 3 = nI s.1 := by rw [hs2.1.1 _ (by omega)]; exact h13
      refine mx_al0 d_Mo_hostLine_40 ?_
      refine mx_getR d_Mo_hostLine_41 fl_Mo_7 (by assumption) (by assumption) ?_
      refine mx_in_3 d_Mo_hostLine_44 ?_
      refine mx_iald d_Mo_hostLine_45 (by assumption) (nI_inb (by omega) (by omega)) ?_
      refine mx_ti (y := K2 (mo + 1) (3)) (by rw [nI_clamp (by omega)]) ?_
      refine mx_ti (y := nI (s.1)) (h23) ?_
      refine mx_is4 d_Mo_hostLine_46 ?_
      refine mx_al0 d_Mo_hostLine_48 ?_
      refine mx_il4 d_Mo_hostLine_49 ?_
      refine mx_in_0 d_Mo_hostLine_51 ?_
      refine mx_il2 d_Mo_hostLine_52 ?_
      refine mx_cV3v d_Mo_hostLine_53 (c_Mo_put hM (h := s.1) (k := 0) h8 (by omega)) ok_Mo_put ml_Mo_140 (by assumption) ⟨rfl, rfl⟩ (by decide) (Nat.le_of_ble_eq_true rfl) ?_
      refine mx_al0 d_Mo_hostLine_56 ?_
      refine mx_il4 d_Mo_hostLine_57 ?_
      refine mx_in_1 d_Mo_hostLine_59 ?_
      refine mx_il3 d_Mo_hostLine_60 ?_
      refine mx_cV3v d_Mo_hostLine_61 (c_Mo_put hM (h := s.1) (k := 1) h8 (by omega)) ok_Mo_put ml_Mo_140 (by assumption) ⟨rfl, rfl⟩ (by decide) (Nat.le_of_ble_eq_true rfl) ?_
      refine mx_al0 d_Mo_hostLine_64 ?_
      refine mx_il4 d_Mo_hostLine_65 ?_
      refine mx_in_2 d_Mo_hostLine_67 ?_
      refine mx_in_0 d_Mo_hostLine_68 ?_
      refine mx_cV3v d_Mo_hostLine_69 (c_Mo_put hM (h := s.1) (k := 2) h8 (by omega)) ok_Mo_put ml_Mo_140 (by assumption) ⟨rfl, rfl⟩ (by decide) (Nat.le_of_ble_eq_true rfl) ?_
      refine mx_al0 d_Mo_hostLine_72 ?_
      refine mx_il4 d_Mo_hostLine_73 ?_
      refine mx_in_3 d_Mo_hostLine_75 ?_
      refine mx_in_0 d_Mo_hostLine_76 ?_
      refine mx_cV3v d_Mo_hostLine_77 (c_Mo_put hM (h := s.1) (k := 3) h8 (by omega)) ok_Mo_put ml_Mo_140 (by assumption) ⟨rfl, rfl⟩ (by decide) (Nat.le_of_ble_eq_true rfl) ?_
      refine mx_al0 d_Mo_hostLine_80 ?_
      refine mx_getR d_Mo_hostLine_81 fl_Mo_7 (by assumption) (by assumption) ?_
      refine mx_in_3 d_Mo_hostLine_84 ?_
      refine mx_dup2 d_Mo_hostLine_85 rfl rfl ?_
      refine mx_iald d_Mo_hostLine_86 (by assumption) (nI_inb (by omega) (by omega)) ?_
      refine mx_ti (y := (mx_up (mx_up (mx_up (mx_up K2 (mo + 1) (11 + 4 * s.1 + 0) (nI (mr_av f L 19 ((.inr (c + 1) : Nat ⊕ Nat))))) (mo + 1) (11 + 4 * s.1 + 1) ((hr_v f L (mr_nx (gq_aft (tK f L) (tV f L) 19 0 10) (.inr (c + 1) : Nat ⊕ Nat))))) (mo + 1) (11 + 4 * s.1 + 2) (nI (0))) (mo + 1) (11 + 4 * s.1 + 3) (nI (0))) (mo + 1) (3)) (by rw [nI_clamp (by omega)]) ?_
      refine mx_ti (y := nI (s.1)) ((by rw [mu_n (by omega), mu_n (by omega), mu_n (by omega), mu_n (by omega)]; exact h23)) ?_
      refine mx_in_1 d_Mo_hostLine_87 ?_
      refine mx_iaddN d_Mo_hostLine_88 ?_
      refine mx_iast d_Mo_hostLine_89 (by assumption) (nI_inb (by omega) (by omega)) ?_
      rw [nI_clamp (by omega)]
      exact mx_vret d_Mo_hostLine_90 rfl (mx_sR_of rfl (by obtain ⟨p, q, z1, z4, z5⟩ := host_ok (s := s) (tK_lt hk10 (by omega)) hr; rw [if_pos h8, z1, z4, z5]; exact mg_host (hs0.mct hs2) h8))
    · skip
      obtain ⟨e, hr, hb⟩ := mr_no hK2 c_36
      exact mx_vret d_Mo_hostLine_39 rfl (mx_sR_of rfl (by rw [if_pos h8, host_bad (tK_lt hk10 (by omega)) hr]; exact hs0.mcb hb (by omega)))
  · skip
    refine mx_al0 d_Mo_hostLine_11 ?_
    refine mx_il1 d_Mo_hostLine_12 ?_
    refine mx_cV1vR d_Mo_hostLine_13 (c_Mo_wrongA hM hs0.mc (e := c) hL) ok_Mo_wrong ml_Mo_113 (by assumption) ⟨rfl, rfl⟩ (by decide) (Nat.le_of_ble_eq_true rfl) (fun K0 hK0 => ?_)
    refine mx_al0 d_Mo_hostLine_16 ?_
    refine mx_ldcS (i := 59) d_Mo_hostLine_17 rfl rfl ?_
    refine mx_in_0 d_Mo_hostLine_19 ?_
    refine mx_bip 9 d_Mo_hostLine_20 (by decide) ?_
    refine mx_cV3iR d_Mo_hostLine_22 (c_Mo_afterR hM (mr_tx hK0 hx) hK0 (q := ([112, 97, 116, 105, 101, 110, 99, 101], 19)) (by decide +kernel) (by omega) (by decide +kernel) (lo := 0) (hb := 10) (by omega) hle9) ok_Mo_after ml_Mo_129 (by assumption) ⟨rfl, rfl⟩ (by decide) (Nat.le_of_ble_eq_true rfl) (fun K1 hK1 => ?_)
    have hK1 : mr I K1 mo f L (mr_nx (gq_aft (tK f L) (tV f L) 19 0 10) (.inl c : Nat ⊕ Nat)) := hK1
    refine mx_is2 d_Mo_hostLine_25 ?_
    refine mx_al0 d_Mo_hostLine_26 ?_
    refine mx_cV0iR d_Mo_hostLine_27 (c_Mo_hoursR hM hx hK1) ok_Mo_hours ml_Mo_137 (by assumption) ⟨rfl, rfl⟩ (by decide) (Nat.le_of_ble_eq_true rfl) (fun K2 hK2 => ?_)
    refine mx_is3 d_Mo_hostLine_30 ?_
    refine mx_al0 d_Mo_hostLine_31 ?_
    refine mx_getI d_Mo_hostLine_32 fl_Mo_25 (by assumption) ?_
    refine mx_ic_m1 d_Mo_hostLine_35 ?_
    refine mx_icmp_eq 40 d_Mo_hostLine_36 (by decide) (fun c_36 => ?_) (fun c_36 => ?_)
    · skip
      obtain ⟨c2, hr, hs2⟩ := mr_ok hK2 c_36 hL
      have h23 : K2 (mo + 1) 3 = nI s.1 := by rw [hs2.1.1 _ (by omega)]; exact h13
      exact absurd hr (fun z => by have z : (.inl c : Nat ⊕ Nat) = .inr c2 := z; cases z)
    · skip
      obtain ⟨e, hr, hb⟩ := mr_no hK2 c_36
      exact mx_vret d_Mo_hostLine_39 rfl (mx_sR_of rfl (by rw [if_neg (by omega)]; have hr : (.inl c : Nat ⊕ Nat) = .inl e := hr; cases hr; exact hs0.mcb hb (by omega)))
theorem guest_bad (hc : c + 1 ≤ tq_n f L) (h : hr_n f L (mr_nx (gq_aft (tK f L) (tV f L) 22 1 5) (.inr (c + 1))) = .inl e) : gg_guest (tK f L) (tV f L) s c = .inl e := by
  rcases aft_no hc h (by omega) with z | ⟨p, z1, z2⟩
  · exact gg_guest_1 z
  · exact gg_guest_2 z1 z2
theorem guest_ok {c2 : Nat} (hc : c + 1 ≤ tq_n f L) (h : hr_n f L (mr_nx (gq_aft (tK f L) (tV f L) 22 1 5) (.inr (c + 1))) = .inr c2) : ∃ (p : Nat) (q : (Nat × Nat) × Nat), (∀ e, gg_mk (tK f L) (tV f L) c2 = .inl e → gg_guest (tK f L) (tV f L) s c = .inl e) ∧ (∀ k, gg_mk (tK f L) (tV f L) c2 = .inr k → gg_guest (tK f L) (tV f L) s c = .inr (gg_guestm s p q.1.1 q.1.2 k.1, k.2)) ∧ mr_av f L 22 (.inr (c + 1)) = p ∧ hr_v f L (mr_nx (gq_aft (tK f L) (tV f L) 22 1 5) (.inr (c + 1))) = gg_bits q.1.1 q.1.2 := by
  obtain ⟨p, q, z1, z2, z3, z4, z5⟩ := aft_ok (by omega) hc h (by omega)
  subst z3
  exact ⟨p.1, q, fun e he => gg_guest_3 z1 z2 he, fun k hk => gg_guest_4 z1 z2 hk, z4, z5⟩
theorem gate_ok {c2 : Nat} (h : gq_nx (gq_let (tK f L) (tV f L) c) = .inr c2) : ∃ k : Nat × Nat, gq_let (tK f L) (tV f L) c = .inr k ∧ k.2 = c2 ∧ mq f (tq_b f L c) (tq_lz f L (tq_b f L c) - tq_b f L c) = k.1 := by
  obtain ⟨k, h1, h2⟩ := nx_inr h
  exact ⟨k, h1, h2, let_mq h1⟩
theorem num_ok {c2 lo hb : Nat} (h : gq_nx (gq_num (tK f L) (tV f L) lo hb c) = .inr c2) (hc : c ≤ tq_n f L) : ∃ k : Nat × Nat, gq_num (tK f L) (tV f L) lo hb c = .inr k ∧ k.2 = c2 ∧ fg_v f L (tq_b f L c) = k.1 := by
  obtain ⟨k, h1, h2⟩ := nx_inr h
  exact ⟨k, h1, h2, (fg_num h1 hc).symm⟩
theorem c_Mo_guestLine (hM : mo_ok S P mo) {s : gg_S} (hx : mt_tx I mo f L) (hb9 : I mo 9 = -1) (hs0 : mg_s I I mo f L (c + 1) s) (hk11 : tK f L c = 11)  : mx_C l E M_Mo_guestLine 7 0 0 [.ref (mo), .int (nI (tq_b f L c))] (t, S, I, P, J) (mx_sR none t S P J (fun K => mg_out I K mo f L ((if s.2.1 < 8 then gg_guest (tK f L) (tV f L) s c else .inl c)))) := by
  obtain ⟨hM0, hMp1, hMp2, hMp4, hMp5, hMp7, hMp14, hMp21, hMp22, hMp23, hMp24, hMp25, hMp26, hMp27, hMs1, hMs2, hMs3, hMs4, hMs5, hMs6, hMs7, hMs8, hMs9, hMs10, hMs11, hMs12, hMs13⟩ := id hM
  have hL := hx.2.1
  obtain ⟨g1, g2, g3, g4, g5⟩ := hs0.gin
  have h13 : I (mo + 1) 3 = nI s.1 := by rw [hs0.row]; exact g1
  have h14 : I (mo + 1) 4 = nI s.2.1 := by rw [hs0.row]; exact g2
  refine mx_C_of (ls0 := [some (.ref (mo)), some (.int (nI (tq_b f L c))), none, none, none, none]) (by decide +kernel) rfl rfl (Nat.le_of_ble_eq_true rfl) rfl ?_
  refine mx_al0 d_Mo_guestLine_0 ?_
  refine mx_getR d_Mo_guestLine_1 fl_Mo_7 (by assumption) (by assumption) ?_
  refine mx_in_4 d_Mo_guestLine_4 ?_
  refine mx_iald d_Mo_guestLine_5 (by assumption) (nI_inb (by omega) (by omega)) ?_
  refine mx_ti (y := I (mo + 1) (4)) (by rw [nI_clamp (by omega)]) ?_
  refine mx_ti (y := nI (s.2.1)) (h14) ?_
  refine mx_bip 8 d_Mo_guestLine_6 (by decide) ?_
  refine mx_icN_ne 16 d_Mo_guestLine_8 (by decide) (by omega) (by omega) (fun c_8 => ?_) (fun c_8 => ?_)
  · skip
    have h8 : s.2.1 < 8 := by omega
    refine mx_al0 d_Mo_guestLine_16 ?_
    refine mx_ldcS (i := 62) d_Mo_guestLine_17 rfl rfl ?_
    refine mx_in_1 d_Mo_guestLine_19 ?_
    refine mx_in_4 d_Mo_guestLine_20 ?_
    refine mx_cV3iR d_Mo_guestLine_21 (c_Mo_afterR hM hx (show mr I I mo f L (.inr (c + 1)) from hs0.mc) (q := ([115, 116, 97, 121], 22)) (by decide +kernel) (by omega) (by decide +kernel) (lo := 1) (hb := 5) (by omega) hle4) ok_Mo_after ml_Mo_129 (by assumption) ⟨rfl, rfl⟩ (by decide) (Nat.le_of_ble_eq_true rfl) (fun K1 hK1 => ?_)
    have hK1 : mr I K1 mo f L (mr_nx (gq_aft (tK f L) (tV f L) 22 1 5) (.inr (c + 1) : Nat ⊕ Nat)) := hK1
    refine mx_is2 d_Mo_guestLine_24 ?_
    refine mx_al0 d_Mo_guestLine_25 ?_
    refine mx_cV0iR d_Mo_guestLine_26 (c_Mo_hoursR hM hx hK1) ok_Mo_hours ml_Mo_137 (by assumption) ⟨rfl, rfl⟩ (by decide) (Nat.le_of_ble_eq_true rfl) (fun K2 hK2 => ?_)
    refine mx_is3 d_Mo_guestLine_29 ?_
    refine mx_al0 d_Mo_guestLine_30 ?_
    refine mx_getI d_Mo_guestLine_31 fl_Mo_25 (by assumption) ?_
    refine mx_ic_m1 d_Mo_guestLine_34 ?_
    refine mx_icmp_ne 54 d_Mo_guestLine_35 (by decide) (fun c_35 => ?_) (fun c_35 => ?_)
    · skip
      obtain ⟨e, hr, hb⟩ := mr_no hK2 c_35
      refine mx_in_0 d_Mo_guestLine_54 ?_
      refine mx_is4 d_Mo_guestLine_55 ?_
      refine mx_al0 d_Mo_guestLine_57 ?_
      refine mx_getI d_Mo_guestLine_58 fl_Mo_25 (by assumption) ?_
      refine mx_ic_m1 d_Mo_guestLine_61 ?_
      refine mx_icmp_eq 66 d_Mo_guestLine_62 (by decide) (fun c_62 => absurd c_62 (c_35)) (fun c_62 => ?_)
      exact mx_vret d_Mo_guestLine_65 rfl (mx_sR_of rfl (by rw [if_pos h8, guest_bad (tK_lt hk11 (by omega)) hr]; exact hs0.mcb hb (by omega)))
    · skip
      obtain ⟨c2, hr, hs2⟩ := mr_ok hK2 c_35 hL
      obtain ⟨p, q, hg1, hg2, z4, z5⟩ := guest_ok (s := s) (tK_lt hk11 (by omega)) hr
      refine mx_al0 d_Mo_guestLine_38 ?_
      refine mx_ldcS (i := 63) d_Mo_guestLine_39 rfl rfl ?_
      refine mx_cV1iR d_Mo_guestLine_41 (c_Mo_has_63 hM (hs2.tx hx) hs2) ok_Mo_has ml_Mo_117 (by assumption) ⟨rfl, rfl⟩ (by decide) (Nat.le_of_ble_eq_true rfl) (fun K3 hK3 => ?_)
      refine mx_ifB_eq 54 d_Mo_guestLine_44 (by decide) (fun c_44 => ?_) (fun c_44 => ?_)
      · skip
        have hk23 : ¬ tK f L c2 = 23 := of_decide_eq_false c_44
        rw [if_neg hk23] at hK3
        have hs3 := hK3.1
        have hmk : gg_mk (tK f L) (tV f L) c2 = .inr (0, c2) := if_neg hk23
        have h33 : K3 (mo + 1) 4 = nI s.2.1 := by rw [hs3.1.1 _ (by omega)]; exact h14
        refine mx_in_0 d_Mo_guestLine_54 ?_
        refine mx_is4 d_Mo_guestLine_55 ?_
        refine mx_al0 d_Mo_guestLine_57 ?_
        refine mx_getI d_Mo_guestLine_58 fl_Mo_25 (by assumption) ?_
        refine mx_ic_m1 d_Mo_guestLine_61 ?_
        refine mx_icmp_eq 66 d_Mo_guestLine_62 (by decide) (fun c_62 => ?_) (fun c_62 => absurd c_62 (fun z => z hs3.f0))
        refine mx_bip 43 d_Mo_guestLine_66 (by decide) ?_
        refine mx_in_3 d_Mo_guestLine_68 ?_
        refine mx_al0 d_Mo_guestLine_69 ?_
        refine mx_getR d_Mo_guestLine_70 fl_Mo_7 (by assumption) (by assumption) ?_
        refine mx_in_4 d_Mo_guestLine_73 ?_
        refine mx_iald d_Mo_guestLine_74 (by assumption) (nI_inb (by omega) (by omega)) ?_
        refine mx_ti (y := K3 (mo + 1) (4)) (by rw [nI_clamp (by omega)]) ?_
        refine mx_ti (y := nI (s.2.1)) (h33) ?_
        refine mx_imulN d_Mo_guestLine_75 ?_
        refine mx_iaddN d_Mo_guestLine_76 ?_
        refine mx_is5 d_Mo_guestLine_77 ?_
        refine mx_al0 d_Mo_guestLine_79 ?_
        refine mx_getR d_Mo_guestLine_80 fl_Mo_7 (by assumption) (by assumption) ?_
        refine mx_il5 d_Mo_guestLine_83 ?_
        refine mx_in_0 d_Mo_guestLine_85 ?_
        refine mx_iaddN d_Mo_guestLine_86 ?_
        refine mx_il2 d_Mo_guestLine_87 ?_
        refine mx_iast d_Mo_guestLine_88 (by assumption) (nI_inb (by omega) (by omega)) ?_
        rw [nI_clamp (by omega)]
        refine mx_al0 d_Mo_guestLine_89 ?_
        refine mx_getR d_Mo_guestLine_90 fl_Mo_7 (by assumption) (by assumption) ?_
        refine mx_il5 d_Mo_guestLine_93 ?_
        refine mx_in_1 d_Mo_guestLine_95 ?_
        refine mx_iaddN d_Mo_guestLine_96 ?_
        refine mx_il3 d_Mo_guestLine_97 ?_
        refine mx_iast d_Mo_guestLine_98 (by assumption) (nI_inb (by omega) (by omega)) ?_
        rw [nI_clamp (by omega)]
        refine mx_al0 d_Mo_guestLine_99 ?_
        refine mx_getR d_Mo_guestLine_100 fl_Mo_7 (by assumption) (by assumption) ?_
        refine mx_il5 d_Mo_guestLine_103 ?_
        refine mx_in_2 d_Mo_guestLine_105 ?_
        refine mx_iaddN d_Mo_guestLine_106 ?_
        refine mx_il4 d_Mo_guestLine_107 ?_
        refine mx_iast d_Mo_guestLine_109 (by assumption) (nI_inb (by omega) (by omega)) ?_
        rw [nI_clamp (by omega)]
        refine mx_al0 d_Mo_guestLine_110 ?_
        refine mx_getR d_Mo_guestLine_111 fl_Mo_7 (by assumption) (by assumption) ?_
        refine mx_in_4 d_Mo_guestLine_114 ?_
        refine mx_dup2 d_Mo_guestLine_115 rfl rfl ?_
        refine mx_iald d_Mo_guestLine_116 (by assumption) (nI_inb (by omega) (by omega)) ?_
        refine mx_ti (y := (mx_up (mx_up (mx_up K3 (mo + 1) (43 + (3 * (s.2.1)) + 0) (nI (mr_av f L 22 ((.inr (c + 1) : Nat ⊕ Nat))))) (mo + 1) (43 + (3 * (s.2.1)) + 1) ((hr_v f L (mr_nx (gq_aft (tK f L) (tV f L) 22 1 5) (.inr (c + 1) : Nat ⊕ Nat))))) (mo + 1) (43 + (3 * (s.2.1)) + 2) (nI (0))) (mo + 1) (4)) (by rw [nI_clamp (by omega)]) ?_
        refine mx_ti (y := nI (s.2.1)) ((by rw [mu_n (by omega), mu_n (by omega), mu_n (by omega)]; exact h33)) ?_
        refine mx_in_1 d_Mo_guestLine_117 ?_
        refine mx_iaddN d_Mo_guestLine_118 ?_
        refine mx_iast d_Mo_guestLine_119 (by assumption) (nI_inb (by omega) (by omega)) ?_
        rw [nI_clamp (by omega)]
        exact mx_vret d_Mo_guestLine_120 rfl (mx_sR_of rfl (by rw [if_pos h8, hg2 _ hmk, z4, z5]; exact mg_guest (hs0.mct hs3) h8))
      · skip
        have hk23 : tK f L c2 = 23 := of_decide_eq_true c_44
        rw [if_pos hk23] at hK3
        have hs3 := hK3.1
        have hmk : gg_mk (tK f L) (tV f L) c2 = gq_let (tK f L) (tV f L) (c2 + 1) := if_pos hk23
        refine mx_al0 d_Mo_guestLine_47 ?_
        refine mx_cV0iR d_Mo_guestLine_48 (c_Mo_lettersR hM (hs3.tx hx) hs3) ok_Mo_letters ml_Mo_148 (by assumption) ⟨rfl, rfl⟩ (by decide) (Nat.le_of_ble_eq_true rfl) (fun K4 hK4 => ?_)
        have h43 : K4 (mo + 1) 4 = nI s.2.1 := by rw [(mr_off hK4).1 _ (by omega)]; exact h14
        refine mx_goto 55 d_Mo_guestLine_51 (by decide) ?_
        refine mx_is4 d_Mo_guestLine_55 ?_
        refine mx_al0 d_Mo_guestLine_57 ?_
        refine mx_getI d_Mo_guestLine_58 fl_Mo_25 (by assumption) ?_
        refine mx_ic_m1 d_Mo_guestLine_61 ?_
        refine mx_icmp_eq 66 d_Mo_guestLine_62 (by decide) (fun c_62 => ?_) (fun c_62 => ?_)
        · skip
          obtain ⟨c3, hr3, hs4⟩ := mr_ok hK4 c_62 hL
          obtain ⟨k, hk1, hk2, hk3⟩ := gate_ok hr3
          refine mx_bip 43 d_Mo_guestLine_66 (by decide) ?_
          refine mx_in_3 d_Mo_guestLine_68 ?_
          refine mx_al0 d_Mo_guestLine_69 ?_
          refine mx_getR d_Mo_guestLine_70 fl_Mo_7 (by assumption) (by assumption) ?_
          refine mx_in_4 d_Mo_guestLine_73 ?_
          refine mx_iald d_Mo_guestLine_74 (by assumption) (nI_inb (by omega) (by omega)) ?_
          refine mx_ti (y := K4 (mo + 1) (4)) (by rw [nI_clamp (by omega)]) ?_
          refine mx_ti (y := nI (s.2.1)) (h43) ?_
          refine mx_imulN d_Mo_guestLine_75 ?_
          refine mx_iaddN d_Mo_guestLine_76 ?_
          refine mx_is5 d_Mo_guestLine_77 ?_
          refine mx_al0 d_Mo_guestLine_79 ?_
          refine mx_getR d_Mo_guestLine_80 fl_Mo_7 (by assumption) (by assumption) ?_
          refine mx_il5 d_Mo_guestLine_83 ?_
          refine mx_in_0 d_Mo_guestLine_85 ?_
          refine mx_iaddN d_Mo_guestLine_86 ?_
          refine mx_il2 d_Mo_guestLine_87 ?_
          refine mx_iast d_Mo_guestLine_88 (by assumption) (nI_inb (by omega) (by omega)) ?_
          rw [nI_clamp (by omega)]
          refine mx_al0 d_Mo_guestLine_89 ?_
          refine mx_getR d_Mo_guestLine_90 fl_Mo_7 (by assumption) (by assumption) ?_
          refine mx_il5 d_Mo_guestLine_93 ?_
          refine mx_in_1 d_Mo_guestLine_95 ?_
          refine mx_iaddN d_Mo_guestLine_96 ?_
          refine mx_il3 d_Mo_guestLine_97 ?_
          refine mx_iast d_Mo_guestLine_98 (by assumption) (nI_inb (by omega) (by omega)) ?_
          rw [nI_clamp (by omega)]
          refine mx_al0 d_Mo_guestLine_99 ?_
          refine mx_getR d_Mo_guestLine_100 fl_Mo_7 (by assumption) (by assumption) ?_
          refine mx_il5 d_Mo_guestLine_103 ?_
          refine mx_in_2 d_Mo_guestLine_105 ?_
          refine mx_iaddN d_Mo_guestLine_106 ?_
          refine mx_il4 d_Mo_guestLine_107 ?_
          refine mx_iast d_Mo_guestLine_109 (by assumption) (nI_inb (by omega) (by omega)) ?_
          rw [nI_clamp (by omega)]
          refine mx_al0 d_Mo_guestLine_110 ?_
          refine mx_getR d_Mo_guestLine_111 fl_Mo_7 (by assumption) (by assumption) ?_
          refine mx_in_4 d_Mo_guestLine_114 ?_
          refine mx_dup2 d_Mo_guestLine_115 rfl rfl ?_
          refine mx_iald d_Mo_guestLine_116 (by assumption) (nI_inb (by omega) (by omega)) ?_
          refine mx_ti (y := (mx_up (mx_up (mx_up K4 (mo + 1) (43 + (3 * (s.2.1)) + 0) (nI (mr_av f L 22 ((.inr (c + 1) : Nat ⊕ Nat))))) (mo + 1) (43 + (3 * (s.2.1)) + 1) ((hr_v f L (mr_nx (gq_aft (tK f L) (tV f L) 22 1 5) (.inr (c + 1) : Nat ⊕ Nat))))) (mo + 1) (43 + (3 * (s.2.1)) + 2) (nI (mq f (tq_b f L (c2 + 1)) (tq_lz f L (tq_b f L (c2 + 1)) - tq_b f L (c2 + 1))))) (mo + 1) (4)) (by rw [nI_clamp (by omega)]) ?_
          refine mx_ti (y := nI (s.2.1)) ((by rw [mu_n (by omega), mu_n (by omega), mu_n (by omega)]; exact h43)) ?_
          refine mx_in_1 d_Mo_guestLine_117 ?_
          refine mx_iaddN d_Mo_guestLine_118 ?_
          refine mx_iast d_Mo_guestLine_119 (by assumption) (nI_inb (by omega) (by omega)) ?_
          rw [nI_clamp (by omega)]
          exact mx_vret d_Mo_guestLine_120 rfl (mx_sR_of rfl (by rw [if_pos h8, hg2 _ (hmk.trans hk1), z4, z5, hk3]; subst hk2; exact mg_guest (hs0.mct hs4) h8))
        · skip
          obtain ⟨e, hr3, hb⟩ := mr_no hK4 c_62
          exact mx_vret d_Mo_guestLine_65 rfl (mx_sR_of rfl (by rw [if_pos h8, hg1 e (hmk.trans (nx_inl hr3))]; exact hs0.mcb hb (by omega)))
  · skip
    refine mx_al0 d_Mo_guestLine_11 ?_
    refine mx_il1 d_Mo_guestLine_12 ?_
    refine mx_cV1vR d_Mo_guestLine_13 (c_Mo_wrongA hM hs0.mc (e := c) hL) ok_Mo_wrong ml_Mo_113 (by assumption) ⟨rfl, rfl⟩ (by decide) (Nat.le_of_ble_eq_true rfl) (fun K0 hK0 => ?_)
    refine mx_al0 d_Mo_guestLine_16 ?_
    refine mx_ldcS (i := 62) d_Mo_guestLine_17 rfl rfl ?_
    refine mx_in_1 d_Mo_guestLine_19 ?_
    refine mx_in_4 d_Mo_guestLine_20 ?_
    refine mx_cV3iR d_Mo_guestLine_21 (c_Mo_afterR hM (mr_tx hK0 hx) hK0 (q := ([115, 116, 97, 121], 22)) (by decide +kernel) (by omega) (by decide +kernel) (lo := 1) (hb := 5) (by omega) hle4) ok_Mo_after ml_Mo_129 (by assumption) ⟨rfl, rfl⟩ (by decide) (Nat.le_of_ble_eq_true rfl) (fun K1 hK1 => ?_)
    have hK1 : mr I K1 mo f L (mr_nx (gq_aft (tK f L) (tV f L) 22 1 5) (.inl c : Nat ⊕ Nat)) := hK1
    refine mx_is2 d_Mo_guestLine_24 ?_
    refine mx_al0 d_Mo_guestLine_25 ?_
    refine mx_cV0iR d_Mo_guestLine_26 (c_Mo_hoursR hM hx hK1) ok_Mo_hours ml_Mo_137 (by assumption) ⟨rfl, rfl⟩ (by decide) (Nat.le_of_ble_eq_true rfl) (fun K2 hK2 => ?_)
    refine mx_is3 d_Mo_guestLine_29 ?_
    refine mx_al0 d_Mo_guestLine_30 ?_
    refine mx_getI d_Mo_guestLine_31 fl_Mo_25 (by assumption) ?_
    refine mx_ic_m1 d_Mo_guestLine_34 ?_
    refine mx_icmp_ne 54 d_Mo_guestLine_35 (by decide) (fun c_35 => ?_) (fun c_35 => ?_)
    · skip
      obtain ⟨e, hr, hb⟩ := mr_no hK2 c_35
      refine mx_in_0 d_Mo_guestLine_54 ?_
      refine mx_is4 d_Mo_guestLine_55 ?_
      refine mx_al0 d_Mo_guestLine_57 ?_
      refine mx_getI d_Mo_guestLine_58 fl_Mo_25 (by assumption) ?_
      refine mx_ic_m1 d_Mo_guestLine_61 ?_
      refine mx_icmp_eq 66 d_Mo_guestLine_62 (by decide) (fun c_62 => absurd c_62 (c_35)) (fun c_62 => ?_)
      exact mx_vret d_Mo_guestLine_65 rfl (mx_sR_of rfl (by rw [if_neg (by omega)]; have hr : (.inl c : Nat ⊕ Nat) = .inl e := hr; cases hr; exact hs0.mcb hb (by omega)))
    · skip
      obtain ⟨c2, hr, hs2⟩ := mr_ok hK2 c_35 hL
      exact absurd hr (fun z => by have z : (.inl c : Nat ⊕ Nat) = .inr c2 := z; cases z)
end BD71
