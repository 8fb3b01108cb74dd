/-! THE CLASS READS THE GROUND -/
section BA68
variable {l : Launch} {E : mx_Env} {t : Nat} {S : mx_S} {I K K2 : mx_I} {P : mx_P} {J : mx_G} {gr te dr pe L c e z n tt Hn Gn : Nat} {f : Nat → Nat} {w v u : Int32} {m : Nat → Int32} {b : Bool}
theorem gg_hrs_go {q : (Nat × Nat) × Nat} (h : gg_hrs (tK f L) (tV f L) c = .inr q) : q.1.1 < 8 ∧ q.1.2 < 8 ∧ q.1.1 ≤ q.1.2 ∧ q.2 = c + 4 := by
  unfold gg_hrs at h
  cases h1 : gq_aft (tK f L) (tV f L) 20 0 8 c with
  | inl e => rw [h1] at h; cases h
  | inr p =>
    rw [h1] at h
    simp only at h
    cases h2 : gq_aft (tK f L) (tV f L) 21 p.1 8 p.2 with
    | inl e => rw [h2] at h; cases h
    | inr r =>
      rw [h2] at h
      have g1 := gq_aft_go (by omega) p h1
      have g2 := gq_aft_go (by omega) r h2
      cases h
      exact ⟨g1.2.2.1, g2.2.2.1, g2.2.2.2, by show r.2 = c + 4; omega⟩
theorem gg_hv_n (h : gg_hv (gg_hrs (tK f L) (tV f L) c) = -1) : ∃ e, gg_hrs (tK f L) (tV f L) c = .inl e := by
  cases hr : gg_hrs (tK f L) (tV f L) c with
  | inl e => exact ⟨e, rfl⟩
  | inr q =>
    rw [hr] at h
    have := gg_hrs_go hr
    exact absurd h (gg_bits_n _ this.1 _ this.2.1 this.2.2.1)
theorem gg_hv_y (h : ¬ gg_hv (gg_hrs (tK f L) (tV f L) c) = -1) : ∃ q, gg_hrs (tK f L) (tV f L) c = .inr q ∧ gg_hv (gg_hrs (tK f L) (tV f L) c) = gg_bits q.1.1 q.1.2 := by
  cases hr : gg_hrs (tK f L) (tV f L) c with
  | inl e => rw [hr] at h; exact absurd rfl h
  | inr q => exact ⟨q, rfl, rfl⟩
theorem hleH {H : Nat} (h : H ≤ 8) : ∀ v, v < 10000 → (nI v ≤ nI H - nI 1 ↔ v < H) := fun v hv => by
  rcases Nat.eq_zero_or_pos H with z | z
  · subst z
    refine ⟨fun q => ?_, fun q => absurd q (by omega)⟩
    have h1 : nI 0 - nI 1 = (-1 : Int32) := by decide
    rw [h1] at q
    exact absurd (nI_m1lt (n := v) (by omega)) (Int32.not_lt.mpr q)
  · rw [nI_sub z, nI_leI (by omega) (by omega)]; omega
theorem gg_host_1 {s : gg_S} {e : Nat} (h : gq_aft (tK f L) (tV f L) 19 0 10 (c + 1) = .inl e) : gg_host (tK f L) (tV f L) s c = .inl e := by unfold gg_host; rw [h]
theorem gg_host_2 {s : gg_S} {e : Nat} {p : Nat × Nat} (h : gq_aft (tK f L) (tV f L) 19 0 10 (c + 1) = .inr p) (h2 : gg_hrs (tK f L) (tV f L) p.2 = .inl e) : gg_host (tK f L) (tV f L) s c = .inl e := by unfold gg_host; rw [h]; simp only; rw [h2]
theorem gg_host_3 {s : gg_S} {p : Nat × Nat} {q : (Nat × Nat) × Nat} (h : gq_aft (tK f L) (tV f L) 19 0 10 (c + 1) = .inr p) (h2 : gg_hrs (tK f L) (tV f L) p.2 = .inr q) : gg_host (tK f L) (tV f L) s c = .inr (gg_hostm s p.1 q.1.1 q.1.2, q.2) := by unfold gg_host; rw [h]; simp only; rw [h2]
theorem gg_guest_1 {s : gg_S} {e : Nat} (h : gq_aft (tK f L) (tV f L) 22 1 5 (c + 1) = .inl e) : gg_guest (tK f L) (tV f L) s c = .inl e := by unfold gg_guest; rw [h]
theorem gg_guest_2 {s : gg_S} {e : Nat} {p : Nat × Nat} (h : gq_aft (tK f L) (tV f L) 22 1 5 (c + 1) = .inr p) (h2 : gg_hrs (tK f L) (tV f L) p.2 = .inl e) : gg_guest (tK f L) (tV f L) s c = .inl e := by unfold gg_guest; rw [h]; simp only; rw [h2]
theorem gg_guest_3 {s : gg_S} {e : Nat} {p : Nat × Nat} {q : (Nat × Nat) × Nat} (h : gq_aft (tK f L) (tV f L) 22 1 5 (c + 1) = .inr p) (h2 : gg_hrs (tK f L) (tV f L) p.2 = .inr q) (h3 : gg_mk (tK f L) (tV f L) q.2 = .inl e) : gg_guest (tK f L) (tV f L) s c = .inl e := by unfold gg_guest; rw [h]; simp only; rw [h2]; simp only; rw [h3]
theorem gg_guest_4 {s : gg_S} {p k : Nat × Nat} {q : (Nat × Nat) × Nat} (h : gq_aft (tK f L) (tV f L) 22 1 5 (c + 1) = .inr p) (h2 : gg_hrs (tK f L) (tV f L) p.2 = .inr q) (h3 : gg_mk (tK f L) (tV f L) q.2 = .inr k) : gg_guest (tK f L) (tV f L) s c = .inr (gg_guestm s p.1 q.1.1 q.1.2 k.1, k.2) := by unfold gg_guest; rw [h]; simp only; rw [h2]; simp only; rw [h3]
theorem go_host {s : gg_S} {a b p : Nat} (hs : go_s I K dr te f L tt s) (hd : te + 6 ≤ dr) (h8 : s.1 < 8) : go_s I (mx_up (mx_up (mx_up K (dr + 1 + 1) s.1 (nI p)) (dr + 1 + 2) s.1 (gg_bits a b)) (dr + 1) 0 (nI (s.1 + 1))) dr te f L tt (gg_hostm s p a b) := by
  have h3 := hs.2.2.2.2.2.1
  have h4 := hs.2.2.2.2.2.2.1
  have h9 := hs.2.2.2.2.2.2.2.2
  refine hs.up hd (((go_off.rf.ur (r := 2) hd (by omega) (by omega)).ur (r := 3) hd (by omega) (by omega)).ur (r := 1) hd (by omega) (by omega)) (by rw [mx_up_ne (by omega), mx_up_ne (by omega), mx_up_ne (by omega)]) ?_ ?_ ?_ (by show s.1 + 1 ≤ 8; omega) h9 (fun a h1 h2 => by rw [mx_up_ne (by omega), mx_up_ne (by omega), mx_up_ne (by omega)])
  · exact st_upc (r := 0) (st_upc (r := 2) (st_upc (r := 1) hs.st (by unfold pe_cor; omega)) (by unfold pe_cor; omega)) (by unfold pe_cor; omega)
  · unfold gg_hostm
    dsimp only
    exact updI_e _ _ _
  · unfold gg_hostm
    dsimp only
    rw [updI_n (by omega), updI_n (by omega), updI_n (by omega)]; exact h4
theorem go_guest {s : gg_S} {a b p k : Nat} (hs : go_s I K dr te f L tt s) (hd : te + 6 ≤ dr) (h8 : s.2.1 < 8) : go_s I (mx_up (mx_up (mx_up (mx_up K (dr + 1 + 3) s.2.1 (nI p)) (dr + 1 + 4) s.2.1 (gg_bits a b)) (dr + 1 + 5) s.2.1 (nI k)) (dr + 1) 1 (nI (s.2.1 + 1))) dr te f L tt (gg_guestm s p a b k) := by
  have h3 := hs.2.2.2.2.2.1
  have h4 := hs.2.2.2.2.2.2.1
  have h9 := hs.2.2.2.2.2.2.2.1
  refine hs.up hd ((((go_off.rf.ur (r := 4) hd (by omega) (by omega)).ur (r := 5) hd (by omega) (by omega)).ur (r := 6) hd (by omega) (by omega)).ur (r := 1) hd (by omega) (by omega)) (by rw [mx_up_ne (by omega), mx_up_ne (by omega), mx_up_ne (by omega), mx_up_ne (by omega)]) ?_ ?_ ?_ h9 (by show s.2.1 + 1 ≤ 8; omega) (fun a h1 h2 => by rw [mx_up_ne (by omega), mx_up_ne (by omega), mx_up_ne (by omega), mx_up_ne (by omega)])
  · exact st_upc (r := 0) (st_upc (r := 5) (st_upc (r := 4) (st_upc (r := 3) hs.st (by unfold pe_cor; omega)) (by unfold pe_cor; omega)) (by unfold pe_cor; omega)) (by unfold pe_cor; omega)
  · unfold gg_guestm
    dsimp only
    rw [updI_n (by omega), updI_n (by omega), updI_n (by omega), updI_n (by omega)]; exact h3
  · unfold gg_guestm
    dsimp only
    exact updI_e _ _ _
theorem go_fld {s : gg_S} {k j : Nat} (hs : go_s I K dr te f L tt s) (hd : te + 6 ≤ dr) (hf : j = 4 ∧ k = 5 ∨ j = 5 ∧ k = 6 ∨ j = 6 ∧ k = 7 ∨ j = 7 ∧ k = 8) : go_s I (mx_up K dr j v) dr te f L tt (s.1, s.2.1, updI s.2.2 k v) := by
  refine hs.up hd (go_off.rf.uf hd (by omega)) (mx_up_ne (by omega)) (st_fl4 hs.st hf) ?_ ?_ hs.2.2.2.2.2.2.2.1 hs.2.2.2.2.2.2.2.2 (fun a h1 h2 => mx_up_ne (by omega))
  · show updI s.2.2 k v 3 = _
    rw [updI_n (by omega)]; exact hs.2.2.2.2.2.1
  · show updI s.2.2 k v 4 = _
    rw [updI_n (by omega)]; exact hs.2.2.2.2.2.2.1
theorem gg_set_0 {a b : Nat} : gg_set m f a b 0 = m := by funext j; exact if_neg (by omega)
theorem gg_set_s {a b k : Nat} : gg_set m f a b (k + 1) = updI (gg_set m f a b k) (b + k) (nI (f (a + k) - 48)) := by
  funext j
  unfold gg_set updI
  by_cases e : j = b + k
  · subst e
    rw [if_pos (by omega), if_pos rfl, show a + (b + k - b) = a + k by omega]
  · rw [if_neg e]
    dsimp only
    by_cases q : b ≤ j ∧ j < b + k
    · rw [if_pos (show b ≤ j ∧ j < b + (k + 1) by omega), if_pos q]
    · rw [if_neg (show ¬ (b ≤ j ∧ j < b + (k + 1)) by omega), if_neg q]
theorem go_rank {s : gg_S} {a b k r j : Nat} (hs : go_s I K dr te f L tt (s.1, s.2.1, gg_set s.2.2 f a b k)) (hd : te + 6 ≤ dr) (hb : 67 ≤ b) (hr : r = 6 ∨ r = 7) (hc : pe_cor r j (b + k)) : go_s I (mx_up K (dr + 1 + r) j (nI (f (a + k) - 48))) dr te f L tt (s.1, s.2.1, gg_set s.2.2 f a b (k + 1)) := by
  refine hs.up hd (go_off.rf.ur (r := 1 + r) hd (by omega) (by omega) |> fun z => by rw [show dr + (1 + r) = dr + 1 + r by omega] at z; exact z) (mx_up_ne (by omega)) ?_ ?_ ?_ hs.2.2.2.2.2.2.2.1 hs.2.2.2.2.2.2.2.2 (fun a h1 h2 => mx_up_ne (by omega))
  · rw [gg_set_s]; exact st_upc hs.st hc
  · show gg_set s.2.2 f a b (k + 1) 3 = _
    rw [gg_set_s, updI_n (by omega)]; exact hs.2.2.2.2.2.1
  · show gg_set s.2.2 f a b (k + 1) 4 = _
    rw [gg_set_s, updI_n (by omega)]; exact hs.2.2.2.2.2.2.1
theorem c_Pe_addHost (hPe : pe_ok S P pe) (hn : I pe 0 = nI n) (hn8 : n < 8)  : mx_C l E M_Pe_addHost 1 0 0 [.ref (pe), .int (v), .int (w)] (t, S, I, P, J) (mx_rv (t, S, mx_up (mx_up (mx_up I (pe + 1) n v) (pe + 2) n w) pe 0 (nI (n + 1)), P, J)) := by
  obtain ⟨hA0, hA1, hA2, hA3, hA4, hA5, hA6, hA7, hB1, hB2, hB3, hB4, hB5, hB6, hB7⟩ := id hPe
  refine mx_C_of (ls0 := [some (.ref (pe)), some (.int (v)), some (.int (w))]) (by decide +kernel) rfl rfl (Nat.le_of_ble_eq_true rfl) rfl ?_
  refine mx_al0 d_Pe_addHost_0 ?_
  refine mx_getR d_Pe_addHost_1 fl_Pe_18 (by assumption) (by assumption) ?_
  refine mx_al0 d_Pe_addHost_4 ?_
  refine mx_getI d_Pe_addHost_5 fl_Pe_9 (by assumption) ?_
  refine mx_ti (y := nI (n)) (hn) ?_
  refine mx_il1 d_Pe_addHost_8 ?_
  refine mx_cSN3v d_Pe_addHost_9 (c_put (k := n) (by assumption) (by omega) (by omega)) ok_Vh_put ml_Pe_44 (by decide) (Nat.le_of_ble_eq_true rfl) ?_
  refine mx_al0 d_Pe_addHost_12 ?_
  refine mx_getR d_Pe_addHost_13 fl_Pe_22 (by assumption) (by assumption) ?_
  refine mx_al0 d_Pe_addHost_16 ?_
  refine mx_getI d_Pe_addHost_17 fl_Pe_9 (by assumption) ?_
  refine mx_ti (y := nI (n)) ((by simp [mx_up, hn])) ?_
  refine mx_il2 d_Pe_addHost_20 ?_
  refine mx_cSN3v d_Pe_addHost_21 (c_put (k := n) (by assumption) (by omega) (by omega)) ok_Vh_put ml_Pe_44 (by decide) (Nat.le_of_ble_eq_true rfl) ?_
  refine mx_al0 d_Pe_addHost_24 ?_
  refine mx_dup d_Pe_addHost_25 rfl ?_
  refine mx_getI d_Pe_addHost_26 fl_Pe_9 (by assumption) ?_
  refine mx_ti (y := nI (n)) ((by simp [mx_up, hn])) ?_
  refine mx_in_1 d_Pe_addHost_29 ?_
  refine mx_iaddN d_Pe_addHost_30 ?_
  refine mx_putI d_Pe_addHost_31 fl_Pe_9 (by assumption) ?_
  exact mx_vret d_Pe_addHost_34 rfl (mx_rv_of rfl)
theorem c_Pe_addGuest (hPe : pe_ok S P pe) (hn : I pe 1 = nI n) (hn8 : n < 8)  : mx_C l E M_Pe_addGuest 1 0 0 [.ref (pe), .int (v), .int (w), .int (u)] (t, S, I, P, J) (mx_rv (t, S, mx_up (mx_up (mx_up (mx_up I (pe + 3) n v) (pe + 4) n w) (pe + 5) n u) pe 1 (nI (n + 1)), P, J)) := by
  obtain ⟨hA0, hA1, hA2, hA3, hA4, hA5, hA6, hA7, hB1, hB2, hB3, hB4, hB5, hB6, hB7⟩ := id hPe
  refine mx_C_of (ls0 := [some (.ref (pe)), some (.int (v)), some (.int (w)), some (.int (u))]) (by decide +kernel) rfl rfl (Nat.le_of_ble_eq_true rfl) rfl ?_
  refine mx_al0 d_Pe_addGuest_0 ?_
  refine mx_getR d_Pe_addGuest_1 fl_Pe_25 (by assumption) (by assumption) ?_
  refine mx_al0 d_Pe_addGuest_4 ?_
  refine mx_getI d_Pe_addGuest_5 fl_Pe_15 (by assumption) ?_
  refine mx_ti (y := nI (n)) (hn) ?_
  refine mx_il1 d_Pe_addGuest_8 ?_
  refine mx_cSN3v d_Pe_addGuest_9 (c_put (k := n) (by assumption) (by omega) (by omega)) ok_Vh_put ml_Pe_44 (by decide) (Nat.le_of_ble_eq_true rfl) ?_
  refine mx_al0 d_Pe_addGuest_12 ?_
  refine mx_getR d_Pe_addGuest_13 fl_Pe_28 (by assumption) (by assumption) ?_
  refine mx_al0 d_Pe_addGuest_16 ?_
  refine mx_getI d_Pe_addGuest_17 fl_Pe_15 (by assumption) ?_
  refine mx_ti (y := nI (n)) ((by simp [mx_up, hn])) ?_
  refine mx_il2 d_Pe_addGuest_20 ?_
  refine mx_cSN3v d_Pe_addGuest_21 (c_put (k := n) (by assumption) (by omega) (by omega)) ok_Vh_put ml_Pe_44 (by decide) (Nat.le_of_ble_eq_true rfl) ?_
  refine mx_al0 d_Pe_addGuest_24 ?_
  refine mx_getR d_Pe_addGuest_25 fl_Pe_31 (by assumption) (by assumption) ?_
  refine mx_al0 d_Pe_addGuest_28 ?_
  refine mx_getI d_Pe_addGuest_29 fl_Pe_15 (by assumption) ?_
  refine mx_ti (y := nI (n)) ((by simp [mx_up, hn])) ?_
  refine mx_il3 d_Pe_addGuest_32 ?_
  refine mx_cSN3v d_Pe_addGuest_33 (c_put (k := n) (by assumption) (by omega) (by omega)) ok_Vh_put ml_Pe_44 (by decide) (Nat.le_of_ble_eq_true rfl) ?_
  refine mx_al0 d_Pe_addGuest_36 ?_
  refine mx_dup d_Pe_addGuest_37 rfl ?_
  refine mx_getI d_Pe_addGuest_38 fl_Pe_15 (by assumption) ?_
  refine mx_ti (y := nI (n)) ((by simp [mx_up, hn])) ?_
  refine mx_in_1 d_Pe_addGuest_41 ?_
  refine mx_iaddN d_Pe_addGuest_42 ?_
  refine mx_putI d_Pe_addGuest_43 fl_Pe_15 (by assumption) ?_
  exact mx_vret d_Pe_addGuest_46 rfl (mx_rv_of rfl)
theorem c_Gr_host (hGr : gx_ok S P gr te dr) (hSt : st_ok S P dr) (hTe : te_ok S P te) {s : gg_S} (hs0 : go_s I I dr te f L c s) (hk10 : tK f L c = 10) (h8 : s.1 < 8)  : mx_C l E M_Gr_readHost 4 0 0 [.ref (gr)] (t, S, I, P, J) (mx_sR (some (.int (bI (gq_ok (gg_host (tK f L) (tV f L) s c))))) t S P J (fun K => go_out I K dr te f L (gg_host (tK f L) (tV f L) s c))) := by
  obtain ⟨hG0, hG1, hG2, hG3, hG4⟩ := id hGr
  obtain ⟨hC0, hC1, hC2, hC3, hC4, hC5, hC6, hD1, hD2, hD3, hD4, hPe, hLo⟩ := id hSt
  obtain ⟨hA0, hA1, hA2, hA3, hA4, hA5, hA6, hA7, hB1, hB2, hB3, hB4, hB5, hB6, hB7⟩ := id hPe
  obtain ⟨hT0, hT1, hT2, hT3, hT4, hT5, hT6, hT7, hT8, hT9, hT10⟩ := id hTe
  have hd : te + 6 ≤ dr := by omega
  have hs := hs0
  have hL9 := hs0.2.2.1.1.2.2
  have hTL := tq_n_le f L
  have hk36 := tq_k_lt f L (tq_b f L c)
  refine mx_C_of (ls0 := [some (.ref (gr)), none, none]) (by decide +kernel) rfl rfl (Nat.le_of_ble_eq_true rfl) rfl ?_
  refine mx_al0 d_Gr_readHost_0 ?_
  refine mx_getR d_Gr_readHost_1 fl_Gr_9 (by assumption) (by assumption) ?_
  refine mx_cV0vR d_Gr_readHost_4 (c_Te_nextR hTe hs.tok hs.cu (tK_T (by rw [hk10]; omega))) ok_Te_next ml_Gr_73 (by assumption) ⟨rfl, rfl⟩ (by decide) (Nat.le_of_ble_eq_true rfl) (fun K1 hK1 => ?_)
  have hs := hs.tk hK1 hd
  refine mx_al0 d_Gr_readHost_7 ?_
  refine mx_getR d_Gr_readHost_8 fl_Gr_9 (by assumption) (by assumption) ?_
  refine mx_bip 19 d_Gr_readHost_11 (by decide) ?_
  refine mx_cV1iR d_Gr_readHost_13 (c_Te_takes hTe hs.tok hs.cu (w := 19) (by omega) (by omega)) ok_Te_takes ml_Gr_38 (by assumption) ⟨rfl, rfl⟩ (by decide) (Nat.le_of_ble_eq_true rfl) (fun K2 hK2 => ?_)
  refine mx_ifB_ne 21 d_Gr_readHost_16 (by decide) (fun c_16 => ?_) (fun c_16 => ?_)
  · skip
    have hk19 : tK f L (c + 1) = 19 := Decidable.byContradiction (fun z => by rw [gq_tk_n z] at c_16; cases c_16)
    rw [gq_tk_y hk19] at hK2
    have hs := hs.tk hK2 hd
    refine mx_al0 d_Gr_readHost_21 ?_
    refine mx_getR d_Gr_readHost_22 fl_Gr_9 (by assumption) (by assumption) ?_
    refine mx_in_0 d_Gr_readHost_25 ?_
    refine mx_bip 9 d_Gr_readHost_26 (by decide) ?_
    refine mx_cV2iR d_Gr_readHost_28 (c_Te_number hTe hs.tok hs.cu (lo := 0) (hb := 10) (by omega) (fun v hv => hle9 v (by omega))) ok_Te_number ml_Gr_76 (by assumption) ⟨rfl, rfl⟩ (by decide) (Nat.le_of_ble_eq_true rfl) (fun K3 hK3 => ?_)
    refine mx_is1 d_Gr_readHost_31 ?_
    refine mx_il1 d_Gr_readHost_32 ?_
    refine mx_ic_m1 d_Gr_readHost_33 ?_
    refine mx_icmp_ne 41 d_Gr_readHost_34 (by decide) (fun c_34 => ?_) (fun c_34 => ?_)
    · skip
      obtain ⟨p, hnp, hvp⟩ := gq_vl_y c_34
      rw [hnp] at hK3
      have hK3 : tk_out _ K3 te f L (.inr p.2) := hK3
      have hs := hs.tk hK3 hd
      have hgp := (gq_num_go (tK0 rfl)).1 p hnp
      have ha1 := (if_pos hk19 : gq_aft (tK f L) (tV f L) 19 0 10 (c + 1) = _).trans hnp
      refine mx_al0 d_Gr_readHost_41 ?_
      refine mx_cV0iR d_Gr_readHost_42 (c_Gr_hours hGr hSt hTe hs.self) ok_Gr_readHours ml_Gr_80 (by assumption) ⟨rfl, rfl⟩ (by decide) (Nat.le_of_ble_eq_true rfl) (fun K4 hK4 => ?_)
      refine mx_is2 d_Gr_readHost_45 ?_
      refine mx_il2 d_Gr_readHost_46 ?_
      refine mx_ic_m1 d_Gr_readHost_47 ?_
      refine mx_icmp_ne 53 d_Gr_readHost_48 (by decide) (fun c_48 => ?_) (fun c_48 => ?_)
      · skip
        obtain ⟨q, hnq, hvq⟩ := gg_hv_y c_48
        rw [hnq] at hK4
        have hs9 : go_s _ K4 dr te f L q.2 s := hK4
        have hs := hs.tr hs9
        have hgq := gg_hrs_go hnq
        have hq9 : gg_host (tK f L) (tV f L) s c = _ := gg_host_3 ha1 hnq
        refine mx_al0 d_Gr_readHost_53 ?_
        refine mx_getR d_Gr_readHost_54 fl_Gr_15 (by assumption) (by assumption) ?_
        refine mx_getR d_Gr_readHost_57 fl_Gr_45 (by assumption) (by assumption) ?_
        refine mx_il1 d_Gr_readHost_60 ?_
        refine mx_il2 d_Gr_readHost_61 ?_
        refine mx_cV2v d_Gr_readHost_62 (c_Pe_addHost hPe (n := s.1) (hs.st.1.1.trans hs.2.2.2.2.2.1) h8) ok_Pe_addHost ml_Gr_84 (by assumption) ⟨rfl, rfl⟩ (by decide) (Nat.le_of_ble_eq_true rfl) ?_
        refine mx_in_1 d_Gr_readHost_65 ?_
        exact mx_zret d_Gr_readHost_66 rfl (by first | exact Or.inl rfl | exact Or.inr rfl) (mx_sR_i (by rw [hq9]; rfl) (by rw [hq9, hvp, hvq]; exact go_host hs hd h8))
      · skip
        obtain ⟨e0, hh0⟩ := gg_hv_n c_48
        rw [hh0] at hK4
        have hbad : go_bad _ K4 dr te f L e0 := hK4
        have hbad := hs.trb hbad
        have hq9 : gg_host (tK f L) (tV f L) s c = .inl e0 := gg_host_2 ha1 hh0
        refine mx_in_0 d_Gr_readHost_51 ?_
        exact mx_zret d_Gr_readHost_52 rfl (by first | exact Or.inl rfl | exact Or.inr rfl) (mx_sR_i (by rw [hq9]; rfl) (by rw [hq9]; exact hbad))
    · skip
      obtain ⟨e0, hn0⟩ := gq_vl_n c_34 (fun q hq => by have := ((gq_num_go (tK0 rfl)).1 q hq).2.2.1; omega)
      rw [hn0] at hK3
      have hK3 : tk_out _ K3 te f L (.inl e0) := hK3
      have hq9 : gg_host (tK f L) (tV f L) s c = .inl e0 := gg_host_1 ((if_pos hk19 : gq_aft (tK f L) (tV f L) 19 0 10 (c + 1) = _).trans hn0)
      refine mx_ic_m1 d_Gr_readHost_37 ?_
      refine mx_goto 45 d_Gr_readHost_38 (by decide) ?_
      refine mx_is2 d_Gr_readHost_45 ?_
      refine mx_il2 d_Gr_readHost_46 ?_
      refine mx_ic_m1 d_Gr_readHost_47 ?_
      refine mx_icmp_ne 53 d_Gr_readHost_48 (by decide) (fun c_48 => absurd c_48 (fun z => z rfl)) (fun c_48 => ?_)
      refine mx_in_0 d_Gr_readHost_51 ?_
      exact mx_zret d_Gr_readHost_52 rfl (by first | exact Or.inl rfl | exact Or.inr rfl) (mx_sR_i (by rw [hq9]; rfl) (by rw [hq9]; exact hs.bad hK3 hd))
  · skip
    have hk19 : ¬ tK f L (c + 1) = 19 := fun z => by rw [gq_tk_y z] at c_16; cases c_16
    rw [gq_tk_n hk19] at hK2
    have hq9 : gg_host (tK f L) (tV f L) s c = .inl (c + 1) := gg_host_1 (if_neg hk19)
    refine mx_in_0 d_Gr_readHost_19 ?_
    exact mx_zret d_Gr_readHost_20 rfl (by first | exact Or.inl rfl | exact Or.inr rfl) (mx_sR_i (by rw [hq9]; rfl) (by rw [hq9]; exact hs.bad hK2 hd))
theorem gq_let_go {q : Nat × Nat} (h : gq_let (tK f L) (tV f L) c = .inr q) : q.2 = c + 1 ∧ q.1 < 64 ∧ tV f L c = some q.1 ∧ 9 ≤ tK f L c := by
  unfold gq_let at h
  split at h
  · rename_i h9
    cases hv : tV f L c with
    | none => rw [hv] at h; cases h
    | some v =>
      rw [hv] at h
      cases h
      refine ⟨rfl, ?_, rfl, h9⟩
      obtain ⟨g1, g2⟩ := tq_k9.mp h9
      have hv : tq_v f L (tq_b f L c) = some v := hv
      unfold tq_v at hv
      rw [if_pos g1, if_pos g2] at hv
      exact tq_ms_lt _ _ hv
  · cases h
theorem c_Gr_guest (hGr : gx_ok S P gr te dr) (hSt : st_ok S P dr) (hTe : te_ok S P te) {s : gg_S} (hs0 : go_s I I dr te f L c s) (hk11 : tK f L c = 11) (h8 : s.2.1 < 8)  : mx_C l E M_Gr_readGuest 4 0 0 [.ref (gr)] (t, S, I, P, J) (mx_sR (some (.int (bI (gq_ok (gg_guest (tK f L) (tV f L) s c))))) t S P J (fun K => go_out I K dr te f L (gg_guest (tK f L) (tV f L) s c))) := by
  obtain ⟨hG0, hG1, hG2, hG3, hG4⟩ := id hGr
  obtain ⟨hC0, hC1, hC2, hC3, hC4, hC5, hC6, hD1, hD2, hD3, hD4, hPe, hLo⟩ := id hSt
  obtain ⟨hA0, hA1, hA2, hA3, hA4, hA5, hA6, hA7, hB1, hB2, hB3, hB4, hB5, hB6, hB7⟩ := id hPe
  obtain ⟨hT0, hT1, hT2, hT3, hT4, hT5, hT6, hT7, hT8, hT9, hT10⟩ := id hTe
  have hd : te + 6 ≤ dr := by omega
  have hs := hs0
  have hL9 := hs0.2.2.1.1.2.2
  have hTL := tq_n_le f L
  have hk36 := tq_k_lt f L (tq_b f L c)
  refine mx_C_of (ls0 := [some (.ref (gr)), none, none, none]) (by decide +kernel) rfl rfl (Nat.le_of_ble_eq_true rfl) rfl ?_
  refine mx_al0 d_Gr_readGuest_0 ?_
  refine mx_getR d_Gr_readGuest_1 fl_Gr_9 (by assumption) (by assumption) ?_
  refine mx_cV0vR d_Gr_readGuest_4 (c_Te_nextR hTe hs.tok hs.cu (tK_T (by rw [hk11]; omega))) ok_Te_next ml_Gr_73 (by assumption) ⟨rfl, rfl⟩ (by decide) (Nat.le_of_ble_eq_true rfl) (fun K1 hK1 => ?_)
  have hs := hs.tk hK1 hd
  refine mx_al0 d_Gr_readGuest_7 ?_
  refine mx_getR d_Gr_readGuest_8 fl_Gr_9 (by assumption) (by assumption) ?_
  refine mx_bip 22 d_Gr_readGuest_11 (by decide) ?_
  refine mx_cV1iR d_Gr_readGuest_13 (c_Te_takes hTe hs.tok hs.cu (w := 22) (by omega) (by omega)) ok_Te_takes ml_Gr_38 (by assumption) ⟨rfl, rfl⟩ (by decide) (Nat.le_of_ble_eq_true rfl) (fun K2 hK2 => ?_)
  refine mx_ifB_ne 21 d_Gr_readGuest_16 (by decide) (fun c_16 => ?_) (fun c_16 => ?_)
  · skip
    have hk22 : tK f L (c + 1) = 22 := Decidable.byContradiction (fun z => by rw [gq_tk_n z] at c_16; cases c_16)
    rw [gq_tk_y hk22] at hK2
    have hs := hs.tk hK2 hd
    refine mx_al0 d_Gr_readGuest_21 ?_
    refine mx_getR d_Gr_readGuest_22 fl_Gr_9 (by assumption) (by assumption) ?_
    refine mx_in_1 d_Gr_readGuest_25 ?_
    refine mx_in_4 d_Gr_readGuest_26 ?_
    refine mx_cV2iR d_Gr_readGuest_27 (c_Te_number hTe hs.tok hs.cu (lo := 1) (hb := 5) (by omega) (fun v hv => hle4 v (by omega))) ok_Te_number ml_Gr_76 (by assumption) ⟨rfl, rfl⟩ (by decide) (Nat.le_of_ble_eq_true rfl) (fun K3 hK3 => ?_)
    refine mx_is1 d_Gr_readGuest_30 ?_
    refine mx_il1 d_Gr_readGuest_31 ?_
    refine mx_ic_m1 d_Gr_readGuest_32 ?_
    refine mx_icmp_ne 40 d_Gr_readGuest_33 (by decide) (fun c_33 => ?_) (fun c_33 => ?_)
    · skip
      obtain ⟨p, hnp, hvp⟩ := gq_vl_y c_33
      rw [hnp] at hK3
      have hK3 : tk_out _ K3 te f L (.inr p.2) := hK3
      have hs := hs.tk hK3 hd
      have hgp := (gq_num_go (tK0 rfl)).1 p hnp
      have ha1 := (if_pos hk22 : gq_aft (tK f L) (tV f L) 22 1 5 (c + 1) = _).trans hnp
      refine mx_al0 d_Gr_readGuest_40 ?_
      refine mx_cV0iR d_Gr_readGuest_41 (c_Gr_hours hGr hSt hTe hs.self) ok_Gr_readHours ml_Gr_80 (by assumption) ⟨rfl, rfl⟩ (by decide) (Nat.le_of_ble_eq_true rfl) (fun K4 hK4 => ?_)
      refine mx_is2 d_Gr_readGuest_44 ?_
      refine mx_il2 d_Gr_readGuest_45 ?_
      refine mx_ic_m1 d_Gr_readGuest_46 ?_
      refine mx_icmp_ne 52 d_Gr_readGuest_47 (by decide) (fun c_47 => ?_) (fun c_47 => ?_)
      · skip
        obtain ⟨q, hnq, hvq⟩ := gg_hv_y c_47
        rw [hnq] at hK4
        have hs9 : go_s _ K4 dr te f L q.2 s := hK4
        have hs := hs.tr hs9
        have hgq := gg_hrs_go hnq
        have hk37 := tq_k_lt f L (tq_b f L q.2)
        refine mx_in_0 d_Gr_readGuest_52 ?_
        refine mx_is3 d_Gr_readGuest_53 ?_
        refine mx_al0 d_Gr_readGuest_54 ?_
        refine mx_getR d_Gr_readGuest_55 fl_Gr_9 (by assumption) (by assumption) ?_
        refine mx_getI d_Gr_readGuest_58 fl_Gr_30 (by assumption) ?_
        refine mx_ti (y := nI (tq_k f L (tq_b f L q.2))) (hs.cu.2.1) ?_
        refine mx_bip 23 d_Gr_readGuest_61 (by decide) ?_
        refine mx_icN_ne 81 d_Gr_readGuest_63 (by decide) (by omega) (by omega) (fun c_63 => ?_) (fun c_63 => ?_)
        · skip
          obtain ⟨r, hr0⟩ : ∃ r : Nat × Nat, r = (0, q.2) := ⟨_, rfl⟩
          have hmk : gg_mk (tK f L) (tV f L) q.2 = .inr r := (if_neg c_63).trans (congrArg Sum.inr hr0.symm)
          have hvr : nI 0 = nI r.1 := by rw [hr0]
          have e8 : q.2 = r.2 := by rw [hr0]
          rw [e8] at hs
          have hq9 : gg_guest (tK f L) (tV f L) s c = _ := gg_guest_4 ha1 hnq hmk
          refine mx_il3 d_Gr_readGuest_81 ?_
          refine mx_ic_m1 d_Gr_readGuest_82 ?_
          refine mx_icmp_ne 88 d_Gr_readGuest_83 (by decide) (fun c_83 => ?_) (fun c_83 => absurd c_83 (by decide))
          refine mx_al0 d_Gr_readGuest_88 ?_
          refine mx_getR d_Gr_readGuest_89 fl_Gr_15 (by assumption) (by assumption) ?_
          refine mx_getR d_Gr_readGuest_92 fl_Gr_45 (by assumption) (by assumption) ?_
          refine mx_il1 d_Gr_readGuest_95 ?_
          refine mx_il2 d_Gr_readGuest_96 ?_
          refine mx_il3 d_Gr_readGuest_97 ?_
          refine mx_cV3v d_Gr_readGuest_98 (c_Pe_addGuest hPe (n := s.2.1) (hs.st.1.2.1.trans hs.2.2.2.2.2.2.1) h8) ok_Pe_addGuest ml_Gr_91 (by assumption) ⟨rfl, rfl⟩ (by decide) (Nat.le_of_ble_eq_true rfl) ?_
          refine mx_in_1 d_Gr_readGuest_101 ?_
          exact mx_zret d_Gr_readGuest_102 rfl (by first | exact Or.inl rfl | exact Or.inr rfl) (mx_sR_i (by rw [hq9]; rfl) (by rw [hq9, hvp, hvq, hvr]; exact go_guest hs hd h8))
        · skip
          refine mx_al0 d_Gr_readGuest_66 ?_
          refine mx_getR d_Gr_readGuest_67 fl_Gr_9 (by assumption) (by assumption) ?_
          refine mx_cV0vR d_Gr_readGuest_70 (c_Te_nextR hTe hs.tok hs.cu (tK_T (by rw [show tK f L q.2 = 23 from c_63]; omega))) ok_Te_next ml_Gr_73 (by assumption) ⟨rfl, rfl⟩ (by decide) (Nat.le_of_ble_eq_true rfl) (fun K5 hK5 => ?_)
          have hs := hs.tk hK5 hd
          refine mx_al0 d_Gr_readGuest_73 ?_
          refine mx_getR d_Gr_readGuest_74 fl_Gr_9 (by assumption) (by assumption) ?_
          refine mx_cV0iR d_Gr_readGuest_77 (c_Te_letters hTe hs.tok hs.cu) ok_Te_letters ml_Gr_88 (by assumption) ⟨rfl, rfl⟩ (by decide) (Nat.le_of_ble_eq_true rfl) (fun K6 hK6 => ?_)
          refine mx_is3 d_Gr_readGuest_80 ?_
          refine mx_il3 d_Gr_readGuest_81 ?_
          refine mx_ic_m1 d_Gr_readGuest_82 ?_
          refine mx_icmp_ne 88 d_Gr_readGuest_83 (by decide) (fun c_83 => ?_) (fun c_83 => ?_)
          · skip
            obtain ⟨r, hnr, hvr⟩ := gq_vl_y c_83
            rw [hnr] at hK6
            have hK6 : tk_out _ K6 te f L (.inr r.2) := hK6
            have hs := hs.tk hK6 hd
            have hq9 : gg_guest (tK f L) (tV f L) s c = _ := gg_guest_4 ha1 hnq ((if_pos c_63).trans hnr)
            refine mx_al0 d_Gr_readGuest_88 ?_
            refine mx_getR d_Gr_readGuest_89 fl_Gr_15 (by assumption) (by assumption) ?_
            refine mx_getR d_Gr_readGuest_92 fl_Gr_45 (by assumption) (by assumption) ?_
            refine mx_il1 d_Gr_readGuest_95 ?_
            refine mx_il2 d_Gr_readGuest_96 ?_
            refine mx_il3 d_Gr_readGuest_97 ?_
            refine mx_cV3v d_Gr_readGuest_98 (c_Pe_addGuest hPe (n := s.2.1) (hs.st.1.2.1.trans hs.2.2.2.2.2.2.1) h8) ok_Pe_addGuest ml_Gr_91 (by assumption) ⟨rfl, rfl⟩ (by decide) (Nat.le_of_ble_eq_true rfl) ?_
            refine mx_in_1 d_Gr_readGuest_101 ?_
            exact mx_zret d_Gr_readGuest_102 rfl (by first | exact Or.inl rfl | exact Or.inr rfl) (mx_sR_i (by rw [hq9]; rfl) (by rw [hq9, hvp, hvq, hvr]; exact go_guest hs hd h8))
          · skip
            obtain ⟨e0, hn0⟩ := gq_vl_n c_83 (fun q hq => by have := (gq_let_go hq).2.1; omega)
            rw [hn0] at hK6
            have hK6 : tk_out _ K6 te f L (.inl e0) := hK6
            have hq9 : gg_guest (tK f L) (tV f L) s c = .inl e0 := gg_guest_3 ha1 hnq ((if_pos c_63).trans hn0)
            refine mx_in_0 d_Gr_readGuest_86 ?_
            exact mx_zret d_Gr_readGuest_87 rfl (by first | exact Or.inl rfl | exact Or.inr rfl) (mx_sR_i (by rw [hq9]; rfl) (by rw [hq9]; exact hs.bad hK6 hd))
      · skip
        obtain ⟨e0, hh0⟩ := gg_hv_n c_47
        rw [hh0] at hK4
        have hbad : go_bad _ K4 dr te f L e0 := hK4
        have hbad := hs.trb hbad
        have hq9 : gg_guest (tK f L) (tV f L) s c = .inl e0 := gg_guest_2 ha1 hh0
        refine mx_in_0 d_Gr_readGuest_50 ?_
        exact mx_zret d_Gr_readGuest_51 rfl (by first | exact Or.inl rfl | exact Or.inr rfl) (mx_sR_i (by rw [hq9]; rfl) (by rw [hq9]; exact hbad))
    · skip
      obtain ⟨e0, hn0⟩ := gq_vl_n c_33 (fun q hq => by have := ((gq_num_go (tK0 rfl)).1 q hq).2.2.1; omega)
      rw [hn0] at hK3
      have hK3 : tk_out _ K3 te f L (.inl e0) := hK3
      have hq9 : gg_guest (tK f L) (tV f L) s c = .inl e0 := gg_guest_1 ((if_pos hk22 : gq_aft (tK f L) (tV f L) 22 1 5 (c + 1) = _).trans hn0)
      refine mx_ic_m1 d_Gr_readGuest_36 ?_
      refine mx_goto 44 d_Gr_readGuest_37 (by decide) ?_
      refine mx_is2 d_Gr_readGuest_44 ?_
      refine mx_il2 d_Gr_readGuest_45 ?_
      refine mx_ic_m1 d_Gr_readGuest_46 ?_
      refine mx_icmp_ne 52 d_Gr_readGuest_47 (by decide) (fun c_47 => absurd c_47 (fun z => z rfl)) (fun c_47 => ?_)
      refine mx_in_0 d_Gr_readGuest_50 ?_
      exact mx_zret d_Gr_readGuest_51 rfl (by first | exact Or.inl rfl | exact Or.inr rfl) (mx_sR_i (by rw [hq9]; rfl) (by rw [hq9]; exact hs.bad hK3 hd))
  · skip
    have hk22 : ¬ tK f L (c + 1) = 22 := fun z => by rw [gq_tk_y z] at c_16; cases c_16
    rw [gq_tk_n hk22] at hK2
    have hq9 : gg_guest (tK f L) (tV f L) s c = .inl (c + 1) := gg_guest_1 (if_neg hk22)
    refine mx_in_0 d_Gr_readGuest_19 ?_
    exact mx_zret d_Gr_readGuest_20 rfl (by first | exact Or.inl rfl | exact Or.inr rfl) (mx_sR_i (by rw [hq9]; rfl) (by rw [hq9]; exact hs.bad hK2 hd))
theorem c_Gr_numRain (hGr : gx_ok S P gr te dr) (hSt : st_ok S P dr) (hTe : te_ok S P te) {s : gg_S} (hs0 : go_s I I dr te f L c s) (hk0 : ¬ tK f L c = 0)  : mx_C l E M_Gr_readNumber 2 0 0 [.ref (gr), .int (nI (26))] (t, S, I, P, J) (mx_sR (some (.int (bI (gq_ok (gg_fld 5 s (gq_num (tK f L) (tV f L) 0 101 (c + 1))))))) t S P J (fun K => go_out I K dr te f L (gg_fld 5 s (gq_num (tK f L) (tV f L) 0 101 (c + 1))))) := by
  obtain ⟨hG0, hG1, hG2, hG3, hG4⟩ := id hGr
  obtain ⟨hC0, hC1, hC2, hC3, hC4, hC5, hC6, hD1, hD2, hD3, hD4, hPe, hLo⟩ := id hSt
  obtain ⟨hA0, hA1, hA2, hA3, hA4, hA5, hA6, hA7, hB1, hB2, hB3, hB4, hB5, hB6, hB7⟩ := id hPe
  obtain ⟨hT0, hT1, hT2, hT3, hT4, hT5, hT6, hT7, hT8, hT9, hT10⟩ := id hTe
  have hd : te + 6 ≤ dr := by omega
  have hs := hs0
  have hL9 := hs0.2.2.1.1.2.2
  have hTL := tq_n_le f L
  have hk36 := tq_k_lt f L (tq_b f L c)
  refine mx_C_of (ls0 := [some (.ref (gr)), some (.int (nI (26))), none]) (by decide +kernel) rfl rfl (Nat.le_of_ble_eq_true rfl) rfl ?_
  refine mx_al0 d_Gr_readNumber_0 ?_
  refine mx_getR d_Gr_readNumber_1 fl_Gr_9 (by assumption) (by assumption) ?_
  refine mx_cV0vR d_Gr_readNumber_4 (c_Te_nextR hTe hs.tok hs.cu (tK_T hk0)) ok_Te_next ml_Gr_73 (by assumption) ⟨rfl, rfl⟩ (by decide) (Nat.le_of_ble_eq_true rfl) (fun K1 hK1 => ?_)
  have hs := hs.tk hK1 hd
  refine mx_al0 d_Gr_readNumber_7 ?_
  refine mx_getR d_Gr_readNumber_8 fl_Gr_9 (by assumption) (by assumption) ?_
  refine mx_in_0 d_Gr_readNumber_11 ?_
  refine mx_il1 d_Gr_readNumber_12 ?_
  refine mx_bip 26 d_Gr_readNumber_13 (by decide) ?_
  refine mx_icN_ne 23 d_Gr_readNumber_15 (by decide) (by omega) (by omega) (fun c_15 => absurd c_15 (by omega)) (fun c_15 => ?_)
  refine mx_bip 100 d_Gr_readNumber_18 (by decide) ?_
  refine mx_goto 26 d_Gr_readNumber_20 (by decide) ?_
  refine mx_cV2iR d_Gr_readNumber_26 (c_Te_number hTe hs.tok hs.cu (lo := 0) (hb := 101) (by omega) (fun v hv => hle100 v (by omega))) ok_Te_number ml_Gr_76 (by assumption) ⟨rfl, rfl⟩ (by decide) (Nat.le_of_ble_eq_true rfl) (fun K2 hK2 => ?_)
  refine mx_is2 d_Gr_readNumber_29 ?_
  refine mx_il2 d_Gr_readNumber_30 ?_
  refine mx_ic_m1 d_Gr_readNumber_31 ?_
  refine mx_icmp_ne 37 d_Gr_readNumber_32 (by decide) (fun c_32 => ?_) (fun c_32 => ?_)
  · skip
    obtain ⟨p, hnp, hvp⟩ := gq_vl_y c_32
    rw [hnp] at hK2
    have hK2 : tk_out _ K2 te f L (.inr p.2) := hK2
    have hs := hs.tk hK2 hd
    have hgp := (gq_num_go (tK0 rfl)).1 p hnp
    have hq9 : gg_fld 5 s (gq_num (tK f L) (tV f L) 0 101 (c + 1)) = .inr ((s.1, s.2.1, updI s.2.2 5 (nI p.1)), p.2) := by rw [hnp]; rfl
    refine mx_il1 d_Gr_readNumber_37 ?_
    refine mx_bip 26 d_Gr_readNumber_38 (by decide) ?_
    refine mx_icN_ne 54 d_Gr_readNumber_40 (by decide) (by omega) (by omega) (fun c_40 => absurd c_40 (by omega)) (fun c_40 => ?_)
    refine mx_al0 d_Gr_readNumber_43 ?_
    refine mx_getR d_Gr_readNumber_44 fl_Gr_15 (by assumption) (by assumption) ?_
    refine mx_il2 d_Gr_readNumber_47 ?_
    refine mx_putI d_Gr_readNumber_48 fl_Gr_111 (by assumption) ?_
    refine mx_goto 62 d_Gr_readNumber_51 (by decide) ?_
    refine mx_in_1 d_Gr_readNumber_62 ?_
    exact mx_zret d_Gr_readNumber_63 rfl (by first | exact Or.inl rfl | exact Or.inr rfl) (mx_sR_i (by rw [hq9]; rfl) (by rw [hq9, hvp]; exact go_fld hs hd (by omega)))
  · skip
    obtain ⟨e0, hn0⟩ := gq_vl_n c_32 (fun q hq => by have := ((gq_num_go (tK0 rfl)).1 q hq).2.2.1; omega)
    rw [hn0] at hK2
    have hK2 : tk_out _ K2 te f L (.inl e0) := hK2
    have hq9 : gg_fld 5 s (gq_num (tK f L) (tV f L) 0 101 (c + 1)) = .inl e0 := by rw [hn0]; rfl
    refine mx_in_0 d_Gr_readNumber_35 ?_
    exact mx_zret d_Gr_readNumber_36 rfl (by first | exact Or.inl rfl | exact Or.inr rfl) (mx_sR_i (by rw [hq9]; rfl) (by rw [hq9]; exact hs.bad hK2 hd))
theorem c_Gr_numWeek (hGr : gx_ok S P gr te dr) (hSt : st_ok S P dr) (hTe : te_ok S P te) {s : gg_S} (hs0 : go_s I I dr te f L c s) (hk0 : ¬ tK f L c = 0)  : mx_C l E M_Gr_readNumber 2 0 0 [.ref (gr), .int (nI (16))] (t, S, I, P, J) (mx_sR (some (.int (bI (gq_ok (gg_fld 6 s (gq_num (tK f L) (tV f L) 0 1000 (c + 1))))))) t S P J (fun K => go_out I K dr te f L (gg_fld 6 s (gq_num (tK f L) (tV f L) 0 1000 (c + 1))))) := by
  obtain ⟨hG0, hG1, hG2, hG3, hG4⟩ := id hGr
  obtain ⟨hC0, hC1, hC2, hC3, hC4, hC5, hC6, hD1, hD2, hD3, hD4, hPe, hLo⟩ := id hSt
  obtain ⟨hA0, hA1, hA2, hA3, hA4, hA5, hA6, hA7, hB1, hB2, hB3, hB4, hB5, hB6, hB7⟩ := id hPe
  obtain ⟨hT0, hT1, hT2, hT3, hT4, hT5, hT6, hT7, hT8, hT9, hT10⟩ := id hTe
  have hd : te + 6 ≤ dr := by omega
  have hs := hs0
  have hL9 := hs0.2.2.1.1.2.2
  have hTL := tq_n_le f L
  have hk36 := tq_k_lt f L (tq_b f L c)
  refine mx_C_of (ls0 := [some (.ref (gr)), some (.int (nI (16))), none]) (by decide +kernel) rfl rfl (Nat.le_of_ble_eq_true rfl) rfl ?_
  refine mx_al0 d_Gr_readNumber_0 ?_
  refine mx_getR d_Gr_readNumber_1 fl_Gr_9 (by assumption) (by assumption) ?_
  refine mx_cV0vR d_Gr_readNumber_4 (c_Te_nextR hTe hs.tok hs.cu (tK_T hk0)) ok_Te_next ml_Gr_73 (by assumption) ⟨rfl, rfl⟩ (by decide) (Nat.le_of_ble_eq_true rfl) (fun K1 hK1 => ?_)
  have hs := hs.tk hK1 hd
  refine mx_al0 d_Gr_readNumber_7 ?_
  refine mx_getR d_Gr_readNumber_8 fl_Gr_9 (by assumption) (by assumption) ?_
  refine mx_in_0 d_Gr_readNumber_11 ?_
  refine mx_il1 d_Gr_readNumber_12 ?_
  refine mx_bip 26 d_Gr_readNumber_13 (by decide) ?_
  refine mx_icN_ne 23 d_Gr_readNumber_15 (by decide) (by omega) (by omega) (fun c_15 => ?_) (fun c_15 => absurd c_15 (by omega))
  refine mx_sip 999 d_Gr_readNumber_23 (by decide) ?_
  refine mx_cV2iR d_Gr_readNumber_26 (c_Te_number hTe hs.tok hs.cu (lo := 0) (hb := 1000) (by omega) (fun v hv => h999 v (by omega))) ok_Te_number ml_Gr_76 (by assumption) ⟨rfl, rfl⟩ (by decide) (Nat.le_of_ble_eq_true rfl) (fun K2 hK2 => ?_)
  refine mx_is2 d_Gr_readNumber_29 ?_
  refine mx_il2 d_Gr_readNumber_30 ?_
  refine mx_ic_m1 d_Gr_readNumber_31 ?_
  refine mx_icmp_ne 37 d_Gr_readNumber_32 (by decide) (fun c_32 => ?_) (fun c_32 => ?_)
  · skip
    obtain ⟨p, hnp, hvp⟩ := gq_vl_y c_32
    rw [hnp] at hK2
    have hK2 : tk_out _ K2 te f L (.inr p.2) := hK2
    have hs := hs.tk hK2 hd
    have hgp := (gq_num_go (tK0 rfl)).1 p hnp
    have hq9 : gg_fld 6 s (gq_num (tK f L) (tV f L) 0 1000 (c + 1)) = .inr ((s.1, s.2.1, updI s.2.2 6 (nI p.1)), p.2) := by rw [hnp]; rfl
    refine mx_il1 d_Gr_readNumber_37 ?_
    refine mx_bip 26 d_Gr_readNumber_38 (by decide) ?_
    refine mx_icN_ne 54 d_Gr_readNumber_40 (by decide) (by omega) (by omega) (fun c_40 => ?_) (fun c_40 => absurd c_40 (by omega))
    refine mx_al0 d_Gr_readNumber_54 ?_
    refine mx_getR d_Gr_readNumber_55 fl_Gr_15 (by assumption) (by assumption) ?_
    refine mx_il2 d_Gr_readNumber_58 ?_
    refine mx_putI d_Gr_readNumber_59 fl_Gr_114 (by assumption) ?_
    refine mx_in_1 d_Gr_readNumber_62 ?_
    exact mx_zret d_Gr_readNumber_63 rfl (by first | exact Or.inl rfl | exact Or.inr rfl) (mx_sR_i (by rw [hq9]; rfl) (by rw [hq9, hvp]; exact go_fld hs hd (by omega)))
  · skip
    obtain ⟨e0, hn0⟩ := gq_vl_n c_32 (fun q hq => by have := ((gq_num_go (tK0 rfl)).1 q hq).2.2.1; omega)
    rw [hn0] at hK2
    have hK2 : tk_out _ K2 te f L (.inl e0) := hK2
    have hq9 : gg_fld 6 s (gq_num (tK f L) (tV f L) 0 1000 (c + 1)) = .inl e0 := by rw [hn0]; rfl
    refine mx_in_0 d_Gr_readNumber_35 ?_
    exact mx_zret d_Gr_readNumber_36 rfl (by first | exact Or.inl rfl | exact Or.inr rfl) (mx_sR_i (by rw [hq9]; rfl) (by rw [hq9]; exact hs.bad hK2 hd))
theorem c_Gr_gateMust (hGr : gx_ok S P gr te dr) (hSt : st_ok S P dr) (hTe : te_ok S P te) {s : gg_S} (hs0 : go_s I I dr te f L c s) (hk0 : ¬ tK f L c = 0)  : mx_C l E M_Gr_readGate 2 0 0 [.ref (gr), .int (nI (27))] (t, S, I, P, J) (mx_sR (some (.int (bI (gq_ok (gg_fld 7 s (gq_let (tK f L) (tV f L) (c + 1))))))) t S P J (fun K => go_out I K dr te f L (gg_fld 7 s (gq_let (tK f L) (tV f L) (c + 1))))) := by
  obtain ⟨hG0, hG1, hG2, hG3, hG4⟩ := id hGr
  obtain ⟨hC0, hC1, hC2, hC3, hC4, hC5, hC6, hD1, hD2, hD3, hD4, hPe, hLo⟩ := id hSt
  obtain ⟨hA0, hA1, hA2, hA3, hA4, hA5, hA6, hA7, hB1, hB2, hB3, hB4, hB5, hB6, hB7⟩ := id hPe
  obtain ⟨hT0, hT1, hT2, hT3, hT4, hT5, hT6, hT7, hT8, hT9, hT10⟩ := id hTe
  have hd : te + 6 ≤ dr := by omega
  have hs := hs0
  have hL9 := hs0.2.2.1.1.2.2
  have hTL := tq_n_le f L
  have hk36 := tq_k_lt f L (tq_b f L c)
  refine mx_C_of (ls0 := [some (.ref (gr)), some (.int (nI (27))), none]) (by decide +kernel) rfl rfl (Nat.le_of_ble_eq_true rfl) rfl ?_
  refine mx_al0 d_Gr_readGate_0 ?_
  refine mx_getR d_Gr_readGate_1 fl_Gr_9 (by assumption) (by assumption) ?_
  refine mx_cV0vR d_Gr_readGate_4 (c_Te_nextR hTe hs.tok hs.cu (tK_T hk0)) ok_Te_next ml_Gr_73 (by assumption) ⟨rfl, rfl⟩ (by decide) (Nat.le_of_ble_eq_true rfl) (fun K1 hK1 => ?_)
  have hs := hs.tk hK1 hd
  refine mx_al0 d_Gr_readGate_7 ?_
  refine mx_getR d_Gr_readGate_8 fl_Gr_9 (by assumption) (by assumption) ?_
  refine mx_cV0iR d_Gr_readGate_11 (c_Te_letters hTe hs.tok hs.cu) ok_Te_letters ml_Gr_88 (by assumption) ⟨rfl, rfl⟩ (by decide) (Nat.le_of_ble_eq_true rfl) (fun K2 hK2 => ?_)
  refine mx_is2 d_Gr_readGate_14 ?_
  refine mx_il2 d_Gr_readGate_15 ?_
  refine mx_ic_m1 d_Gr_readGate_16 ?_
  refine mx_icmp_ne 22 d_Gr_readGate_17 (by decide) (fun c_17 => ?_) (fun c_17 => ?_)
  · skip
    obtain ⟨p, hnp, hvp⟩ := gq_vl_y c_17
    rw [hnp] at hK2
    have hK2 : tk_out _ K2 te f L (.inr p.2) := hK2
    have hs := hs.tk hK2 hd
    have hq9 : gg_fld 7 s (gq_let (tK f L) (tV f L) (c + 1)) = .inr ((s.1, s.2.1, updI s.2.2 7 (nI p.1)), p.2) := by rw [hnp]; rfl
    refine mx_il1 d_Gr_readGate_22 ?_
    refine mx_bip 27 d_Gr_readGate_23 (by decide) ?_
    refine mx_icN_ne 39 d_Gr_readGate_25 (by decide) (by omega) (by omega) (fun c_25 => absurd c_25 (by omega)) (fun c_25 => ?_)
    refine mx_al0 d_Gr_readGate_28 ?_
    refine mx_getR d_Gr_readGate_29 fl_Gr_15 (by assumption) (by assumption) ?_
    refine mx_il2 d_Gr_readGate_32 ?_
    refine mx_putI d_Gr_readGate_33 fl_Gr_117 (by assumption) ?_
    refine mx_goto 47 d_Gr_readGate_36 (by decide) ?_
    refine mx_in_1 d_Gr_readGate_47 ?_
    exact mx_zret d_Gr_readGate_48 rfl (by first | exact Or.inl rfl | exact Or.inr rfl) (mx_sR_i (by rw [hq9]; rfl) (by rw [hq9, hvp]; exact go_fld hs hd (by omega)))
  · skip
    obtain ⟨e0, hn0⟩ := gq_vl_n c_17 (fun q hq => by have := (gq_let_go hq).2.1; omega)
    rw [hn0] at hK2
    have hK2 : tk_out _ K2 te f L (.inl e0) := hK2
    have hq9 : gg_fld 7 s (gq_let (tK f L) (tV f L) (c + 1)) = .inl e0 := by rw [hn0]; rfl
    refine mx_in_0 d_Gr_readGate_20 ?_
    exact mx_zret d_Gr_readGate_21 rfl (by first | exact Or.inl rfl | exact Or.inr rfl) (mx_sR_i (by rw [hq9]; rfl) (by rw [hq9]; exact hs.bad hK2 hd))
theorem c_Gr_gateNot (hGr : gx_ok S P gr te dr) (hSt : st_ok S P dr) (hTe : te_ok S P te) {s : gg_S} (hs0 : go_s I I dr te f L c s) (hk0 : ¬ tK f L c = 0)  : mx_C l E M_Gr_readGate 2 0 0 [.ref (gr), .int (nI (28))] (t, S, I, P, J) (mx_sR (some (.int (bI (gq_ok (gg_fld 8 s (gq_let (tK f L) (tV f L) (c + 1))))))) t S P J (fun K => go_out I K dr te f L (gg_fld 8 s (gq_let (tK f L) (tV f L) (c + 1))))) := by
  obtain ⟨hG0, hG1, hG2, hG3, hG4⟩ := id hGr
  obtain ⟨hC0, hC1, hC2, hC3, hC4, hC5, hC6, hD1, hD2, hD3, hD4, hPe, hLo⟩ := id hSt
  obtain ⟨hA0, hA1, hA2, hA3, hA4, hA5, hA6, hA7, hB1, hB2, hB3, hB4, hB5, hB6, hB7⟩ := id hPe
  obtain ⟨hT0, hT1, hT2, hT3, hT4, hT5, hT6, hT7, hT8, hT9, hT10⟩ := id hTe
  have hd : te + 6 ≤ dr := by omega
  have hs := hs0
  have hL9 := hs0.2.2.1.1.2.2
  have hTL := tq_n_le f L
  have hk36 := tq_k_lt f L (tq_b f L c)
  refine mx_C_of (ls0 := [some (.ref (gr)), some (.int (nI (28))), none]) (by decide +kernel) rfl rfl (Nat.le_of_ble_eq_true rfl) rfl ?_
  refine mx_al0 d_Gr_readGate_0 ?_
  refine mx_getR d_Gr_readGate_1 fl_Gr_9 (by assumption) (by assumption) ?_
  refine mx_cV0vR d_Gr_readGate_4 (c_Te_nextR hTe hs.tok hs.cu (tK_T hk0)) ok_Te_next ml_Gr_73 (by assumption) ⟨rfl, rfl⟩ (by decide) (Nat.le_of_ble_eq_true rfl) (fun K1 hK1 => ?_)
  have hs := hs.tk hK1 hd
  refine mx_al0 d_Gr_readGate_7 ?_
  refine mx_getR d_Gr_readGate_8 fl_Gr_9 (by assumption) (by assumption) ?_
  refine mx_cV0iR d_Gr_readGate_11 (c_Te_letters hTe hs.tok hs.cu) ok_Te_letters ml_Gr_88 (by assumption) ⟨rfl, rfl⟩ (by decide) (Nat.le_of_ble_eq_true rfl) (fun K2 hK2 => ?_)
  refine mx_is2 d_Gr_readGate_14 ?_
  refine mx_il2 d_Gr_readGate_15 ?_
  refine mx_ic_m1 d_Gr_readGate_16 ?_
  refine mx_icmp_ne 22 d_Gr_readGate_17 (by decide) (fun c_17 => ?_) (fun c_17 => ?_)
  · skip
    obtain ⟨p, hnp, hvp⟩ := gq_vl_y c_17
    rw [hnp] at hK2
    have hK2 : tk_out _ K2 te f L (.inr p.2) := hK2
    have hs := hs.tk hK2 hd
    have hq9 : gg_fld 8 s (gq_let (tK f L) (tV f L) (c + 1)) = .inr ((s.1, s.2.1, updI s.2.2 8 (nI p.1)), p.2) := by rw [hnp]; rfl
    refine mx_il1 d_Gr_readGate_22 ?_
    refine mx_bip 27 d_Gr_readGate_23 (by decide) ?_
    refine mx_icN_ne 39 d_Gr_readGate_25 (by decide) (by omega) (by omega) (fun c_25 => ?_) (fun c_25 => absurd c_25 (by omega))
    refine mx_al0 d_Gr_readGate_39 ?_
    refine mx_getR d_Gr_readGate_40 fl_Gr_15 (by assumption) (by assumption) ?_
    refine mx_il2 d_Gr_readGate_43 ?_
    refine mx_putI d_Gr_readGate_44 fl_Gr_120 (by assumption) ?_
    refine mx_in_1 d_Gr_readGate_47 ?_
    exact mx_zret d_Gr_readGate_48 rfl (by first | exact Or.inl rfl | exact Or.inr rfl) (mx_sR_i (by rw [hq9]; rfl) (by rw [hq9, hvp]; exact go_fld hs hd (by omega)))
  · skip
    obtain ⟨e0, hn0⟩ := gq_vl_n c_17 (fun q hq => by have := (gq_let_go hq).2.1; omega)
    rw [hn0] at hK2
    have hK2 : tk_out _ K2 te f L (.inl e0) := hK2
    have hq9 : gg_fld 8 s (gq_let (tK f L) (tV f L) (c + 1)) = .inl e0 := by rw [hn0]; rfl
    refine mx_in_0 d_Gr_readGate_20 ?_
    exact mx_zret d_Gr_readGate_21 rfl (by first | exact Or.inl rfl | exact Or.inr rfl) (mx_sR_i (by rw [hq9]; rfl) (by rw [hq9]; exact hs.bad hK2 hd))
theorem gq_fv_n {B : Nat → Nat} {r : Nat ⊕ Nat} (h : gq_fv B c r = -1) (hb : B c < 2 ^ 31) : ∃ e, r = .inl e := by
  cases r with
  | inl e => exact ⟨e, rfl⟩
  | inr q => exact absurd h (nI_m1b hb)
theorem gq_fv_y {B : Nat → Nat} {r : Nat ⊕ Nat} (h : ¬ gq_fv B c r = -1) : ∃ q, r = .inr q ∧ gq_fv B c r = nI (B c) := by
  cases r with
  | inl e => exact absurd rfl h
  | inr q => exact ⟨q, rfl, rfl⟩
theorem gq_fig_in {n q : Nat} (h : gq_fig (tK f L) (tZ f L) n c = .inr q) : n = 0 ∨ (tK f L c = 2 ∧ n = tZ f L c) := by
  by_cases hz : (if tK f L c = 2 then tZ f L c else 0) = n
  · by_cases h2 : tK f L c = 2
    · rw [if_pos h2] at hz; exact Or.inr ⟨h2, hz.symm⟩
    · rw [if_neg h2] at hz; exact Or.inl hz.symm
  · rw [gq_fig_n hz] at h; cases h
/-- figures of a token are figures -/
theorem tZ_fig {k : Nat} (h2 : tK f L c = 2) (hk : k < tZ f L c) : tq_b f L c + k < L ∧ tq_f (f (tq_b f L c + k)) = true := by
  obtain ⟨g1, g2⟩ := tq_k2.mp h2
  have hz : tZ f L c = tq_en f L (tq_b f L c) - tq_b f L c := if_pos g1
  have hgt := tq_en_gt (f := f) g1
  have nl : tq_l (f (tq_b f L c)) = false := by
    cases z : tq_l (f (tq_b f L c)) with
    | false => rfl
    | true => rw [tq_lf z] at g2; cases g2
  exact ⟨by omega, tq_figs (L := L) nl g2 _ (by omega) (by omega)⟩
theorem gg_rank_1 {base many others e : Nat} {s : gg_S} (h : gq_num (tK f L) (tV f L) 0 many (c + 1) = .inl e) : gg_rank (tK f L) (tV f L) (tZ f L) (tq_b f L) f base many others s c = .inl e := by unfold gg_rank; rw [h]
theorem gg_rank_2 {base many others e : Nat} {s : gg_S} {p : Nat × Nat} (h : gq_num (tK f L) (tV f L) 0 many (c + 1) = .inr p) (h2 : gq_fig (tK f L) (tZ f L) others p.2 = .inl e) : gg_rank (tK f L) (tV f L) (tZ f L) (tq_b f L) f base many others s c = .inl e := by unfold gg_rank; rw [h]; simp only; rw [h2]
theorem gg_rank_3 {base many others u : Nat} {s : gg_S} {p : Nat × Nat} (h : gq_num (tK f L) (tV f L) 0 many (c + 1) = .inr p) (h2 : gq_fig (tK f L) (tZ f L) others p.2 = .inr u) : gg_rank (tK f L) (tV f L) (tZ f L) (tq_b f L) f base many others s c = .inr ((s.1, s.2.1, gg_set s.2.2 f (tq_b f L p.2) (base + 8 * p.1) others), u) := by unfold gg_rank; rw [h]; simp only; rw [h2]
theorem c_Gr_ranksL (hGr : gx_ok S P gr te dr) (hSt : st_ok S P dr) (hTe : te_ok S P te) {s : gg_S} (hs0 : go_s I I dr te f L c s) (hk0 : ¬ tK f L c = 0)  : mx_C l E M_Gr_readRanks 2 0 0 [.ref (gr), .int (nI (1))] (t, S, I, P, J) (mx_sR (some (.int (bI (gq_ok (gg_rank (tK f L) (tV f L) (tZ f L) (tq_b f L) f 67 (s.1) (s.2.1) s c))))) t S P J (fun K => go_out I K dr te f L (gg_rank (tK f L) (tV f L) (tZ f L) (tq_b f L) f 67 (s.1) (s.2.1) s c))) := by
  obtain ⟨hG0, hG1, hG2, hG3, hG4⟩ := id hGr
  obtain ⟨hC0, hC1, hC2, hC3, hC4, hC5, hC6, hD1, hD2, hD3, hD4, hPe, hLo⟩ := id hSt
  obtain ⟨hA0, hA1, hA2, hA3, hA4, hA5, hA6, hA7, hB1, hB2, hB3, hB4, hB5, hB6, hB7⟩ := id hPe
  obtain ⟨hT0, hT1, hT2, hT3, hT4, hT5, hT6, hT7, hT8, hT9, hT10⟩ := id hTe
  have hd : te + 6 ≤ dr := by omega
  have hs := hs0
  have hL9 := hs0.2.2.1.1.2.2
  have hTL := tq_n_le f L
  have hk36 := tq_k_lt f L (tq_b f L c)
  have h81 := hs0.2.2.2.2.2.2.2.1
  have h82 := hs0.2.2.2.2.2.2.2.2
  refine mx_C_of (ls0 := [some (.ref (gr)), some (.int (nI (1))), none, none, none, none, none]) (by decide +kernel) rfl rfl (Nat.le_of_ble_eq_true rfl) rfl ?_
  refine mx_al0 d_Gr_readRanks_0 ?_
  refine mx_getR d_Gr_readRanks_1 fl_Gr_9 (by assumption) (by assumption) ?_
  refine mx_cV0vR d_Gr_readRanks_4 (c_Te_nextR hTe hs.tok hs.cu (tK_T hk0)) ok_Te_next ml_Gr_73 (by assumption) ⟨rfl, rfl⟩ (by decide) (Nat.le_of_ble_eq_true rfl) (fun K1 hK1 => ?_)
  have hs := hs.tk hK1 hd
  refine mx_al0 d_Gr_readRanks_7 ?_
  refine mx_getR d_Gr_readRanks_8 fl_Gr_9 (by assumption) (by assumption) ?_
  refine mx_in_0 d_Gr_readRanks_11 ?_
  refine mx_il1 d_Gr_readRanks_12 ?_
  refine mx_if_eq 29 d_Gr_readRanks_13 (by decide) (fun c_13 => absurd c_13 (by decide)) (fun c_13 => ?_)
  refine mx_al0 d_Gr_readRanks_16 ?_
  refine mx_getR d_Gr_readRanks_17 fl_Gr_15 (by assumption) (by assumption) ?_
  refine mx_getR d_Gr_readRanks_20 fl_Gr_45 (by assumption) (by assumption) ?_
  refine mx_getI d_Gr_readRanks_23 fl_Gr_49 (by assumption) ?_
  refine mx_goto 39 d_Gr_readRanks_26 (by decide) ?_
  refine mx_ti (y := nI (s.1)) ((hs.st.1.1.trans hs.2.2.2.2.2.1)) ?_
  refine mx_in_1 d_Gr_readRanks_39 ?_
  refine mx_isub d_Gr_readRanks_40 ?_
  refine mx_cV2iR d_Gr_readRanks_41 (c_Te_number hTe hs.tok hs.cu (lo := 0) (hb := s.1) (by omega) (fun v hv => hleH hs.2.2.2.2.2.2.2.1 v (by omega))) ok_Te_number ml_Gr_76 (by assumption) ⟨rfl, rfl⟩ (by decide) (Nat.le_of_ble_eq_true rfl) (fun K2 hK2 => ?_)
  refine mx_is2 d_Gr_readRanks_44 ?_
  refine mx_il2 d_Gr_readRanks_45 ?_
  refine mx_ic_m1 d_Gr_readRanks_46 ?_
  refine mx_icmp_ne 52 d_Gr_readRanks_47 (by decide) (fun c_47 => ?_) (fun c_47 => ?_)
  · skip
    obtain ⟨p, hnp, hvp⟩ := gq_vl_y c_47
    rw [hnp] at hK2
    have hK2 : tk_out _ K2 te f L (.inr p.2) := hK2
    have hs := hs.tk hK2 hd
    have hgp := (gq_num_go (tK0 rfl)).1 p hnp
    refine mx_il1 d_Gr_readRanks_52 ?_
    refine mx_if_eq 69 d_Gr_readRanks_53 (by decide) (fun c_53 => absurd c_53 (by decide)) (fun c_53 => ?_)
    refine mx_al0 d_Gr_readRanks_56 ?_
    refine mx_getR d_Gr_readRanks_57 fl_Gr_15 (by assumption) (by assumption) ?_
    refine mx_getR d_Gr_readRanks_60 fl_Gr_45 (by assumption) (by assumption) ?_
    refine mx_getI d_Gr_readRanks_63 fl_Gr_57 (by assumption) ?_
    refine mx_goto 79 d_Gr_readRanks_66 (by decide) ?_
    refine mx_ti (y := nI (s.2.1)) ((hs.st.1.2.1.trans hs.2.2.2.2.2.2.1)) ?_
    refine mx_is3 d_Gr_readRanks_79 ?_
    refine mx_al0 d_Gr_readRanks_80 ?_
    refine mx_getR d_Gr_readRanks_81 fl_Gr_9 (by assumption) (by assumption) ?_
    refine mx_il3 d_Gr_readRanks_84 ?_
    refine mx_cV1iR d_Gr_readRanks_85 (c_Te_figures hTe hs.tok hs.cu (n := s.2.1) hs.2.2.2.2.2.2.2.2) ok_Te_figures ml_Gr_95 (by assumption) ⟨rfl, rfl⟩ (by decide) (Nat.le_of_ble_eq_true rfl) (fun K3 hK3 => ?_)
    refine mx_is4 d_Gr_readRanks_88 ?_
    refine mx_il4 d_Gr_readRanks_90 ?_
    refine mx_ic_m1 d_Gr_readRanks_92 ?_
    refine mx_icmp_ne 98 d_Gr_readRanks_93 (by decide) (fun c_93 => ?_) (fun c_93 => ?_)
    · skip
      obtain ⟨u9, hf0, hfv⟩ := gq_fv_y c_93
      have hq9 : gg_rank (tK f L) (tV f L) (tZ f L) (tq_b f L) f 67 (s.1) (s.2.1) s c = _ := gg_rank_3 hnp hf0
      have hfi := gq_fig_in hf0
      rw [hf0] at hK3
      have hs := hs.tk hK3 hd
      have hs00 : go_s I K3 dr te f L u9 (s.1, s.2.1, gg_set s.2.2 f (tq_b f L p.2) (67 + 8 * p.1) (0)) := by rw [gg_set_0]; exact hs
      have h8a := hs.2.2.2.2.2.2.2.1
      have h8b := hs.2.2.2.2.2.2.2.2
      refine mx_lsc (congrArg (fun z9 => ([some (.ref (gr)), some (.int (nI (1))), some (.int ((gq_vl (gq_num (tK f L) (tV f L) 0 (s.1) (c + 1))))), some (.int (nI (s.2.1))), some (.int (z9)), none, none] : List (Option Value))) (hfv)) ?_
      refine mx_lsc (congrArg (fun z9 => ([some (.ref (gr)), some (.int (nI (1))), some (.int (z9)), some (.int (nI (s.2.1))), some (.int (nI (tq_b f L p.2))), none, none] : List (Option Value))) (hvp)) ?_
      refine mx_in_0 d_Gr_readRanks_98 ?_
      refine mx_is5 d_Gr_readRanks_99 ?_
      refine mx_loopX (α := (mx_I)) (N := s.2.1) (a0 := K3) (fun k9 z9 => go_s I z9 dr te f L u9 (s.1, s.2.1, gg_set s.2.2 f (tq_b f L p.2) (67 + 8 * p.1) (k9))) (ls := fun k9 z9 => [some (.ref (gr)), some (.int (nI (1))), some (.int (nI (p.1))), some (.int (nI (s.2.1))), some (.int (nI (tq_b f L p.2))), some (.int (nI (k9))), none]) (X := fun k9 z9 => (t, S, z9, P, J)) (hs00) (fun k9 hk9 z9 hinv ih => ?_) (fun z9 hinv => ?_)
      · skip
        obtain ⟨K, hz9⟩ : ∃ q, q = z9 := ⟨_, rfl⟩
        subst hz9
        try dsimp only at hinv ih ⊢
        have hs := hinv
        have h2k : tK f L p.2 = 2 ∧ s.2.1 = tZ f L p.2 := hfi.resolve_left (by omega)
        have htz := tZ_fig (f := f) (L := L) (c := p.2) (k := k9) h2k.1 (by omega)
        have hfg := tq_f_v htz.2
        refine mx_il5 d_Gr_readRanks_101 ?_
        refine mx_il3 d_Gr_readRanks_103 ?_
        refine mx_icN_ge 166 d_Gr_readRanks_104 (by decide) (by omega) (by omega) (fun c_104 => absurd c_104 (by omega)) (fun c_104 => ?_)
        have hsm := hs.2.2.2.2.2.2.2
        have hf9 := (hs.tok.1.1 (tq_b f L p.2 + k9) (by omega)).1
        refine mx_al0 d_Gr_readRanks_107 ?_
        refine mx_getR d_Gr_readRanks_108 fl_Gr_9 (by assumption) (by assumption) ?_
        refine mx_getR d_Gr_readRanks_111 fl_Gr_99 (by assumption) (by assumption) ?_
        refine mx_il4 d_Gr_readRanks_114 ?_
        refine mx_il5 d_Gr_readRanks_116 ?_
        refine mx_iaddN d_Gr_readRanks_118 ?_
        refine mx_cSN2i d_Gr_readRanks_119 (c_get (k := tq_b f L p.2 + k9) (by assumption) (by omega) (by omega)) ok_Vh_get ml_Gr_103 (by decide) (Nat.le_of_ble_eq_true rfl) ?_
        refine mx_ti (y := nI (f (tq_b f L p.2 + k9))) ((hs.tok.1.1 _ (by omega)).2) ?_
        refine mx_bip 48 d_Gr_readRanks_122 (by decide) ?_
        refine mx_isub d_Gr_readRanks_124 ?_
        refine mx_ti (y := nI (f (tq_b f L p.2 + k9) - 48)) (nI_sub (by omega)) ?_
        refine mx_is6 d_Gr_readRanks_125 ?_
        refine mx_al0 d_Gr_readRanks_127 ?_
        refine mx_getR d_Gr_readRanks_128 fl_Gr_15 (by assumption) (by assumption) ?_
        refine mx_getR d_Gr_readRanks_131 fl_Gr_45 (by assumption) (by assumption) ?_
        refine mx_il1 d_Gr_readRanks_134 ?_
        refine mx_if_eq 142 d_Gr_readRanks_135 (by decide) (fun c_135 => absurd c_135 (by decide)) (fun c_135 => ?_)
        refine mx_il2 d_Gr_readRanks_138 ?_
        refine mx_goto 144 d_Gr_readRanks_139 (by decide) ?_
        refine mx_il1 d_Gr_readRanks_144 ?_
        refine mx_if_eq 153 d_Gr_readRanks_145 (by decide) (fun c_145 => absurd c_145 (by decide)) (fun c_145 => ?_)
        refine mx_il5 d_Gr_readRanks_148 ?_
        refine mx_goto 154 d_Gr_readRanks_150 (by decide) ?_
        refine mx_il1 d_Gr_readRanks_154 ?_
        refine mx_il6 d_Gr_readRanks_155 ?_
        refine mx_cV4v d_Gr_readRanks_157 (c_Pe_tell hPe (h := p.1) (g := k9) (by omega) (by omega) (b := true)) ok_Pe_tellRank ml_Gr_107 (by assumption) ⟨rfl, rfl⟩ (by decide) (Nat.le_of_ble_eq_true rfl) ?_
        refine mx_iN5 d_Gr_readRanks_160 ?_
        refine mx_goto 101 d_Gr_readRanks_163 (by decide) ?_
        refine mx_dn6 ?_
        exact ih (mx_up K (dr + 1 + 6) (8 * p.1 + k9) (nI (f (tq_b f L p.2 + k9) - 48))) (go_rank hs hd (by omega) (by omega) (by unfold pe_cor; omega))
      · skip
        obtain ⟨K, hz9⟩ : ∃ q, q = z9 := ⟨_, rfl⟩
        subst hz9
        try dsimp only at hinv ⊢
        refine mx_il5 d_Gr_readRanks_101 ?_
        refine mx_il3 d_Gr_readRanks_103 ?_
        refine mx_icN_ge 166 d_Gr_readRanks_104 (by decide) (by omega) (by omega) (fun c_104 => ?_) (fun c_104 => absurd c_104 (by omega))
        refine mx_in_1 d_Gr_readRanks_166 ?_
        exact mx_zret d_Gr_readRanks_167 rfl (by first | exact Or.inl rfl | exact Or.inr rfl) (mx_sR_i (by rw [hq9]; rfl) (by rw [hq9]; exact hinv))
    · skip
      obtain ⟨e0, hf0⟩ := gq_fv_n c_93 (by have := tq_bL f L p.2; omega)
      have hq9 : gg_rank (tK f L) (tV f L) (tZ f L) (tq_b f L) f 67 (s.1) (s.2.1) s c = .inl e0 := gg_rank_2 hnp hf0
      rw [hf0] at hK3
      refine mx_in_0 d_Gr_readRanks_96 ?_
      exact mx_zret d_Gr_readRanks_97 rfl (by first | exact Or.inl rfl | exact Or.inr rfl) (mx_sR_i (by rw [hq9]; rfl) (by rw [hq9]; exact hs.bad hK3 hd))
  · skip
    obtain ⟨e0, hn0⟩ := gq_vl_n c_47 (fun q hq => by have := ((gq_num_go (tK0 rfl)).1 q hq).2.2.1; omega)
    rw [hn0] at hK2
    have hK2 : tk_out _ K2 te f L (.inl e0) := hK2
    have hq9 : gg_rank (tK f L) (tV f L) (tZ f L) (tq_b f L) f 67 (s.1) (s.2.1) s c = .inl e0 := gg_rank_1 hn0
    refine mx_in_0 d_Gr_readRanks_50 ?_
    exact mx_zret d_Gr_readRanks_51 rfl (by first | exact Or.inl rfl | exact Or.inr rfl) (mx_sR_i (by rw [hq9]; rfl) (by rw [hq9]; exact hs.bad hK2 hd))
theorem c_Gr_ranksV (hGr : gx_ok S P gr te dr) (hSt : st_ok S P dr) (hTe : te_ok S P te) {s : gg_S} (hs0 : go_s I I dr te f L c s) (hk0 : ¬ tK f L c = 0)  : mx_C l E M_Gr_readRanks 2 0 0 [.ref (gr), .int (nI (0))] (t, S, I, P, J) (mx_sR (some (.int (bI (gq_ok (gg_rank (tK f L) (tV f L) (tZ f L) (tq_b f L) f 131 (s.2.1) (s.1) s c))))) t S P J (fun K => go_out I K dr te f L (gg_rank (tK f L) (tV f L) (tZ f L) (tq_b f L) f 131 (s.2.1) (s.1) s c))) := by
  obtain ⟨hG0, hG1, hG2, hG3, hG4⟩ := id hGr
  obtain ⟨hC0, hC1, hC2, hC3, hC4, hC5, hC6, hD1, hD2, hD3, hD4, hPe, hLo⟩ := id hSt
  obtain ⟨hA0, hA1, hA2, hA3, hA4, hA5, hA6, hA7, hB1, hB2, hB3, hB4, hB5, hB6, hB7⟩ := id hPe
  obtain ⟨hT0, hT1, hT2, hT3, hT4, hT5, hT6, hT7, hT8, hT9, hT10⟩ := id hTe
  have hd : te + 6 ≤ dr := by omega
  have hs := hs0
  have hL9 := hs0.2.2.1.1.2.2
  have hTL := tq_n_le f L
  have hk36 := tq_k_lt f L (tq_b f L c)
  have h81 := hs0.2.2.2.2.2.2.2.1
  have h82 := hs0.2.2.2.2.2.2.2.2
  refine mx_C_of (ls0 := [some (.ref (gr)), some (.int (nI (0))), none, none, none, none, none]) (by decide +kernel) rfl rfl (Nat.le_of_ble_eq_true rfl) rfl ?_
  refine mx_al0 d_Gr_readRanks_0 ?_
  refine mx_getR d_Gr_readRanks_1 fl_Gr_9 (by assumption) (by assumption) ?_
  refine mx_cV0vR d_Gr_readRanks_4 (c_Te_nextR hTe hs.tok hs.cu (tK_T hk0)) ok_Te_next ml_Gr_73 (by assumption) ⟨rfl, rfl⟩ (by decide) (Nat.le_of_ble_eq_true rfl) (fun K1 hK1 => ?_)
  have hs := hs.tk hK1 hd
  refine mx_al0 d_Gr_readRanks_7 ?_
  refine mx_getR d_Gr_readRanks_8 fl_Gr_9 (by assumption) (by assumption) ?_
  refine mx_in_0 d_Gr_readRanks_11 ?_
  refine mx_il1 d_Gr_readRanks_12 ?_
  refine mx_if_eq 29 d_Gr_readRanks_13 (by decide) (fun c_13 => ?_) (fun c_13 => absurd (by decide) c_13)
  refine mx_al0 d_Gr_readRanks_29 ?_
  refine mx_getR d_Gr_readRanks_30 fl_Gr_15 (by assumption) (by assumption) ?_
  refine mx_getR d_Gr_readRanks_33 fl_Gr_45 (by assumption) (by assumption) ?_
  refine mx_getI d_Gr_readRanks_36 fl_Gr_57 (by assumption) ?_
  refine mx_ti (y := nI (s.2.1)) ((hs.st.1.2.1.trans hs.2.2.2.2.2.2.1)) ?_
  refine mx_in_1 d_Gr_readRanks_39 ?_
  refine mx_isub d_Gr_readRanks_40 ?_
  refine mx_cV2iR d_Gr_readRanks_41 (c_Te_number hTe hs.tok hs.cu (lo := 0) (hb := s.2.1) (by omega) (fun v hv => hleH hs.2.2.2.2.2.2.2.2 v (by omega))) ok_Te_number ml_Gr_76 (by assumption) ⟨rfl, rfl⟩ (by decide) (Nat.le_of_ble_eq_true rfl) (fun K2 hK2 => ?_)
  refine mx_is2 d_Gr_readRanks_44 ?_
  refine mx_il2 d_Gr_readRanks_45 ?_
  refine mx_ic_m1 d_Gr_readRanks_46 ?_
  refine mx_icmp_ne 52 d_Gr_readRanks_47 (by decide) (fun c_47 => ?_) (fun c_47 => ?_)
  · skip
    obtain ⟨p, hnp, hvp⟩ := gq_vl_y c_47
    rw [hnp] at hK2
    have hK2 : tk_out _ K2 te f L (.inr p.2) := hK2
    have hs := hs.tk hK2 hd
    have hgp := (gq_num_go (tK0 rfl)).1 p hnp
    refine mx_il1 d_Gr_readRanks_52 ?_
    refine mx_if_eq 69 d_Gr_readRanks_53 (by decide) (fun c_53 => ?_) (fun c_53 => absurd (by decide) c_53)
    refine mx_al0 d_Gr_readRanks_69 ?_
    refine mx_getR d_Gr_readRanks_70 fl_Gr_15 (by assumption) (by assumption) ?_
    refine mx_getR d_Gr_readRanks_73 fl_Gr_45 (by assumption) (by assumption) ?_
    refine mx_getI d_Gr_readRanks_76 fl_Gr_49 (by assumption) ?_
    refine mx_ti (y := nI (s.1)) ((hs.st.1.1.trans hs.2.2.2.2.2.1)) ?_
    refine mx_is3 d_Gr_readRanks_79 ?_
    refine mx_al0 d_Gr_readRanks_80 ?_
    refine mx_getR d_Gr_readRanks_81 fl_Gr_9 (by assumption) (by assumption) ?_
    refine mx_il3 d_Gr_readRanks_84 ?_
    refine mx_cV1iR d_Gr_readRanks_85 (c_Te_figures hTe hs.tok hs.cu (n := s.1) hs.2.2.2.2.2.2.2.1) ok_Te_figures ml_Gr_95 (by assumption) ⟨rfl, rfl⟩ (by decide) (Nat.le_of_ble_eq_true rfl) (fun K3 hK3 => ?_)
    refine mx_is4 d_Gr_readRanks_88 ?_
    refine mx_il4 d_Gr_readRanks_90 ?_
    refine mx_ic_m1 d_Gr_readRanks_92 ?_
    refine mx_icmp_ne 98 d_Gr_readRanks_93 (by decide) (fun c_93 => ?_) (fun c_93 => ?_)
    · skip
      obtain ⟨u9, hf0, hfv⟩ := gq_fv_y c_93
      have hq9 : gg_rank (tK f L) (tV f L) (tZ f L) (tq_b f L) f 131 (s.2.1) (s.1) s c = _ := gg_rank_3 hnp hf0
      have hfi := gq_fig_in hf0
      rw [hf0] at hK3
      have hs := hs.tk hK3 hd
      have hs00 : go_s I K3 dr te f L u9 (s.1, s.2.1, gg_set s.2.2 f (tq_b f L p.2) (131 + 8 * p.1) (0)) := by rw [gg_set_0]; exact hs
      have h8a := hs.2.2.2.2.2.2.2.1
      have h8b := hs.2.2.2.2.2.2.2.2
      refine mx_lsc (congrArg (fun z9 => ([some (.ref (gr)), some (.int (nI (0))), some (.int ((gq_vl (gq_num (tK f L) (tV f L) 0 (s.2.1) (c + 1))))), some (.int (nI (s.1))), some (.int (z9)), none, none] : List (Option Value))) (hfv)) ?_
      refine mx_lsc (congrArg (fun z9 => ([some (.ref (gr)), some (.int (nI (0))), some (.int (z9)), some (.int (nI (s.1))), some (.int (nI (tq_b f L p.2))), none, none] : List (Option Value))) (hvp)) ?_
      refine mx_in_0 d_Gr_readRanks_98 ?_
      refine mx_is5 d_Gr_readRanks_99 ?_
      refine mx_loopX (α := (mx_I)) (N := s.1) (a0 := K3) (fun k9 z9 => go_s I z9 dr te f L u9 (s.1, s.2.1, gg_set s.2.2 f (tq_b f L p.2) (131 + 8 * p.1) (k9))) (ls := fun k9 z9 => [some (.ref (gr)), some (.int (nI (0))), some (.int (nI (p.1))), some (.int (nI (s.1))), some (.int (nI (tq_b f L p.2))), some (.int (nI (k9))), none]) (X := fun k9 z9 => (t, S, z9, P, J)) (hs00) (fun k9 hk9 z9 hinv ih => ?_) (fun z9 hinv => ?_)
      · skip
        obtain ⟨K, hz9⟩ : ∃ q, q = z9 := ⟨_, rfl⟩
        subst hz9
        try dsimp only at hinv ih ⊢
        have hs := hinv
        have h2k : tK f L p.2 = 2 ∧ s.1 = tZ f L p.2 := hfi.resolve_left (by omega)
        have htz := tZ_fig (f := f) (L := L) (c := p.2) (k := k9) h2k.1 (by omega)
        have hfg := tq_f_v htz.2
        refine mx_il5 d_Gr_readRanks_101 ?_
        refine mx_il3 d_Gr_readRanks_103 ?_
        refine mx_icN_ge 166 d_Gr_readRanks_104 (by decide) (by omega) (by omega) (fun c_104 => absurd c_104 (by omega)) (fun c_104 => ?_)
        have hsm := hs.2.2.2.2.2.2.2
        have hf9 := (hs.tok.1.1 (tq_b f L p.2 + k9) (by omega)).1
        refine mx_al0 d_Gr_readRanks_107 ?_
        refine mx_getR d_Gr_readRanks_108 fl_Gr_9 (by assumption) (by assumption) ?_
        refine mx_getR d_Gr_readRanks_111 fl_Gr_99 (by assumption) (by assumption) ?_
        refine mx_il4 d_Gr_readRanks_114 ?_
        refine mx_il5 d_Gr_readRanks_116 ?_
        refine mx_iaddN d_Gr_readRanks_118 ?_
        refine mx_cSN2i d_Gr_readRanks_119 (c_get (k := tq_b f L p.2 + k9) (by assumption) (by omega) (by omega)) ok_Vh_get ml_Gr_103 (by decide) (Nat.le_of_ble_eq_true rfl) ?_
        refine mx_ti (y := nI (f (tq_b f L p.2 + k9))) ((hs.tok.1.1 _ (by omega)).2) ?_
        refine mx_bip 48 d_Gr_readRanks_122 (by decide) ?_
        refine mx_isub d_Gr_readRanks_124 ?_
        refine mx_ti (y := nI (f (tq_b f L p.2 + k9) - 48)) (nI_sub (by omega)) ?_
        refine mx_is6 d_Gr_readRanks_125 ?_
        refine mx_al0 d_Gr_readRanks_127 ?_
        refine mx_getR d_Gr_readRanks_128 fl_Gr_15 (by assumption) (by assumption) ?_
        refine mx_getR d_Gr_readRanks_131 fl_Gr_45 (by assumption) (by assumption) ?_
        refine mx_il1 d_Gr_readRanks_134 ?_
        refine mx_if_eq 142 d_Gr_readRanks_135 (by decide) (fun c_135 => ?_) (fun c_135 => absurd (by decide) c_135)
        refine mx_il5 d_Gr_readRanks_142 ?_
        refine mx_il1 d_Gr_readRanks_144 ?_
        refine mx_if_eq 153 d_Gr_readRanks_145 (by decide) (fun c_145 => ?_) (fun c_145 => absurd (by decide) c_145)
        refine mx_il2 d_Gr_readRanks_153 ?_
        refine mx_il1 d_Gr_readRanks_154 ?_
        refine mx_il6 d_Gr_readRanks_155 ?_
        refine mx_cV4v d_Gr_readRanks_157 (c_Pe_tell hPe (h := k9) (g := p.1) (by omega) (by omega) (b := false)) ok_Pe_tellRank ml_Gr_107 (by assumption) ⟨rfl, rfl⟩ (by decide) (Nat.le_of_ble_eq_true rfl) ?_
        refine mx_iN5 d_Gr_readRanks_160 ?_
        refine mx_goto 101 d_Gr_readRanks_163 (by decide) ?_
        refine mx_dn6 ?_
        exact ih (mx_up K (dr + 1 + 7) (8 * k9 + p.1) (nI (f (tq_b f L p.2 + k9) - 48))) (go_rank hs hd (by omega) (by omega) (by unfold pe_cor; omega))
      · skip
        obtain ⟨K, hz9⟩ : ∃ q, q = z9 := ⟨_, rfl⟩
        subst hz9
        try dsimp only at hinv ⊢
        refine mx_il5 d_Gr_readRanks_101 ?_
        refine mx_il3 d_Gr_readRanks_103 ?_
        refine mx_icN_ge 166 d_Gr_readRanks_104 (by decide) (by omega) (by omega) (fun c_104 => ?_) (fun c_104 => absurd c_104 (by omega))
        refine mx_in_1 d_Gr_readRanks_166 ?_
        exact mx_zret d_Gr_readRanks_167 rfl (by first | exact Or.inl rfl | exact Or.inr rfl) (mx_sR_i (by rw [hq9]; rfl) (by rw [hq9]; exact hinv))
    · skip
      obtain ⟨e0, hf0⟩ := gq_fv_n c_93 (by have := tq_bL f L p.2; omega)
      have hq9 : gg_rank (tK f L) (tV f L) (tZ f L) (tq_b f L) f 131 (s.2.1) (s.1) s c = .inl e0 := gg_rank_2 hnp hf0
      rw [hf0] at hK3
      refine mx_in_0 d_Gr_readRanks_96 ?_
      exact mx_zret d_Gr_readRanks_97 rfl (by first | exact Or.inl rfl | exact Or.inr rfl) (mx_sR_i (by rw [hq9]; rfl) (by rw [hq9]; exact hs.bad hK3 hd))
  · skip
    obtain ⟨e0, hn0⟩ := gq_vl_n c_47 (fun q hq => by have := ((gq_num_go (tK0 rfl)).1 q hq).2.2.1; omega)
    rw [hn0] at hK2
    have hK2 : tk_out _ K2 te f L (.inl e0) := hK2
    have hq9 : gg_rank (tK f L) (tV f L) (tZ f L) (tq_b f L) f 131 (s.2.1) (s.1) s c = .inl e0 := gg_rank_1 hn0
    refine mx_in_0 d_Gr_readRanks_50 ?_
    exact mx_zret d_Gr_readRanks_51 rfl (by first | exact Or.inl rfl | exact Or.inr rfl) (mx_sR_i (by rw [hq9]; rfl) (by rw [hq9]; exact hs.bad hK2 hd))
theorem gg_line_0 {s : gg_S} (h : ∀ k, (10 ≤ k ∧ k ≤ 28) → tK f L c = k → k ∉ [10, 11, 24, 25, 26, 16, 27, 28]) : gg_line (tK f L) (tV f L) (tZ f L) (tq_b f L) f s c = .inl c := by
  have g : ∀ k, k ∈ [10, 11, 24, 25, 26, 16, 27, 28] → ¬ tK f L c = k := fun k hk z => by
    have hb : 10 ≤ k ∧ k ≤ 28 := (by decide : ∀ k ∈ [10, 11, 24, 25, 26, 16, 27, 28], 10 ≤ k ∧ k ≤ 28) k hk
    exact h k hb z hk
  unfold gg_line
  rw [if_neg (g 10 (by decide)), if_neg (g 11 (by decide)), if_neg (g 24 (by decide)), if_neg (g 25 (by decide)), if_neg (g 26 (by decide)), if_neg (g 16 (by decide)), if_neg (g 27 (by decide)), if_neg (g 28 (by decide))]
theorem gg_tab {x : Int32} (hn : n < 100) (hx : x = nI n) (h : ∀ k, 10 ≤ k → k ≤ 28 → ¬ x = nI k) : x.toInt < 10 ∨ 28 < x.toInt := by
  rw [hx, nI_toInt (by omega)]
  by_cases c1 : n < 10
  · exact Or.inl (by omega)
  · by_cases c2 : 28 < n
    · exact Or.inr (by omega)
    · exact absurd hx (h n (by omega) (by omega))
theorem c_Gr_line (hGr : gx_ok S P gr te dr) (hSt : st_ok S P dr) (hTe : te_ok S P te) {s : gg_S} (hs0 : go_s I I dr te f L c s)  : mx_C l E M_Gr_readLine 5 0 0 [.ref (gr)] (t, S, I, P, J) (mx_sR (some (.int (bI (gq_ok (gg_line (tK f L) (tV f L) (tZ f L) (tq_b f L) f s c))))) t S P J (fun K => go_out I K dr te f L (gg_line (tK f L) (tV f L) (tZ f L) (tq_b f L) f s c))) := by
  obtain ⟨hG0, hG1, hG2, hG3, hG4⟩ := id hGr
  obtain ⟨hC0, hC1, hC2, hC3, hC4, hC5, hC6, hD1, hD2, hD3, hD4, hPe, hLo⟩ := id hSt
  obtain ⟨hA0, hA1, hA2, hA3, hA4, hA5, hA6, hA7, hB1, hB2, hB3, hB4, hB5, hB6, hB7⟩ := id hPe
  obtain ⟨hT0, hT1, hT2, hT3, hT4, hT5, hT6, hT7, hT8, hT9, hT10⟩ := id hTe
  have hd : te + 6 ≤ dr := by omega
  have hs := hs0
  have hL9 := hs0.2.2.1.1.2.2
  have hTL := tq_n_le f L
  have hk36 := tq_k_lt f L (tq_b f L c)
  refine mx_C_of (ls0 := [some (.ref (gr))]) (by decide +kernel) rfl rfl (Nat.le_of_ble_eq_true rfl) rfl ?_
  refine mx_al0 d_Gr_readLine_0 ?_
  refine mx_getR d_Gr_readLine_1 fl_Gr_9 (by assumption) (by assumption) ?_
  refine mx_getI d_Gr_readLine_4 fl_Gr_30 (by assumption) ?_
  by_cases k_10 : (I (te) 9) = nI 10
  · refine mx_tabIn 96 d_Gr_readLine_7 (by rw [k_10]; decide) (by rw [k_10]; decide) (by rw [k_10]; rfl) (by decide) ?_
    have hk : tK f L c = 10 := (nI_eq (by show tq_k f L (tq_b f L c) < _; omega) (by omega)).mp (hs.cu.2.1.symm.trans k_10)
    have hl9 : gg_line (tK f L) (tV f L) (tZ f L) (tq_b f L) f s c = if s.1 < 8 then gg_host (tK f L) (tV f L) s c else .inl c := by unfold gg_line; rw [if_pos hk]
    refine mx_al0 d_Gr_readLine_96 ?_
    refine mx_getR d_Gr_readLine_97 fl_Gr_15 (by assumption) (by assumption) ?_
    refine mx_getR d_Gr_readLine_100 fl_Gr_45 (by assumption) (by assumption) ?_
    refine mx_getI d_Gr_readLine_103 fl_Gr_49 (by assumption) ?_
    have h8a := hs.2.2.2.2.2.2.2.1
    refine mx_ti (y := nI (s.1)) ((hs.st.1.1.trans hs.2.2.2.2.2.1)) ?_
    refine mx_bip 8 d_Gr_readLine_106 (by decide) ?_
    refine mx_icN_ge 118 d_Gr_readLine_108 (by decide) (by omega) (by omega) (fun c_108 => ?_) (fun c_108 => ?_)
    · skip
      have hq9 : gg_line (tK f L) (tV f L) (tZ f L) (tq_b f L) f s c = .inl c := hl9.trans (if_neg (by omega))
      refine mx_al0 d_Gr_readLine_118 ?_
      refine mx_getR d_Gr_readLine_119 fl_Gr_9 (by assumption) (by assumption) ?_
      refine mx_cV0iR d_Gr_readLine_122 (c_Te_refuseR hTe hs.tok hs.cu) ok_Te_refuse ml_Gr_42 (by assumption) ⟨rfl, rfl⟩ (by decide) (Nat.le_of_ble_eq_true rfl) (fun K1 hK1 => ?_)
      exact mx_zret d_Gr_readLine_125 rfl (bI_01 _) (mx_sR_i (by rw [hq9]; rfl) (by rw [hq9]; exact hs.bad hK1 hd))
    · skip
      have hq9 : gg_line (tK f L) (tV f L) (tZ f L) (tq_b f L) f s c = gg_host (tK f L) (tV f L) s c := hl9.trans (if_pos (by omega))
      refine mx_al0 d_Gr_readLine_111 ?_
      refine mx_cV0iR d_Gr_readLine_112 (c_Gr_host hGr hSt hTe hs.self hk (by omega)) ok_Gr_readHost ml_Gr_54 (by assumption) ⟨rfl, rfl⟩ (by decide) (Nat.le_of_ble_eq_true rfl) (fun K1 hK1 => ?_)
      refine mx_goto 125 d_Gr_readLine_115 (by decide) ?_
      exact mx_zret d_Gr_readLine_125 rfl (bI_01 _) (mx_sR_i (by rw [hq9]) (by rw [hq9]; exact hK1))
  by_cases k_11 : (I (te) 9) = nI 11
  · refine mx_tabIn 126 d_Gr_readLine_7 (by rw [k_11]; decide) (by rw [k_11]; decide) (by rw [k_11]; rfl) (by decide) ?_
    have hk : tK f L c = 11 := (nI_eq (by show tq_k f L (tq_b f L c) < _; omega) (by omega)).mp (hs.cu.2.1.symm.trans k_11)
    have hl9 : gg_line (tK f L) (tV f L) (tZ f L) (tq_b f L) f s c = if s.2.1 < 8 then gg_guest (tK f L) (tV f L) s c else .inl c := by unfold gg_line; rw [if_neg (by rw [hk]; omega), if_pos hk]
    refine mx_al0 d_Gr_readLine_126 ?_
    refine mx_getR d_Gr_readLine_127 fl_Gr_15 (by assumption) (by assumption) ?_
    refine mx_getR d_Gr_readLine_130 fl_Gr_45 (by assumption) (by assumption) ?_
    refine mx_getI d_Gr_readLine_133 fl_Gr_57 (by assumption) ?_
    have h8b := hs.2.2.2.2.2.2.2.2
    refine mx_ti (y := nI (s.2.1)) ((hs.st.1.2.1.trans hs.2.2.2.2.2.2.1)) ?_
    refine mx_bip 8 d_Gr_readLine_136 (by decide) ?_
    refine mx_icN_ge 148 d_Gr_readLine_138 (by decide) (by omega) (by omega) (fun c_138 => ?_) (fun c_138 => ?_)
    · skip
      have hq9 : gg_line (tK f L) (tV f L) (tZ f L) (tq_b f L) f s c = .inl c := hl9.trans (if_neg (by omega))
      refine mx_al0 d_Gr_readLine_148 ?_
      refine mx_getR d_Gr_readLine_149 fl_Gr_9 (by assumption) (by assumption) ?_
      refine mx_cV0iR d_Gr_readLine_152 (c_Te_refuseR hTe hs.tok hs.cu) ok_Te_refuse ml_Gr_42 (by assumption) ⟨rfl, rfl⟩ (by decide) (Nat.le_of_ble_eq_true rfl) (fun K1 hK1 => ?_)
      exact mx_zret d_Gr_readLine_155 rfl (bI_01 _) (mx_sR_i (by rw [hq9]; rfl) (by rw [hq9]; exact hs.bad hK1 hd))
    · skip
      have hq9 : gg_line (tK f L) (tV f L) (tZ f L) (tq_b f L) f s c = gg_guest (tK f L) (tV f L) s c := hl9.trans (if_pos (by omega))
      refine mx_al0 d_Gr_readLine_141 ?_
      refine mx_cV0iR d_Gr_readLine_142 (c_Gr_guest hGr hSt hTe hs.self hk (by omega)) ok_Gr_readGuest ml_Gr_60 (by assumption) ⟨rfl, rfl⟩ (by decide) (Nat.le_of_ble_eq_true rfl) (fun K1 hK1 => ?_)
      refine mx_goto 155 d_Gr_readLine_145 (by decide) ?_
      exact mx_zret d_Gr_readLine_155 rfl (bI_01 _) (mx_sR_i (by rw [hq9]) (by rw [hq9]; exact hK1))
  by_cases k_12 : (I (te) 9) = nI 12
  · refine mx_tabIn 192 d_Gr_readLine_7 (by rw [k_12]; decide) (by rw [k_12]; decide) (by rw [k_12]; rfl) (by decide) ?_
    have hk : tK f L c = 12 := (nI_eq (by show tq_k f L (tq_b f L c) < _; omega) (by omega)).mp (hs.cu.2.1.symm.trans k_12)
    have hq9 : gg_line (tK f L) (tV f L) (tZ f L) (tq_b f L) f s c = .inl c := gg_line_0 (fun k hb z => by rw [hk] at z; subst z; decide)
    refine mx_al0 d_Gr_readLine_192 ?_
    refine mx_getR d_Gr_readLine_193 fl_Gr_9 (by assumption) (by assumption) ?_
    refine mx_cV0iR d_Gr_readLine_196 (c_Te_refuseR hTe hs.tok hs.cu) ok_Te_refuse ml_Gr_42 (by assumption) ⟨rfl, rfl⟩ (by decide) (Nat.le_of_ble_eq_true rfl) (fun K1 hK1 => ?_)
    exact mx_zret d_Gr_readLine_199 rfl (bI_01 _) (mx_sR_i (by rw [hq9]; rfl) (by rw [hq9]; exact hs.bad hK1 hd))
  by_cases k_13 : (I (te) 9) = nI 13
  · refine mx_tabIn 192 d_Gr_readLine_7 (by rw [k_13]; decide) (by rw [k_13]; decide) (by rw [k_13]; rfl) (by decide) ?_
    have hk : tK f L c = 13 := (nI_eq (by show tq_k f L (tq_b f L c) < _; omega) (by omega)).mp (hs.cu.2.1.symm.trans k_13)
    have hq9 : gg_line (tK f L) (tV f L) (tZ f L) (tq_b f L) f s c = .inl c := gg_line_0 (fun k hb z => by rw [hk] at z; subst z; decide)
    refine mx_al0 d_Gr_readLine_192 ?_
    refine mx_getR d_Gr_readLine_193 fl_Gr_9 (by assumption) (by assumption) ?_
    refine mx_cV0iR d_Gr_readLine_196 (c_Te_refuseR hTe hs.tok hs.cu) ok_Te_refuse ml_Gr_42 (by assumption) ⟨rfl, rfl⟩ (by decide) (Nat.le_of_ble_eq_true rfl) (fun K1 hK1 => ?_)
    exact mx_zret d_Gr_readLine_199 rfl (bI_01 _) (mx_sR_i (by rw [hq9]; rfl) (by rw [hq9]; exact hs.bad hK1 hd))
  by_cases k_14 : (I (te) 9) = nI 14
  · refine mx_tabIn 192 d_Gr_readLine_7 (by rw [k_14]; decide) (by rw [k_14]; decide) (by rw [k_14]; rfl) (by decide) ?_
    have hk : tK f L c = 14 := (nI_eq (by show tq_k f L (tq_b f L c) < _; omega) (by omega)).mp (hs.cu.2.1.symm.trans k_14)
    have hq9 : gg_line (tK f L) (tV f L) (tZ f L) (tq_b f L) f s c = .inl c := gg_line_0 (fun k hb z => by rw [hk] at z; subst z; decide)
    refine mx_al0 d_Gr_readLine_192 ?_
    refine mx_getR d_Gr_readLine_193 fl_Gr_9 (by assumption) (by assumption) ?_
    refine mx_cV0iR d_Gr_readLine_196 (c_Te_refuseR hTe hs.tok hs.cu) ok_Te_refuse ml_Gr_42 (by assumption) ⟨rfl, rfl⟩ (by decide) (Nat.le_of_ble_eq_true rfl) (fun K1 hK1 => ?_)
    exact mx_zret d_Gr_readLine_199 rfl (bI_01 _) (mx_sR_i (by rw [hq9]; rfl) (by rw [hq9]; exact hs.bad hK1 hd))
  by_cases k_15 : (I (te) 9) = nI 15
  · refine mx_tabIn 192 d_Gr_readLine_7 (by rw [k_15]; decide) (by rw [k_15]; decide) (by rw [k_15]; rfl) (by decide) ?_
    have hk : tK f L c = 15 := (nI_eq (by show tq_k f L (tq_b f L c) < _; omega) (by omega)).mp (hs.cu.2.1.symm.trans k_15)
    have hq9 : gg_line (tK f L) (tV f L) (tZ f L) (tq_b f L) f s c = .inl c := gg_line_0 (fun k hb z => by rw [hk] at z; subst z; decide)
    refine mx_al0 d_Gr_readLine_192 ?_
    refine mx_getR d_Gr_readLine_193 fl_Gr_9 (by assumption) (by assumption) ?_
    refine mx_cV0iR d_Gr_readLine_196 (c_Te_refuseR hTe hs.tok hs.cu) ok_Te_refuse ml_Gr_42 (by assumption) ⟨rfl, rfl⟩ (by decide) (Nat.le_of_ble_eq_true rfl) (fun K1 hK1 => ?_)
    exact mx_zret d_Gr_readLine_199 rfl (bI_01 _) (mx_sR_i (by rw [hq9]; rfl) (by rw [hq9]; exact hs.bad hK1 hd))
  by_cases k_16 : (I (te) 9) = nI 16
  · refine mx_tabIn 168 d_Gr_readLine_7 (by rw [k_16]; decide) (by rw [k_16]; decide) (by rw [k_16]; rfl) (by decide) ?_
    have hk : tK f L c = 16 := (nI_eq (by show tq_k f L (tq_b f L c) < _; omega) (by omega)).mp (hs.cu.2.1.symm.trans k_16)
    have hq9 : gg_line (tK f L) (tV f L) (tZ f L) (tq_b f L) f s c = gg_fld 6 s (gq_num (tK f L) (tV f L) 0 1000 (c + 1)) := by unfold gg_line; rw [if_neg (by rw [hk]; omega), if_neg (by rw [hk]; omega), if_neg (by rw [hk]; omega), if_neg (by rw [hk]; omega), if_neg (by rw [hk]; omega), if_pos hk]
    refine mx_al0 d_Gr_readLine_168 ?_
    refine mx_al0 d_Gr_readLine_169 ?_
    refine mx_getR d_Gr_readLine_170 fl_Gr_9 (by assumption) (by assumption) ?_
    refine mx_getI d_Gr_readLine_173 fl_Gr_30 (by assumption) ?_
    refine mx_ti (y := nI (16)) ((hs.cu.2.1.trans (congrArg nI hk))) ?_
    refine mx_cV1iR d_Gr_readLine_176 (c_Gr_numWeek hGr hSt hTe hs.self (by rw [hk]; omega)) ok_Gr_readNumber ml_Gr_67 (by assumption) ⟨rfl, rfl⟩ (by decide) (Nat.le_of_ble_eq_true rfl) (fun K1 hK1 => ?_)
    exact mx_zret d_Gr_readLine_179 rfl (bI_01 _) (mx_sR_i (by rw [hq9]) (by rw [hq9]; exact hK1))
  by_cases k_17 : (I (te) 9) = nI 17
  · refine mx_tabIn 192 d_Gr_readLine_7 (by rw [k_17]; decide) (by rw [k_17]; decide) (by rw [k_17]; rfl) (by decide) ?_
    have hk : tK f L c = 17 := (nI_eq (by show tq_k f L (tq_b f L c) < _; omega) (by omega)).mp (hs.cu.2.1.symm.trans k_17)
    have hq9 : gg_line (tK f L) (tV f L) (tZ f L) (tq_b f L) f s c = .inl c := gg_line_0 (fun k hb z => by rw [hk] at z; subst z; decide)
    refine mx_al0 d_Gr_readLine_192 ?_
    refine mx_getR d_Gr_readLine_193 fl_Gr_9 (by assumption) (by assumption) ?_
    refine mx_cV0iR d_Gr_readLine_196 (c_Te_refuseR hTe hs.tok hs.cu) ok_Te_refuse ml_Gr_42 (by assumption) ⟨rfl, rfl⟩ (by decide) (Nat.le_of_ble_eq_true rfl) (fun K1 hK1 => ?_)
    exact mx_zret d_Gr_readLine_199 rfl (bI_01 _) (mx_sR_i (by rw [hq9]; rfl) (by rw [hq9]; exact hs.bad hK1 hd))
  by_cases k_18 : (I (te) 9) = nI 18
  · refine mx_tabIn 192 d_Gr_readLine_7 (by rw [k_18]; decide) (by rw [k_18]; decide) (by rw [k_18]; rfl) (by decide) ?_
    have hk : tK f L c = 18 := (nI_eq (by show tq_k f L (tq_b f L c) < _; omega) (by omega)).mp (hs.cu.2.1.symm.trans k_18)
    have hq9 : gg_line (tK f L) (tV f L) (tZ f L) (tq_b f L) f s c = .inl c := gg_line_0 (fun k hb z => by rw [hk] at z; subst z; decide)
    refine mx_al0 d_Gr_readLine_192 ?_
    refine mx_getR d_Gr_readLine_193 fl_Gr_9 (by assumption) (by assumption) ?_
    refine mx_cV0iR d_Gr_readLine_196 (c_Te_refuseR hTe hs.tok hs.cu) ok_Te_refuse ml_Gr_42 (by assumption) ⟨rfl, rfl⟩ (by decide) (Nat.le_of_ble_eq_true rfl) (fun K1 hK1 => ?_)
    exact mx_zret d_Gr_readLine_199 rfl (bI_01 _) (mx_sR_i (by rw [hq9]; rfl) (by rw [hq9]; exact hs.bad hK1 hd))
  by_cases k_19 : (I (te) 9) = nI 19
  · refine mx_tabIn 192 d_Gr_readLine_7 (by rw [k_19]; decide) (by rw [k_19]; decide) (by rw [k_19]; rfl) (by decide) ?_
    have hk : tK f L c = 19 := (nI_eq (by show tq_k f L (tq_b f L c) < _; omega) (by omega)).mp (hs.cu.2.1.symm.trans k_19)
    have hq9 : gg_line (tK f L) (tV f L) (tZ f L) (tq_b f L) f s c = .inl c := gg_line_0 (fun k hb z => by rw [hk] at z; subst z; decide)
    refine mx_al0 d_Gr_readLine_192 ?_
    refine mx_getR d_Gr_readLine_193 fl_Gr_9 (by assumption) (by assumption) ?_
    refine mx_cV0iR d_Gr_readLine_196 (c_Te_refuseR hTe hs.tok hs.cu) ok_Te_refuse ml_Gr_42 (by assumption) ⟨rfl, rfl⟩ (by decide) (Nat.le_of_ble_eq_true rfl) (fun K1 hK1 => ?_)
    exact mx_zret d_Gr_readLine_199 rfl (bI_01 _) (mx_sR_i (by rw [hq9]; rfl) (by rw [hq9]; exact hs.bad hK1 hd))
  by_cases k_20 : (I (te) 9) = nI 20
  · refine mx_tabIn 192 d_Gr_readLine_7 (by rw [k_20]; decide) (by rw [k_20]; decide) (by rw [k_20]; rfl) (by decide) ?_
    have hk : tK f L c = 20 := (nI_eq (by show tq_k f L (tq_b f L c) < _; omega) (by omega)).mp (hs.cu.2.1.symm.trans k_20)
    have hq9 : gg_line (tK f L) (tV f L) (tZ f L) (tq_b f L) f s c = .inl c := gg_line_0 (fun k hb z => by rw [hk] at z; subst z; decide)
    refine mx_al0 d_Gr_readLine_192 ?_
    refine mx_getR d_Gr_readLine_193 fl_Gr_9 (by assumption) (by assumption) ?_
    refine mx_cV0iR d_Gr_readLine_196 (c_Te_refuseR hTe hs.tok hs.cu) ok_Te_refuse ml_Gr_42 (by assumption) ⟨rfl, rfl⟩ (by decide) (Nat.le_of_ble_eq_true rfl) (fun K1 hK1 => ?_)
    exact mx_zret d_Gr_readLine_199 rfl (bI_01 _) (mx_sR_i (by rw [hq9]; rfl) (by rw [hq9]; exact hs.bad hK1 hd))
  by_cases k_21 : (I (te) 9) = nI 21
  · refine mx_tabIn 192 d_Gr_readLine_7 (by rw [k_21]; decide) (by rw [k_21]; decide) (by rw [k_21]; rfl) (by decide) ?_
    have hk : tK f L c = 21 := (nI_eq (by show tq_k f L (tq_b f L c) < _; omega) (by omega)).mp (hs.cu.2.1.symm.trans k_21)
    have hq9 : gg_line (tK f L) (tV f L) (tZ f L) (tq_b f L) f s c = .inl c := gg_line_0 (fun k hb z => by rw [hk] at z; subst z; decide)
    refine mx_al0 d_Gr_readLine_192 ?_
    refine mx_getR d_Gr_readLine_193 fl_Gr_9 (by assumption) (by assumption) ?_
    refine mx_cV0iR d_Gr_readLine_196 (c_Te_refuseR hTe hs.tok hs.cu) ok_Te_refuse ml_Gr_42 (by assumption) ⟨rfl, rfl⟩ (by decide) (Nat.le_of_ble_eq_true rfl) (fun K1 hK1 => ?_)
    exact mx_zret d_Gr_readLine_199 rfl (bI_01 _) (mx_sR_i (by rw [hq9]; rfl) (by rw [hq9]; exact hs.bad hK1 hd))
  by_cases k_22 : (I (te) 9) = nI 22
  · refine mx_tabIn 192 d_Gr_readLine_7 (by rw [k_22]; decide) (by rw [k_22]; decide) (by rw [k_22]; rfl) (by decide) ?_
    have hk : tK f L c = 22 := (nI_eq (by show tq_k f L (tq_b f L c) < _; omega) (by omega)).mp (hs.cu.2.1.symm.trans k_22)
    have hq9 : gg_line (tK f L) (tV f L) (tZ f L) (tq_b f L) f s c = .inl c := gg_line_0 (fun k hb z => by rw [hk] at z; subst z; decide)
    refine mx_al0 d_Gr_readLine_192 ?_
    refine mx_getR d_Gr_readLine_193 fl_Gr_9 (by assumption) (by assumption) ?_
    refine mx_cV0iR d_Gr_readLine_196 (c_Te_refuseR hTe hs.tok hs.cu) ok_Te_refuse ml_Gr_42 (by assumption) ⟨rfl, rfl⟩ (by decide) (Nat.le_of_ble_eq_true rfl) (fun K1 hK1 => ?_)
    exact mx_zret d_Gr_readLine_199 rfl (bI_01 _) (mx_sR_i (by rw [hq9]; rfl) (by rw [hq9]; exact hs.bad hK1 hd))
  by_cases k_23 : (I (te) 9) = nI 23
  · refine mx_tabIn 192 d_Gr_readLine_7 (by rw [k_23]; decide) (by rw [k_23]; decide) (by rw [k_23]; rfl) (by decide) ?_
    have hk : tK f L c = 23 := (nI_eq (by show tq_k f L (tq_b f L c) < _; omega) (by omega)).mp (hs.cu.2.1.symm.trans k_23)
    have hq9 : gg_line (tK f L) (tV f L) (tZ f L) (tq_b f L) f s c = .inl c := gg_line_0 (fun k hb z => by rw [hk] at z; subst z; decide)
    refine mx_al0 d_Gr_readLine_192 ?_
    refine mx_getR d_Gr_readLine_193 fl_Gr_9 (by assumption) (by assumption) ?_
    refine mx_cV0iR d_Gr_readLine_196 (c_Te_refuseR hTe hs.tok hs.cu) ok_Te_refuse ml_Gr_42 (by assumption) ⟨rfl, rfl⟩ (by decide) (Nat.le_of_ble_eq_true rfl) (fun K1 hK1 => ?_)
    exact mx_zret d_Gr_readLine_199 rfl (bI_01 _) (mx_sR_i (by rw [hq9]; rfl) (by rw [hq9]; exact hs.bad hK1 hd))
  by_cases k_24 : (I (te) 9) = nI 24
  · refine mx_tabIn 156 d_Gr_readLine_7 (by rw [k_24]; decide) (by rw [k_24]; decide) (by rw [k_24]; rfl) (by decide) ?_
    have hk : tK f L c = 24 := (nI_eq (by show tq_k f L (tq_b f L c) < _; omega) (by omega)).mp (hs.cu.2.1.symm.trans k_24)
    have hq9 : gg_line (tK f L) (tV f L) (tZ f L) (tq_b f L) f s c = gg_rank (tK f L) (tV f L) (tZ f L) (tq_b f L) f 67 s.1 s.2.1 s c := by unfold gg_line; rw [if_neg (by rw [hk]; omega), if_neg (by rw [hk]; omega), if_pos hk]
    refine mx_al0 d_Gr_readLine_156 ?_
    refine mx_in_1 d_Gr_readLine_157 ?_
    refine mx_cV1iR d_Gr_readLine_158 (c_Gr_ranksL hGr hSt hTe hs.self (by rw [hk]; omega)) ok_Gr_readRanks ml_Gr_63 (by assumption) ⟨rfl, rfl⟩ (by decide) (Nat.le_of_ble_eq_true rfl) (fun K1 hK1 => ?_)
    exact mx_zret d_Gr_readLine_161 rfl (bI_01 _) (mx_sR_i (by rw [hq9]) (by rw [hq9]; exact hK1))
  by_cases k_25 : (I (te) 9) = nI 25
  · refine mx_tabIn 162 d_Gr_readLine_7 (by rw [k_25]; decide) (by rw [k_25]; decide) (by rw [k_25]; rfl) (by decide) ?_
    have hk : tK f L c = 25 := (nI_eq (by show tq_k f L (tq_b f L c) < _; omega) (by omega)).mp (hs.cu.2.1.symm.trans k_25)
    have hq9 : gg_line (tK f L) (tV f L) (tZ f L) (tq_b f L) f s c = gg_rank (tK f L) (tV f L) (tZ f L) (tq_b f L) f 131 s.2.1 s.1 s c := by unfold gg_line; rw [if_neg (by rw [hk]; omega), if_neg (by rw [hk]; omega), if_neg (by rw [hk]; omega), if_pos hk]
    refine mx_al0 d_Gr_readLine_162 ?_
    refine mx_in_0 d_Gr_readLine_163 ?_
    refine mx_cV1iR d_Gr_readLine_164 (c_Gr_ranksV hGr hSt hTe hs.self (by rw [hk]; omega)) ok_Gr_readRanks ml_Gr_63 (by assumption) ⟨rfl, rfl⟩ (by decide) (Nat.le_of_ble_eq_true rfl) (fun K1 hK1 => ?_)
    exact mx_zret d_Gr_readLine_167 rfl (bI_01 _) (mx_sR_i (by rw [hq9]) (by rw [hq9]; exact hK1))
  by_cases k_26 : (I (te) 9) = nI 26
  · refine mx_tabIn 168 d_Gr_readLine_7 (by rw [k_26]; decide) (by rw [k_26]; decide) (by rw [k_26]; rfl) (by decide) ?_
    have hk : tK f L c = 26 := (nI_eq (by show tq_k f L (tq_b f L c) < _; omega) (by omega)).mp (hs.cu.2.1.symm.trans k_26)
    have hq9 : gg_line (tK f L) (tV f L) (tZ f L) (tq_b f L) f s c = gg_fld 5 s (gq_num (tK f L) (tV f L) 0 101 (c + 1)) := by unfold gg_line; rw [if_neg (by rw [hk]; omega), if_neg (by rw [hk]; omega), if_neg (by rw [hk]; omega), if_neg (by rw [hk]; omega), if_pos hk]
    refine mx_al0 d_Gr_readLine_168 ?_
    refine mx_al0 d_Gr_readLine_169 ?_
    refine mx_getR d_Gr_readLine_170 fl_Gr_9 (by assumption) (by assumption) ?_
    refine mx_getI d_Gr_readLine_173 fl_Gr_30 (by assumption) ?_
    refine mx_ti (y := nI (26)) ((hs.cu.2.1.trans (congrArg nI hk))) ?_
    refine mx_cV1iR d_Gr_readLine_176 (c_Gr_numRain hGr hSt hTe hs.self (by rw [hk]; omega)) ok_Gr_readNumber ml_Gr_67 (by assumption) ⟨rfl, rfl⟩ (by decide) (Nat.le_of_ble_eq_true rfl) (fun K1 hK1 => ?_)
    exact mx_zret d_Gr_readLine_179 rfl (bI_01 _) (mx_sR_i (by rw [hq9]) (by rw [hq9]; exact hK1))
  by_cases k_27 : (I (te) 9) = nI 27
  · refine mx_tabIn 180 d_Gr_readLine_7 (by rw [k_27]; decide) (by rw [k_27]; decide) (by rw [k_27]; rfl) (by decide) ?_
    have hk : tK f L c = 27 := (nI_eq (by show tq_k f L (tq_b f L c) < _; omega) (by omega)).mp (hs.cu.2.1.symm.trans k_27)
    have hq9 : gg_line (tK f L) (tV f L) (tZ f L) (tq_b f L) f s c = gg_fld 7 s (gq_let (tK f L) (tV f L) (c + 1)) := by unfold gg_line; rw [if_neg (by rw [hk]; omega), if_neg (by rw [hk]; omega), if_neg (by rw [hk]; omega), if_neg (by rw [hk]; omega), if_neg (by rw [hk]; omega), if_neg (by rw [hk]; omega), if_pos hk]
    refine mx_al0 d_Gr_readLine_180 ?_
    refine mx_al0 d_Gr_readLine_181 ?_
    refine mx_getR d_Gr_readLine_182 fl_Gr_9 (by assumption) (by assumption) ?_
    refine mx_getI d_Gr_readLine_185 fl_Gr_30 (by assumption) ?_
    refine mx_ti (y := nI (27)) ((hs.cu.2.1.trans (congrArg nI hk))) ?_
    refine mx_cV1iR d_Gr_readLine_188 (c_Gr_gateMust hGr hSt hTe hs.self (by rw [hk]; omega)) ok_Gr_readGate ml_Gr_70 (by assumption) ⟨rfl, rfl⟩ (by decide) (Nat.le_of_ble_eq_true rfl) (fun K1 hK1 => ?_)
    exact mx_zret d_Gr_readLine_191 rfl (bI_01 _) (mx_sR_i (by rw [hq9]) (by rw [hq9]; exact hK1))
  by_cases k_28 : (I (te) 9) = nI 28
  · refine mx_tabIn 180 d_Gr_readLine_7 (by rw [k_28]; decide) (by rw [k_28]; decide) (by rw [k_28]; rfl) (by decide) ?_
    have hk : tK f L c = 28 := (nI_eq (by show tq_k f L (tq_b f L c) < _; omega) (by omega)).mp (hs.cu.2.1.symm.trans k_28)
    have hq9 : gg_line (tK f L) (tV f L) (tZ f L) (tq_b f L) f s c = gg_fld 8 s (gq_let (tK f L) (tV f L) (c + 1)) := by unfold gg_line; rw [if_neg (by rw [hk]; omega), if_neg (by rw [hk]; omega), if_neg (by rw [hk]; omega), if_neg (by rw [hk]; omega), if_neg (by rw [hk]; omega), if_neg (by rw [hk]; omega), if_neg (by rw [hk]; omega), if_pos hk]
    refine mx_al0 d_Gr_readLine_180 ?_
    refine mx_al0 d_Gr_readLine_181 ?_
    refine mx_getR d_Gr_readLine_182 fl_Gr_9 (by assumption) (by assumption) ?_
    refine mx_getI d_Gr_readLine_185 fl_Gr_30 (by assumption) ?_
    refine mx_ti (y := nI (28)) ((hs.cu.2.1.trans (congrArg nI hk))) ?_
    refine mx_cV1iR d_Gr_readLine_188 (c_Gr_gateNot hGr hSt hTe hs.self (by rw [hk]; omega)) ok_Gr_readGate ml_Gr_70 (by assumption) ⟨rfl, rfl⟩ (by decide) (Nat.le_of_ble_eq_true rfl) (fun K1 hK1 => ?_)
    exact mx_zret d_Gr_readLine_191 rfl (bI_01 _) (mx_sR_i (by rw [hq9]) (by rw [hq9]; exact hK1))
  refine mx_tabOut 192 d_Gr_readLine_7 (by exact gg_tab (by show tq_k f L (tq_b f L c) < _; omega) hs.cu.2.1 (fun k h1 h2 z => by rcases (show k = 10 ∨ k = 11 ∨ k = 12 ∨ k = 13 ∨ k = 14 ∨ k = 15 ∨ k = 16 ∨ k = 17 ∨ k = 18 ∨ k = 19 ∨ k = 20 ∨ k = 21 ∨ k = 22 ∨ k = 23 ∨ k = 24 ∨ k = 25 ∨ k = 26 ∨ k = 27 ∨ k = 28 by omega) with rfl | rfl | rfl | rfl | rfl | rfl | rfl | rfl | rfl | rfl | rfl | rfl | rfl | rfl | rfl | rfl | rfl | rfl | rfl <;> first | exact k_10 z | exact k_11 z | exact k_12 z | exact k_13 z | exact k_14 z | exact k_15 z | exact k_16 z | exact k_17 z | exact k_18 z | exact k_19 z | exact k_20 z | exact k_21 z | exact k_22 z | exact k_23 z | exact k_24 z | exact k_25 z | exact k_26 z | exact k_27 z | exact k_28 z)) (by decide) ?_
  have hq9 : gg_line (tK f L) (tV f L) (tZ f L) (tq_b f L) f s c = .inl c := gg_line_0 (fun k hb z => absurd (hs.cu.2.1.trans (congrArg nI z)) (fun z => by have hb1 := hb.1; have hb2 := hb.2; rcases (show k = 10 ∨ k = 11 ∨ k = 12 ∨ k = 13 ∨ k = 14 ∨ k = 15 ∨ k = 16 ∨ k = 17 ∨ k = 18 ∨ k = 19 ∨ k = 20 ∨ k = 21 ∨ k = 22 ∨ k = 23 ∨ k = 24 ∨ k = 25 ∨ k = 26 ∨ k = 27 ∨ k = 28 by omega) with rfl | rfl | rfl | rfl | rfl | rfl | rfl | rfl | rfl | rfl | rfl | rfl | rfl | rfl | rfl | rfl | rfl | rfl | rfl <;> first | exact k_10 z | exact k_11 z | exact k_12 z | exact k_13 z | exact k_14 z | exact k_15 z | exact k_16 z | exact k_17 z | exact k_18 z | exact k_19 z | exact k_20 z | exact k_21 z | exact k_22 z | exact k_23 z | exact k_24 z | exact k_25 z | exact k_26 z | exact k_27 z | exact k_28 z))
  refine mx_al0 d_Gr_readLine_192 ?_
  refine mx_getR d_Gr_readLine_193 fl_Gr_9 (by assumption) (by assumption) ?_
  refine mx_cV0iR d_Gr_readLine_196 (c_Te_refuseR hTe hs.tok hs.cu) ok_Te_refuse ml_Gr_42 (by assumption) ⟨rfl, rfl⟩ (by decide) (Nat.le_of_ble_eq_true rfl) (fun K1 hK1 => ?_)
  exact mx_zret d_Gr_readLine_199 rfl (bI_01 _) (mx_sR_i (by rw [hq9]; rfl) (by rw [hq9]; exact hs.bad hK1 hd))
end BA68
