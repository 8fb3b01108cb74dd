/-! THE GROUND: what its lines tell -/
section AZ67
variable {l : Launch} {E : mx_Env} {t : Nat} {S : mx_S} {I K K2 : mx_I} {P : mx_P} {J : mx_G} {gr te dr L c e z n tt Hn Gn : Nat} {f : Nat → Nat} {w v : Int32} {m : Nat → Int32} {b : Bool}
/-- so many HOSTS, so many GUESTS, and the row -/
abbrev gg_S : Type := Nat × Nat × (Nat → Int32)
def gg_hrs (K : Nat → Nat) (V : Nat → Option Nat) (t : Nat) : Nat ⊕ ((Nat × Nat) × Nat) := match gq_aft K V 20 0 8 t with
  | .inl e => .inl e
  | .inr p => match gq_aft K V 21 p.1 8 p.2 with
    | .inl e => .inl e
    | .inr q => .inr ((p.1, q.1), q.2)
def gg_bits (a b : Nat) : Int32 := (nI 1 <<< (nI (b + 1) &&& 31)) - (nI 1 <<< (nI a &&& 31))
def gg_hostm (s : gg_S) (p a b : Nat) : gg_S := (s.1 + 1, s.2.1, updI (updI (updI s.2.2 (11 + 4 * s.1) (nI p)) (11 + 4 * s.1 + 1) (gg_bits a b)) 3 (nI (s.1 + 1)))
def gg_host (K : Nat → Nat) (V : Nat → Option Nat) (s : gg_S) (t : Nat) : Nat ⊕ (gg_S × Nat) := match gq_aft K V 19 0 10 (t + 1) with
  | .inl e => .inl e
  | .inr p => match gg_hrs K V p.2 with
    | .inl e => .inl e
    | .inr q => .inr (gg_hostm s p.1 q.1.1 q.1.2, q.2)
def gg_mk (K : Nat → Nat) (V : Nat → Option Nat) (t : Nat) : Nat ⊕ (Nat × Nat) := if K t = 23 then gq_let K V (t + 1) else .inr (0, t)
def gg_guestm (s : gg_S) (p a b k : Nat) : gg_S := (s.1, s.2.1 + 1, updI (updI (updI (updI s.2.2 (43 + 3 * s.2.1) (nI p)) (43 + 3 * s.2.1 + 1) (gg_bits a b)) (43 + 3 * s.2.1 + 2) (nI k)) 4 (nI (s.2.1 + 1)))
def gg_guest (K : Nat → Nat) (V : Nat → Option Nat) (s : gg_S) (t : Nat) : Nat ⊕ (gg_S × Nat) := match gq_aft K V 22 1 5 (t + 1) with
  | .inl e => .inl e
  | .inr p => match gg_hrs K V p.2 with
    | .inl e => .inl e
    | .inr q => match gg_mk K V q.2 with
      | .inl e => .inl e
      | .inr k => .inr (gg_guestm s p.1 q.1.1 q.1.2 k.1, k.2)
/-- the ranks told by n figures from the byte a on, from the place b of the row on -/
def gg_set (m : Nat → Int32) (f : Nat → Nat) (a b n : Nat) : Nat → Int32 := fun j => if b ≤ j ∧ j < b + n then nI (f (a + (j - b)) - 48) else m j
def gg_rank (K : Nat → Nat) (V : Nat → Option Nat) (Z B : Nat → Nat) (f : Nat → Nat) (base many others : Nat) (s : gg_S) (t : Nat) : Nat ⊕ (gg_S × Nat) := match gq_num K V 0 many (t + 1) with
  | .inl e => .inl e
  | .inr p => match gq_fig K Z others p.2 with
    | .inl e => .inl e
    | .inr u => .inr ((s.1, s.2.1, gg_set s.2.2 f (B p.2) (base + 8 * p.1) others), u)
def gg_fld (k : Nat) (s : gg_S) (r : Nat ⊕ (Nat × Nat)) : Nat ⊕ (gg_S × Nat) := match r with
  | .inl e => .inl e
  | .inr p => .inr ((s.1, s.2.1, updI s.2.2 k (nI p.1)), p.2)
def gg_line (K : Nat → Nat) (V : Nat → Option Nat) (Z B : Nat → Nat) (f : Nat → Nat) (s : gg_S) (t : Nat) : Nat ⊕ (gg_S × Nat) :=
  if K t = 10 then (if s.1 < 8 then gg_host K V s t else .inl t)
  else if K t = 11 then (if s.2.1 < 8 then gg_guest K V s t else .inl t)
  else if K t = 24 then gg_rank K V Z B f 67 s.1 s.2.1 s t
  else if K t = 25 then gg_rank K V Z B f 131 s.2.1 s.1 s t
  else if K t = 26 then gg_fld 5 s (gq_num K V 0 101 (t + 1))
  else if K t = 16 then gg_fld 6 s (gq_num K V 0 1000 (t + 1))
  else if K t = 27 then gg_fld 7 s (gq_let K V (t + 1))
  else if K t = 28 then gg_fld 8 s (gq_let K V (t + 1))
  else .inl t
/-- which place of the people's rows tells which of the row -/
def pe_cor (r j k : Nat) : Prop := (r = 0 ∧ j = 0 ∧ k = 3) ∨ (r = 0 ∧ j = 1 ∧ k = 4) ∨ (r = 1 ∧ j < 8 ∧ k = 11 + 4 * j) ∨ (r = 2 ∧ j < 8 ∧ k = 12 + 4 * j) ∨ (r = 3 ∧ j < 8 ∧ k = 43 + 3 * j) ∨ (r = 4 ∧ j < 8 ∧ k = 44 + 3 * j) ∨ (r = 5 ∧ j < 8 ∧ k = 45 + 3 * j) ∨ (r = 6 ∧ j < 64 ∧ k = 67 + j) ∨ (r = 7 ∧ j < 64 ∧ k = 131 + 8 * (j % 8) + j / 8)
theorem pe_upc {pe r j k : Nat} (h : pe_rel I pe m) (hc : pe_cor r j k) : pe_rel (mx_up I (pe + r) j v) pe (updI m k v) := by
  have key : ∀ r' j' k', pe_cor r' j' k' → I (pe + r') j' = m k' → mx_up I (pe + r) j v (pe + r') j' = updI m k v k' := fun r' j' k' hc' he => by
    unfold pe_cor at hc hc'
    by_cases e : r' = r ∧ j' = j
    · obtain ⟨e1, e2⟩ := e
      have e3 : k' = k := by subst e1; subst e2; omega
      subst e1; subst e2; subst e3
      rw [updI_e]; simp [mx_up]
    · have e3 : ¬ k' = k := by omega
      rw [updI_n e3, ← he]
      by_cases e1 : r' = r
      · have e2 : ¬ j' = j := fun z => e ⟨e1, z⟩
        simp [mx_up, e1, e2]
      · simp [mx_up, e1]
  obtain ⟨h0, h1, h2, h3, h4, h5, h6, h7, h8⟩ := h
  refine ⟨key 0 0 3 (by unfold pe_cor; omega) h0, key 0 1 4 (by unfold pe_cor; omega) h1, fun a ha => key 1 a _ (by unfold pe_cor; omega) (h2 a ha), fun a ha => key 2 a _ (by unfold pe_cor; omega) (h3 a ha), fun a ha => key 3 a _ (by unfold pe_cor; omega) (h4 a ha), fun a ha => key 4 a _ (by unfold pe_cor; omega) (h5 a ha), fun a ha => key 5 a _ (by unfold pe_cor; omega) (h6 a ha), fun a g ha hg => key 6 (8 * a + g) _ (by unfold pe_cor; omega) (h7 a g ha hg), fun a g ha hg => key 7 (8 * a + g) _ (by unfold pe_cor; omega) (h8 a g ha hg)⟩
theorem st_upc {s r j k : Nat} (h : st_rel I s m) (hc : pe_cor r j k) : st_rel (mx_up I (s + 1 + r) j v) s (updI m k v) := by
  have hc0 := hc
  obtain ⟨h0, h1, h2, h3, h4, h5, h6, h7, h8, h9⟩ := h
  unfold pe_cor at hc
  refine ⟨pe_upc h0 hc0, ?_, ?_, ?_, ?_, ?_, ?_, fun a ha => ?_, fun a ha => ?_, fun a b ha hb => ?_⟩
  · rw [mx_up_ne (by omega), updI_n (by omega)]; exact h1
  · rw [mx_up_ne (by omega), updI_n (by omega)]; exact h2
  · rw [mx_up_ne (by omega), updI_n (by omega)]; exact h3
  · rw [mx_up_ne (by omega), updI_n (by omega)]; exact h4
  · rw [mx_up_ne (by omega), updI_n (by omega)]; exact h5
  · rw [mx_up_ne (by omega), updI_n (by omega)]; exact h6
  · rw [mx_up_ne (by omega), updI_n (by omega)]; exact h7 a ha
  · rw [mx_up_ne (by omega), updI_n (by omega)]; exact h8 a ha
  · rw [mx_up_ne (by omega), updI_n (by omega)]; exact h9 a b ha hb
theorem st_fl4 {s f k : Nat} (hs : st_rel I s m) (hf : f = 4 ∧ k = 5 ∨ f = 5 ∧ k = 6 ∨ f = 6 ∧ k = 7 ∨ f = 7 ∧ k = 8) : st_rel (mx_up I s f v) s (updI m k v) := by
  obtain ⟨h0, h1, h2, h3, h4, h5, h6, h7, h8, h9⟩ := hs
  have key : ∀ f' k', (f' = 3 ∧ k' = 0 ∨ f' = 4 ∧ k' = 5 ∨ f' = 5 ∧ k' = 6 ∨ f' = 6 ∧ k' = 7 ∨ f' = 7 ∧ k' = 8 ∨ f' = 8 ∧ k' = 10) → I s f' = m k' → mx_up I s f v s f' = updI m k v k' := fun f' k' hc he => by
    by_cases e : f' = f
    · have e2 : k' = k := by omega
      subst e; subst e2
      rw [updI_e]; simp [mx_up]
    · rw [updI_n (by omega), ← he]; simp [mx_up, e]
  refine ⟨(h0.congr (fun c h1 h2 => mx_up_ne (by omega))).cm (fun k' hk => updI_n (by omega)), key 3 0 (by omega) h1, key 4 5 (by omega) h2, key 5 6 (by omega) h3, key 6 7 (by omega) h4, key 7 8 (by omega) h5, key 8 10 (by omega) h6, fun a ha => ?_, fun a ha => ?_, fun a b ha hb => ?_⟩
  · rw [mx_up_ne (by omega), updI_n (by omega)]; exact h7 a ha
  · rw [mx_up_ne (by omega), updI_n (by omega)]; exact h8 a ha
  · rw [mx_up_ne (by omega), updI_n (by omega)]; exact h9 a b ha hb
/-- what reading the ground may change -/
def go_off (I K : mx_I) (dr te : Nat) : Prop := (∀ a, a ≠ te → (a < dr ∨ dr + 9 ≤ a) → K a = I a) ∧ (∀ k, k ≠ 2 → k ≠ 8 → k ≠ 9 → K te k = I te k) ∧ ∀ k, k ≠ 4 → k ≠ 5 → k ≠ 6 → k ≠ 7 → K dr k = I dr k
theorem go_off.rf : go_off I I dr te := ⟨fun _ _ _ => rfl, fun _ _ _ _ => rfl, fun _ _ _ _ _ => rfl⟩
theorem go_off.tr (h : go_off I K dr te) (h2 : go_off K K2 dr te) : go_off I K2 dr te := ⟨fun a h0 h1 => (h2.1 a h0 h1).trans (h.1 a h0 h1), fun k a b c => (h2.2.1 k a b c).trans (h.2.1 k a b c), fun k a b c d => (h2.2.2 k a b c d).trans (h.2.2 k a b c d)⟩
theorem tk_off.go (h : tk_off I K te) (hd : te + 6 ≤ dr) : go_off I K dr te := ⟨fun a h0 _ => h.1 a h0, h.2, fun k _ _ _ _ => by rw [h.1 dr (by omega)]⟩
theorem go_off.ur {r j : Nat} (h : go_off I K dr te) (hd : te + 6 ≤ dr) (hr : 1 ≤ r) (hr8 : r ≤ 8) : go_off I (mx_up K (dr + r) j v) dr te := ⟨fun a h0 h1 => by rw [mx_up_ne (by omega)]; exact h.1 a h0 h1, fun k a b c => by rw [mx_up_ne (by omega)]; exact h.2.1 k a b c, fun k a b c d => by rw [mx_up_ne (by omega)]; exact h.2.2 k a b c d⟩
theorem go_off.uf {j : Nat} (h : go_off I K dr te) (hd : te + 6 ≤ dr) (hj : j = 4 ∨ j = 5 ∨ j = 6 ∨ j = 7) : go_off I (mx_up K dr j v) dr te := ⟨fun a h0 h1 => by rw [mx_up_ne (by omega)]; exact h.1 a h0 h1, fun k a b c => by rw [mx_up_ne (by omega)]; exact h.2.1 k a b c, fun k a b c d => by rw [← h.2.2 k a b c d]; simp [mx_up, show ¬ k = j by omega]⟩
/-- the text stands at the token tt, the draft tells s -/
def go_s (I K : mx_I) (dr te : Nat) (f : Nat → Nat) (L tt : Nat) (s : gg_S) : Prop := go_off I K dr te ∧ K te 2 = I te 2 ∧ tk_tok K te f L ∧ tk_cur K te f L tt ∧ st_rel K dr s.2.2 ∧ s.2.2 3 = nI s.1 ∧ s.2.2 4 = nI s.2.1 ∧ s.1 ≤ 8 ∧ s.2.1 ≤ 8
def go_bad (I K : mx_I) (dr te : Nat) (f : Nat → Nat) (L e : Nat) : Prop := go_off I K dr te ∧ K te 2 = nI (tq_b f L e)
def go_out (I K : mx_I) (dr te : Nat) (f : Nat → Nat) (L : Nat) (r : Nat ⊕ (gg_S × Nat)) : Prop := match r with
  | .inl e => go_bad I K dr te f L e
  | .inr q => go_s I K dr te f L q.2 q.1
theorem go_s.tok {s : gg_S} (h : go_s I K dr te f L tt s) : tk_tok K te f L := h.2.2.1
theorem go_s.cu {s : gg_S} (h : go_s I K dr te f L tt s) : tk_cur K te f L tt := h.2.2.2.1
theorem go_s.st {s : gg_S} (h : go_s I K dr te f L tt s) : st_rel K dr s.2.2 := h.2.2.2.2.1
theorem go_s.self {s : gg_S} (h : go_s I K dr te f L tt s) : go_s K K dr te f L tt s := ⟨go_off.rf, rfl, h.2.2⟩
theorem go_s.tr {s s2 : gg_S} {t2 : Nat} (h : go_s I K dr te f L tt s) (h2 : go_s K K2 dr te f L t2 s2) : go_s I K2 dr te f L t2 s2 := ⟨h.1.tr h2.1, h2.2.1.trans h.2.1, h2.2.2⟩
theorem go_s.trb {s : gg_S} (h : go_s I K dr te f L tt s) (h2 : go_bad K K2 dr te f L e) : go_bad I K2 dr te f L e := ⟨h.1.tr h2.1, h2.2⟩
theorem go_s.tk {s : gg_S} {t2 : Nat} (h : go_s I K dr te f L tt s) (ho : tk_out K K2 te f L (.inr t2)) (hd : te + 6 ≤ dr) : go_s I K2 dr te f L t2 s := by
  obtain ⟨h1, h2, h3, h4, h5, h6⟩ := h
  obtain ⟨o1, o2, o3⟩ := ho
  exact ⟨h1.tr (o1.go hd), by rw [o3, h2], o1.all h3, o2, h5.congr (fun c a b => o1.1 c (by omega)), h6⟩
theorem go_s.bad {s : gg_S} (h : go_s I K dr te f L tt s) (ho : tk_out K K2 te f L (.inl e)) (hd : te + 6 ≤ dr) : go_bad I K2 dr te f L e := ⟨h.1.tr (ho.1.go hd), ho.2⟩
theorem go_s.up {s s2 : gg_S} (h : go_s I K dr te f L tt s) (hd : te + 6 ≤ dr) (ho : go_off K K2 dr te) (hte : K2 te = K te) (hst : st_rel K2 dr s2.2.2) (h3 : s2.2.2 3 = nI s2.1) (h4 : s2.2.2 4 = nI s2.2.1) (h8 : s2.1 ≤ 8) (h9 : s2.2.1 ≤ 8) (hrow : ∀ a, te ≤ a → a ≤ te + 5 → K2 a = K a) : go_s I K2 dr te f L tt s2 := by
  obtain ⟨g1, g2, g3, g4, -⟩ := h
  exact ⟨g1.tr ho, by rw [hte]; exact g2, g3.cg hrow, by unfold tk_cur; rw [hte]; exact g4, hst, h3, h4, h8, h9⟩
def gx_ok (S : mx_S) (P : mx_P) (gr te dr : Nat) : Prop := S gr = some (0, 9) ∧ P gr 0 = some te ∧ P gr 1 = some dr ∧ te + 6 ≤ gr ∧ gr < dr
theorem gq_aft_go {kw lo hb : Nat} (hlo : lo < 1000) : (∀ q, gq_aft (tK f L) (tV f L) kw lo hb c = .inr q → tK f L c = kw ∧ q.2 = c + 2 ∧ q.1 < hb ∧ lo ≤ q.1) := fun q h => by
  unfold gq_aft at h
  split at h
  · rename_i hk
    have := (gq_num_go (tK0 rfl)).1 q h
    exact ⟨hk, by omega, by omega, by omega⟩
  · cases h
def gg_hv (r : Nat ⊕ ((Nat × Nat) × Nat)) : Int32 := match r with | .inl _ => -1 | .inr q => gg_bits q.1.1 q.1.2
def gg_hn (r : Nat ⊕ ((Nat × Nat) × Nat)) : Nat ⊕ Nat := match r with | .inl e => .inl e | .inr q => .inr q.2
theorem gg_hrs_1 {e : Nat} (h : gq_aft (tK f L) (tV f L) 20 0 8 c = .inl e) : gg_hrs (tK f L) (tV f L) c = .inl e := by unfold gg_hrs; rw [h]
theorem gg_hrs_2 {e : Nat} {p : Nat × Nat} (h : gq_aft (tK f L) (tV f L) 20 0 8 c = .inr p) (h2 : gq_aft (tK f L) (tV f L) 21 p.1 8 p.2 = .inl e) : gg_hrs (tK f L) (tV f L) c = .inl e := by unfold gg_hrs; rw [h]; simp only; rw [h2]
theorem gg_hrs_3 {p q : Nat × Nat} (h : gq_aft (tK f L) (tV f L) 20 0 8 c = .inr p) (h2 : gq_aft (tK f L) (tV f L) 21 p.1 8 p.2 = .inr q) : gg_hrs (tK f L) (tV f L) c = .inr ((p.1, q.1), q.2) := by unfold gg_hrs; rw [h]; simp only; rw [h2]
theorem hlt8 : ∀ v, v < 10000 → (nI v ≤ nI 7 ↔ v < 8) := fun v hv => by rw [nI_leI (by omega) (by omega)]; omega
theorem hle9 : ∀ v, v < 10000 → (nI v ≤ nI 9 ↔ v < 10) := fun v hv => by rw [nI_leI (by omega) (by omega)]; omega
theorem hle4 : ∀ v, v < 10000 → (nI v ≤ nI 4 ↔ v < 5) := fun v hv => by rw [nI_leI (by omega) (by omega)]; omega
theorem hle100 : ∀ v, v < 10000 → (nI v ≤ nI 100 ↔ v < 101) := fun v hv => by rw [nI_leI (by omega) (by omega)]; omega
theorem gg_bits_n : ∀ a, a < 8 → ∀ b, b < 8 → a ≤ b → ¬ gg_bits a b = -1 := by decide +kernel
def gx_out (I K : mx_I) (dr te : Nat) (f : Nat → Nat) (L : Nat) (s : gg_S) (r : Nat ⊕ Nat) : Prop := match r with
  | .inl e => go_bad I K dr te f L e
  | .inr q => go_s I K dr te f L q s
theorem c_Gr_hours (hGr : gx_ok S P gr te dr) (hSt : st_ok S P dr) (hTe : te_ok S P te) {s : gg_S} (hs0 : go_s I I dr te f L c s)  : mx_C l E M_Gr_readHours 3 0 0 [.ref (gr)] (t, S, I, P, J) (mx_sR (some (.int (gg_hv (gg_hrs (tK f L) (tV f L) c)))) t S P J (fun K => gx_out I K dr te f L s (gg_hn (gg_hrs (tK f L) (tV f L) c)))) := by
  obtain ⟨hG0, hG1, hG2, hG3, hG4⟩ := id hGr
  obtain ⟨hC0, hC1, hC2, hC3, hC4, hC5, hC6, hD1, hD2, hD3, hD4, hPe, hLo⟩ := id hSt
  obtain ⟨hA0, hA1, hA2, hA3, hA4, hA5, hA6, hA7, hB1, hB2, hB3, hB4, hB5, hB6, hB7⟩ := id hPe
  obtain ⟨hT0, hT1, hT2, hT3, hT4, hT5, hT6, hT7, hT8, hT9, hT10⟩ := id hTe
  have hd : te + 6 ≤ dr := by omega
  have hs := hs0
  have hL9 := hs0.2.2.1.1.2.2
  have hTL := tq_n_le f L
  have hk36 := tq_k_lt f L (tq_b f L c)
  refine mx_C_of (ls0 := [some (.ref (gr)), none, none]) (by decide +kernel) rfl rfl (Nat.le_of_ble_eq_true rfl) rfl ?_
  refine mx_al0 d_Gr_readHours_0 ?_
  refine mx_getR d_Gr_readHours_1 fl_Gr_9 (by assumption) (by assumption) ?_
  refine mx_bip 20 d_Gr_readHours_4 (by decide) ?_
  refine mx_cV1iR d_Gr_readHours_6 (c_Te_takes hTe hs.tok hs.cu (w := 20) (by omega) (by omega)) ok_Te_takes ml_Gr_38 (by assumption) ⟨rfl, rfl⟩ (by decide) (Nat.le_of_ble_eq_true rfl) (fun K1 hK1 => ?_)
  refine mx_ifB_ne 14 d_Gr_readHours_9 (by decide) (fun c_9 => ?_) (fun c_9 => ?_)
  · skip
    have hk20 : tK f L (c) = 20 := Decidable.byContradiction (fun z => by rw [gq_tk_n z] at c_9; cases c_9)
    rw [gq_tk_y hk20] at hK1
    have hs := hs.tk hK1 hd
    refine mx_al0 d_Gr_readHours_14 ?_
    refine mx_getR d_Gr_readHours_15 fl_Gr_9 (by assumption) (by assumption) ?_
    refine mx_in_0 d_Gr_readHours_18 ?_
    refine mx_bip 7 d_Gr_readHours_19 (by decide) ?_
    refine mx_cV2iR d_Gr_readHours_21 (c_Te_number hTe hs.tok hs.cu (lo := 0) (hb := 8) (by omega) (fun v hv => hlt8 v (by omega))) ok_Te_number ml_Gr_76 (by assumption) ⟨rfl, rfl⟩ (by decide) (Nat.le_of_ble_eq_true rfl) (fun K2 hK2 => ?_)
    refine mx_is1 d_Gr_readHours_24 ?_
    refine mx_il1 d_Gr_readHours_25 ?_
    refine mx_ic_m1 d_Gr_readHours_26 ?_
    refine mx_icmp_eq 42 d_Gr_readHours_27 (by decide) (fun c_27 => ?_) (fun c_27 => ?_)
    · skip
      obtain ⟨e0, hn0⟩ := gq_vl_n c_27 (fun q hq => by have := ((gq_num_go (tK0 rfl)).1 q hq).2.2.1; omega)
      rw [hn0] at hK2
      have hK2 : tk_out _ K2 te f L (.inl e0) := hK2
      have hq9 := gg_hrs_1 (f := f) (L := L) ((if_pos hk20 : gq_aft (tK f L) (tV f L) 20 0 8 c = _).trans hn0)
      refine mx_ic_m1 d_Gr_readHours_42 ?_
      exact mx_iret d_Gr_readHours_43 rfl (mx_sR_i (by rw [hq9]; rfl) (by rw [hq9]; exact hs.bad hK2 hd))
    · skip
      obtain ⟨p, hnp, hvp⟩ := gq_vl_y c_27
      rw [hnp] at hK2
      have hK2 : tk_out _ K2 te f L (.inr p.2) := hK2
      have hs := hs.tk hK2 hd
      have hgp := (gq_num_go (tK0 rfl)).1 p hnp
      have ha1 := (if_pos hk20 : gq_aft (tK f L) (tV f L) 20 0 8 c = _).trans hnp
      refine mx_al0 d_Gr_readHours_30 ?_
      refine mx_getR d_Gr_readHours_31 fl_Gr_9 (by assumption) (by assumption) ?_
      refine mx_bip 21 d_Gr_readHours_34 (by decide) ?_
      refine mx_cV1iR d_Gr_readHours_36 (c_Te_takes hTe hs.tok hs.cu (w := 21) (by omega) (by omega)) ok_Te_takes ml_Gr_38 (by assumption) ⟨rfl, rfl⟩ (by decide) (Nat.le_of_ble_eq_true rfl) (fun K3 hK3 => ?_)
      refine mx_ifB_ne 44 d_Gr_readHours_39 (by decide) (fun c_39 => ?_) (fun c_39 => ?_)
      · skip
        have hk21 : tK f L (p.2) = 21 := Decidable.byContradiction (fun z => by rw [gq_tk_n z] at c_39; cases c_39)
        rw [gq_tk_y hk21] at hK3
        have hs := hs.tk hK3 hd
        refine mx_al0 d_Gr_readHours_44 ?_
        refine mx_getR d_Gr_readHours_45 fl_Gr_9 (by assumption) (by assumption) ?_
        refine mx_il1 d_Gr_readHours_48 ?_
        refine mx_ti (y := nI (p.1)) (hvp) ?_
        refine mx_bip 7 d_Gr_readHours_49 (by decide) ?_
        refine mx_cV2iR d_Gr_readHours_51 (c_Te_number hTe hs.tok hs.cu (lo := p.1) (hb := 8) (by omega) (fun v hv => hlt8 v (by omega))) ok_Te_number ml_Gr_76 (by assumption) ⟨rfl, rfl⟩ (by decide) (Nat.le_of_ble_eq_true rfl) (fun K4 hK4 => ?_)
        refine mx_is2 d_Gr_readHours_54 ?_
        refine mx_il2 d_Gr_readHours_55 ?_
        refine mx_ic_m1 d_Gr_readHours_56 ?_
        refine mx_icmp_ne 64 d_Gr_readHours_57 (by decide) (fun c_57 => ?_) (fun c_57 => ?_)
        · skip
          obtain ⟨q, hnq, hvq⟩ := gq_vl_y c_57
          rw [hnq] at hK4
          have hK4 : tk_out _ K4 te f L (.inr q.2) := hK4
          have hs := hs.tk hK4 hd
          have hgq := (gq_num_go (tK0 rfl)).1 q hnq
          have ha2 := (if_pos hk21 : gq_aft (tK f L) (tV f L) 21 p.1 8 p.2 = _).trans hnq
          have hq9 := gg_hrs_3 (f := f) (L := L) ha1 ha2
          refine mx_in_1 d_Gr_readHours_64 ?_
          refine mx_il2 d_Gr_readHours_65 ?_
          refine mx_ti (y := nI (q.1)) (hvq) ?_
          refine mx_in_1 d_Gr_readHours_66 ?_
          refine mx_iaddN d_Gr_readHours_67 ?_
          refine mx_ishl d_Gr_readHours_68 ?_
          refine mx_in_1 d_Gr_readHours_69 ?_
          refine mx_il1 d_Gr_readHours_70 ?_
          refine mx_ti (y := nI (p.1)) (hvp) ?_
          refine mx_ishl d_Gr_readHours_71 ?_
          refine mx_isub d_Gr_readHours_72 ?_
          exact mx_iret d_Gr_readHours_73 rfl (mx_sR_i (by rw [hq9]; rfl) (by rw [hq9]; exact hs))
        · skip
          obtain ⟨e0, hn0⟩ := gq_vl_n c_57 (fun q hq => by have := ((gq_num_go (tK0 rfl)).1 q hq).2.2.1; omega)
          rw [hn0] at hK4
          have hK4 : tk_out _ K4 te f L (.inl e0) := hK4
          have hq9 := gg_hrs_2 (f := f) (L := L) ha1 ((if_pos hk21 : gq_aft (tK f L) (tV f L) 21 p.1 8 p.2 = _).trans hn0)
          refine mx_ic_m1 d_Gr_readHours_60 ?_
          refine mx_goto 73 d_Gr_readHours_61 (by decide) ?_
          exact mx_iret d_Gr_readHours_73 rfl (mx_sR_i (by rw [hq9]; rfl) (by rw [hq9]; exact hs.bad hK4 hd))
      · skip
        have hk21 : ¬ tK f L (p.2) = 21 := fun z => by rw [gq_tk_y z] at c_39; cases c_39
        rw [gq_tk_n hk21] at hK3
        have hq9 := gg_hrs_2 (f := f) (L := L) ha1 (if_neg hk21)
        refine mx_ic_m1 d_Gr_readHours_42 ?_
        exact mx_iret d_Gr_readHours_43 rfl (mx_sR_i (by rw [hq9]; rfl) (by rw [hq9]; exact hs.bad hK3 hd))
  · skip
    have hk20 : ¬ tK f L (c) = 20 := fun z => by rw [gq_tk_y z] at c_9; cases c_9
    rw [gq_tk_n hk20] at hK1
    have hq9 := gg_hrs_1 (f := f) (L := L) (if_neg hk20 : gq_aft (tK f L) (tV f L) 20 0 8 c = .inl c)
    refine mx_ic_m1 d_Gr_readHours_12 ?_
    exact mx_iret d_Gr_readHours_13 rfl (mx_sR_i (by rw [hq9]; rfl) (by rw [hq9]; exact hs.bad hK1 hd))
end AZ67
