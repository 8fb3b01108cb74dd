/-! THE CLASS READS THE LAW: what it writes -/
def lr_ok (S : mx_S) (P : mx_P) (lr te : Nat) : Prop := S lr = some (0, 10) ∧ P lr 0 = some te ∧ P lr 2 = some (lr + 1) ∧ P lr 3 = some (lr + 2) ∧ P lr 4 = some (lr + 3) ∧ P lr 5 = some (lr + 4) ∧ S (lr + 1) = some (1, 12) ∧ S (lr + 2) = some (1, 12) ∧ S (lr + 3) = some (1, 12) ∧ S (lr + 4) = some (1, 400) ∧ te + 6 ≤ lr
section AR59
variable {l : Launch} {E : mx_Env} {t : Nat} {S : mx_S} {I K K2 : mx_I} {P : mx_P} {J : mx_G} {lr te L c e z n tt : Nat} {f : Nat → Nat} {w v : Int32} {cl cs d : List Int32} {b : Bool}
theorem mx_C_mono {M : mx_M} {d k n : Nat} {as : List Value} {X : mx_H} {Q Q' : mx_R → mx_H → Prop} (h : mx_C l E M d k n as X Q) (hq : ∀ r X1, Q r X1 → Q' r X1) : mx_C l E M d k n as X Q' :=
  MetFree.mono h (fun _ _ hp => hp) (fun _ _ _ _ _ hk => hk) (fun a s o s' _ hQ => by
    rcases hQ with ⟨⟨⟨v, X1, h1, h2, h3⟩, h4⟩, h5⟩ | ⟨q, h1, C, ce, L, ⟨⟨X1, h2, h3⟩, h4⟩, h5⟩
    · exact Or.inl ⟨⟨⟨v, X1, h1, hq _ _ h2, h3⟩, h4⟩, h5⟩
    · exact Or.inr ⟨q, h1, C, ce, L, ⟨⟨X1, hq _ _ h2, h3⟩, h4⟩, h5⟩)
theorem mx_sR_mono {v : Option Value} {R R' : mx_I → Prop} (h : ∀ K, R K → R' K) (r : mx_R) (X : mx_H) (hh : mx_sR v t S P J R r X) : mx_sR v t S P J R' r X := by
  obtain ⟨h1, K, h2, h3⟩ := hh
  exact ⟨h1, K, h2, h K h3⟩
theorem mx_rv_sR {R : mx_I → Prop} (h : R K) (r : mx_R) (X : mx_H) (hh : mx_rv (t, S, K, P, J) r X) : mx_sR none t S P J R r X := ⟨hh.1, K, hh.2, h⟩
theorem tk_tok.cg (h : tk_tok K te f L) (e0 : ∀ a, te ≤ a → a ≤ te + 5 → K2 a = K a) : tk_tok K2 te f L := by
  have q := fun k hk1 hk2 => e0 k hk1 hk2
  refine ⟨h.1.of (q _ (by omega) (by omega)) (by rw [q te (by omega) (by omega)]), fun j hj => ?_, by rw [q te (by omega) (by omega)]; exact h.2.2⟩
  rw [q (te + 2) (by omega) (by omega), q (te + 3) (by omega) (by omega), q (te + 4) (by omega) (by omega), q (te + 5) (by omega) (by omega)]
  exact h.2.1 j hj
def lr_off (I K : mx_I) (lr te : Nat) : Prop := (∀ a, a ≠ te → a ≠ lr → a ≠ lr + 4 → K a = I a) ∧ (∀ k, k ≠ 2 → k ≠ 8 → k ≠ 9 → K te k = I te k) ∧ ∀ k, k ≠ 6 → K lr k = I lr k
theorem lr_off.rf : lr_off I I lr te := ⟨fun _ _ _ _ => rfl, fun _ _ _ _ => rfl, fun _ _ => rfl⟩
theorem lr_off.tr (h : lr_off I K lr te) (h2 : lr_off K K2 lr te) : lr_off I K2 lr te := ⟨fun a h0 h1 h3 => (h2.1 a h0 h1 h3).trans (h.1 a h0 h1 h3), fun k a b c => (h2.2.1 k a b c).trans (h.2.1 k a b c), fun k hk => (h2.2.2 k hk).trans (h.2.2 k hk)⟩
def lr_wr (I K : mx_I) (lr z : Nat) (w : Int32) : Prop := (∀ a, a ≠ lr → a ≠ lr + 4 → K a = I a) ∧ (∀ k, k ≠ 6 → K lr k = I lr k) ∧ K lr 6 = nI (z + 1) ∧ (z < 400 → K (lr + 4) = updI (I (lr + 4)) z w)
/-- the text stands at the token tt, the code written so far is cl -/
def lr_s (I K : mx_I) (lr te : Nat) (f : Nat → Nat) (L tt : Nat) (cl : List Int32) : Prop := lr_off I K lr te ∧ K te 2 = I te 2 ∧ tk_tok K te f L ∧ tk_cur K te f L tt ∧ K lr 6 = nI cl.length ∧ ∀ k, k < cl.length → K (lr + 4) k = cl.getD k 0
def lr_bad (I K : mx_I) (lr te : Nat) (f : Nat → Nat) (L e z : Nat) : Prop := lr_off I K lr te ∧ K te 2 = nI (tq_b f L e) ∧ ∃ y, K lr 6 = nI y ∧ y ≤ z
def lr_out (I K : mx_I) (lr te : Nat) (f : Nat → Nat) (L : Nat) (cl : List Int32) (z : Nat) (r : gq_R) : Prop := match r with
  | .inl e => lr_bad I K lr te f L e z
  | .inr q => lr_s I K lr te f L q.2 (cl ++ q.1)
theorem lr_wr.off (h : lr_wr K K2 lr z w) (hsep : te + 6 ≤ lr) : lr_off K K2 lr te := ⟨fun a _ h1 h2 => h.1 a h1 h2, fun k _ _ _ => by rw [h.1 te (by omega) (by omega)], h.2.1⟩
theorem lr_s.wr (h : lr_s I K lr te f L tt cl) (hw : lr_wr K K2 lr cl.length w) (hl : cl.length < 400) (hsep : te + 6 ≤ lr) : lr_s I K2 lr te f L tt (cl ++ [w]) := by
  obtain ⟨h1, h2, h3, h4, h5, h6⟩ := h
  have hte : K2 te = K te := hw.1 te (by omega) (by omega)
  refine ⟨h1.tr (hw.off hsep), by rw [hte, h2], h3.cg (fun a ha hb => hw.1 a (by omega) (by omega)), ?_, by rw [hw.2.2.1]; simp, fun k hk => ?_⟩
  · unfold tk_cur; rw [hte]; exact h4
  · rw [hw.2.2.2 hl]
    unfold updI
    simp only [List.length_append, List.length_singleton] at hk
    by_cases e0 : k = cl.length
    · subst e0; rw [if_pos rfl]; simp
    · rw [if_neg e0, h6 k (by omega), List.getD_eq_getElem?_getD, List.getD_eq_getElem?_getD, List.getElem?_append_left (by omega)]
theorem tk_off.lo (h : tk_off K K2 te) (hsep : te + 6 ≤ lr) : lr_off K K2 lr te := ⟨fun a h0 _ _ => h.1 a h0, h.2, fun k _ => by rw [h.1 lr (by omega)]⟩
theorem lr_s.tk {t2 : Nat} (h : lr_s I K lr te f L tt cl) (ho : tk_out K K2 te f L (.inr t2)) (hsep : te + 6 ≤ lr) : lr_s I K2 lr te f L t2 cl := by
  obtain ⟨h1, h2, h3, h4, h5, h6⟩ := h
  obtain ⟨o1, o2, o3⟩ := ho
  exact ⟨h1.tr (o1.lo hsep), by rw [o3, h2], o1.all h3, o2, by rw [o1.1 lr (by omega)]; exact h5, by rw [o1.1 (lr + 4) (by omega)]; exact h6⟩
theorem lr_s.bad (h : lr_s I K lr te f L tt cl) (ho : tk_out K K2 te f L (.inl e)) (hsep : te + 6 ≤ lr) (hz : cl.length ≤ z) : lr_bad I K2 lr te f L e z := by
  obtain ⟨h1, h2, h3, h4, h5, h6⟩ := h
  obtain ⟨o1, o2⟩ := ho
  exact ⟨h1.tr (o1.lo hsep), o2, cl.length, by rw [o1.1 lr (by omega)]; exact h5, hz⟩
theorem lr_bad.wr {y : Nat} (h : lr_bad I K lr te f L e z) (hy : K lr 6 = nI y) (hyz : y ≤ z) (hw : lr_wr K K2 lr y w) (hsep : te + 6 ≤ lr) : lr_bad I K2 lr te f L e (z + 1) := by
  obtain ⟨h1, h2, -⟩ := h
  exact ⟨h1.tr (hw.off hsep), by rw [hw.1 te (by omega) (by omega)]; exact h2, y + 1, hw.2.2.1, by omega⟩
theorem lr_s.tr (h : lr_s I K lr te f L tt cl) {t2 : Nat} {c2 : List Int32} (h2 : lr_s K K2 lr te f L t2 c2) : lr_s I K2 lr te f L t2 c2 := ⟨h.1.tr h2.1, h2.2.1.trans h.2.1, h2.2.2⟩
theorem lr_s.trb (h : lr_s I K lr te f L tt cl) (h2 : lr_bad K K2 lr te f L e z) : lr_bad I K2 lr te f L e z := ⟨h.1.tr h2.1, h2.2⟩
theorem lr_s.tro (h : lr_s I K lr te f L tt cl) {r : gq_R} {c2 : List Int32} (h2 : lr_out K K2 lr te f L c2 z r) : lr_out I K2 lr te f L c2 z r := by
  cases r with
  | inl e => exact h.trb h2
  | inr q => exact h.tr h2
theorem lr_s.rf (h3 : tk_tok I te f L) (h4 : tk_cur I te f L tt) (h5 : I lr 6 = nI cl.length) (h6 : ∀ k, k < cl.length → I (lr + 4) k = cl.getD k 0) : lr_s I I lr te f L tt cl := ⟨lr_off.rf, rfl, h3, h4, h5, h6⟩
theorem lr_s.self (h : lr_s I K lr te f L tt cl) : lr_s K K lr te f L tt cl := lr_s.rf h.2.2.1 h.2.2.2.1 h.2.2.2.2.1 h.2.2.2.2.2
theorem lr_s.cur (h : lr_s I K lr te f L tt cl) : tk_cur K te f L tt := h.2.2.2.1
theorem lr_s.tok (h : lr_s I K lr te f L tt cl) : tk_tok K te f L := h.2.2.1
theorem lr_s.sz (h : lr_s I K lr te f L tt cl) : K lr 6 = nI cl.length := h.2.2.2.2.1
theorem c_put_out {a k L : Nat} {v : Int32} (hs : S a = some (1, L)) (hk : L ≤ k) (hk2 : k < 2 ^ 31) : mx_C l E M_Vh_put 0 0 0 [.ref (a), .int (nI (k)), .int (v)] (t, S, I, P, J) (mx_rv (t, S, I, P, J)) := by
  refine mx_C_of (ls0 := [some (.ref (a)), some (.int (nI (k))), some (.int (v))]) (by decide +kernel) rfl rfl (Nat.le_of_ble_eq_true rfl) rfl ?_
  refine mx_al0 d_Vh_put_0 ?_
  refine mx_ifnull d_Vh_put_1 ?_
  refine mx_il1 d_Vh_put_4 ?_
  refine mx_if_lt 18 d_Vh_put_5 (by decide) (fun c_5 => absurd c_5 (nI_pos (by omega))) (fun c_5 => ?_)
  refine mx_il1 d_Vh_put_8 ?_
  refine mx_al0 d_Vh_put_9 ?_
  refine mx_alen d_Vh_put_10 (by assumption) ?_
  refine mx_icN_ge 18 d_Vh_put_11 (by decide) (by omega) (by omega) (fun c_11 => ?_) (fun c_11 => absurd c_11 (by omega))
  exact mx_vret d_Vh_put_18 rfl (mx_rv_of (by rfl))
theorem c_Lr_writeA (hLr : lr_ok S P lr te) (hz : I lr 6 = nI z) (hz4 : z < 400)  : mx_C l E M_Lr_write 1 0 0 [.ref (lr), .int (w)] (t, S, I, P, J) (mx_sR none t S P J (fun K => lr_wr I K lr z w)) := by
  obtain ⟨hR0, hR1, hR2, hR3, hR4, hR5, hR6, hR7, hR8, hR9, hsep⟩ := id hLr
  refine mx_C_of (ls0 := [some (.ref (lr)), some (.int (w))]) (by decide +kernel) rfl rfl (Nat.le_of_ble_eq_true rfl) rfl ?_
  refine mx_al0 d_Lr_write_0 ?_
  refine mx_getR d_Lr_write_1 fl_Lr_21 (by assumption) (by assumption) ?_
  refine mx_al0 d_Lr_write_4 ?_
  refine mx_getI d_Lr_write_5 fl_Lr_38 (by assumption) ?_
  refine mx_ti (y := nI (z)) (hz) ?_
  refine mx_il1 d_Lr_write_8 ?_
  refine mx_cSN3v d_Lr_write_9 (c_put (k := z) (by assumption) (by omega) (by omega)) ok_Vh_put ml_Lr_73 (by decide) (Nat.le_of_ble_eq_true rfl) ?_
  refine mx_al0 d_Lr_write_12 ?_
  refine mx_dup d_Lr_write_13 rfl ?_
  refine mx_getI d_Lr_write_14 fl_Lr_38 (by assumption) ?_
  refine mx_ti (y := nI (z)) ((by simp [mx_up, hz])) ?_
  refine mx_in_1 d_Lr_write_17 ?_
  refine mx_iaddN d_Lr_write_18 ?_
  refine mx_putI d_Lr_write_19 fl_Lr_38 (by assumption) ?_
  exact mx_vret d_Lr_write_22 rfl (mx_sR_of rfl ⟨fun a h1 h2 => by funext q; simp [mx_up, h1, h2], fun k hk => by simp [mx_up, hk], by simp [mx_up], fun _ => by funext q; unfold updI; simp [mx_up]⟩)
theorem c_Lr_writeB (hLr : lr_ok S P lr te) (hz : I lr 6 = nI z) (hz4 : 400 ≤ z) (hz5 : z < 1000)  : mx_C l E M_Lr_write 1 0 0 [.ref (lr), .int (w)] (t, S, I, P, J) (mx_sR none t S P J (fun K => lr_wr I K lr z w)) := by
  obtain ⟨hR0, hR1, hR2, hR3, hR4, hR5, hR6, hR7, hR8, hR9, hsep⟩ := id hLr
  refine mx_C_of (ls0 := [some (.ref (lr)), some (.int (w))]) (by decide +kernel) rfl rfl (Nat.le_of_ble_eq_true rfl) rfl ?_
  refine mx_al0 d_Lr_write_0 ?_
  refine mx_getR d_Lr_write_1 fl_Lr_21 (by assumption) (by assumption) ?_
  refine mx_al0 d_Lr_write_4 ?_
  refine mx_getI d_Lr_write_5 fl_Lr_38 (by assumption) ?_
  refine mx_ti (y := nI (z)) (hz) ?_
  refine mx_il1 d_Lr_write_8 ?_
  refine mx_cSN3v d_Lr_write_9 (c_put_out (by assumption) (by omega) (by omega)) ok_Vh_put ml_Lr_73 (by decide) (Nat.le_of_ble_eq_true rfl) ?_
  refine mx_al0 d_Lr_write_12 ?_
  refine mx_dup d_Lr_write_13 rfl ?_
  refine mx_getI d_Lr_write_14 fl_Lr_38 (by assumption) ?_
  refine mx_ti (y := nI (z)) (hz) ?_
  refine mx_in_1 d_Lr_write_17 ?_
  refine mx_iaddN d_Lr_write_18 ?_
  refine mx_putI d_Lr_write_19 fl_Lr_38 (by assumption) ?_
  exact mx_vret d_Lr_write_22 rfl (mx_sR_of rfl ⟨fun a h1 h2 => by funext q; simp [mx_up, h1], fun k hk => by simp [mx_up, hk], by simp [mx_up], fun h => absurd h (by omega)⟩)
theorem c_Lr_write (hLr : lr_ok S P lr te) (hz : I lr 6 = nI z) (hz5 : z < 1000) : mx_C l E M_Lr_write 1 0 0 [.ref (lr), .int (w)] (t, S, I, P, J) (mx_sR none t S P J (fun K => lr_wr I K lr z w)) := by
  rcases Nat.lt_or_ge z 400 with q | q
  · exact c_Lr_writeA hLr hz q
  · exact c_Lr_writeB hLr hz q hz5
theorem c_Te_nextR (hTe : te_ok S P te) (ha : tk_tok I te f L) (hc : tk_cur I te f L c) (hlt : c < tq_n f L) : mx_C l E M_Te_next 0 0 0 [.ref (te)] (t, S, I, P, J) (mx_sR none t S P J (fun K => tk_out I K te f L (.inr (c + 1)))) :=
  mx_C_mono (c_Te_next hTe ha hc hlt) (mx_rv_sR (tk_next_out hc hlt))
theorem c_Te_refuseR (hTe : te_ok S P te) (ha : tk_tok I te f L) (hc : tk_cur I te f L c) : mx_C l E M_Te_refuse 0 0 0 [.ref (te)] (t, S, I, P, J) (mx_sR (some (.int (bI false))) t S P J (fun K => tk_out I K te f L (.inl c))) :=
  mx_C_mono (c_Te_refuse hTe ha hc) (fun r X h => ⟨h.1, _, h.2, tk_ref_out⟩)
/-- where the reader of a sum stands -/
def rs_inv (I K : mx_I) (lr te : Nat) (f : Nat → Nat) (L : Nat) (cs : List Int32) (c k : Nat) : Prop := ∃ tt d, lr_s I K lr te f L tt (cs ++ d) ∧ (cs ++ d).length + (if k = 0 then 0 else 1) ≤ tt ∧ gq_sum (tK f L) (tV f L) c = gq_lp (tK f L) (gq_part (tK f L) (tV f L)) 8 (400 - k) (decide (k = 0)) d tt
theorem rs_step {k : Nat} (hk : k < 400) (he : gq_sum (tK f L) (tV f L) c = gq_lp (tK f L) (gq_part (tK f L) (tV f L)) 8 (400 - k) (decide (k = 0)) d tt) : gq_sum (tK f L) (tV f L) c = match gq_part (tK f L) (tV f L) tt with
    | .inl e => .inl e
    | .inr q => if tK f L q.2 = 8 then gq_lp (tK f L) (gq_part (tK f L) (tV f L)) 8 (400 - (k + 1)) (decide (k + 1 = 0)) (d ++ (q.1 ++ if decide (k = 0) = true then [] else [-nI 8])) (q.2 + 1) else .inr (d ++ (q.1 ++ if decide (k = 0) = true then [] else [-nI 8]), q.2) := by
  rw [he, show 400 - k = (400 - (k + 1)) + 1 by omega, gq_lp_s, decide_eq_false (show ¬ k + 1 = 0 by omega)]
  cases gq_part (tK f L) (tV f L) tt <;> rfl
theorem gq_part_a {t : Nat} (h1 : 10 ≤ tK f L t) (h2 : tK f L t ≤ 16) : gq_part (tK f L) (tV f L) t = .inr ([-nI (tK f L t)], t + 1) := if_pos ⟨h1, h2⟩
theorem gq_vl_n {α : Type} {r : α ⊕ (Nat × Nat)} (h : gq_vl r = -1) (hv : ∀ q, r = .inr q → q.1 < 1000) : ∃ e, r = .inl e := by
  cases r with
  | inl e => exact ⟨e, rfl⟩
  | inr q => exact absurd h (nI_m1b (by have := hv q rfl; omega))
theorem gq_vl_y {α : Type} {r : α ⊕ (Nat × Nat)} (h : ¬ gq_vl r = -1) : ∃ q, r = .inr q ∧ gq_vl r = nI q.1 := by
  cases r with
  | inl e => exact absurd rfl h
  | inr q => exact ⟨q, rfl, rfl⟩
theorem gq_part_b {t : Nat} {q : Nat × Nat} (h : ¬ (10 ≤ tK f L t ∧ tK f L t ≤ 16)) (h2 : gq_num (tK f L) (tV f L) 0 1000 t = .inr q) : gq_part (tK f L) (tV f L) t = .inr ([nI q.1], t + 1) ∧ q.2 = t + 1 := by
  obtain ⟨g1, g2, g3, g4, g5, g6⟩ := (gq_num_go (tK0 rfl)).1 q h2
  refine ⟨?_, g1⟩
  unfold gq_part
  rw [if_neg h, if_pos g5, g6]
theorem gq_part_n {t e : Nat} (h : ¬ (10 ≤ tK f L t ∧ tK f L t ≤ 16)) (h2 : gq_num (tK f L) (tV f L) 0 1000 t = .inl e) : gq_part (tK f L) (tV f L) t = .inl t ∧ e = t := by
  have e1 := (gq_num_go (hb := 1000) (lo := 0) (tK0 (f := f) (L := L) rfl)).2 e h2
  refine ⟨?_, e1⟩
  unfold gq_part
  rw [if_neg h]
  unfold gq_num at h2
  split
  · rename_i h3
    rw [if_pos h3] at h2
    cases hv : tV f L t with
    | none => rfl
    | some v =>
      rw [hv] at h2
      have := tV1 (f := f) (L := L) t v hv
      simp only at h2
      rw [if_pos ⟨by omega, by omega⟩] at h2
      cases h2
  · rfl
theorem h999 : ∀ v, v < 10000 → (nI v ≤ nI 999 ↔ v < 1000) := fun v hv => by rw [nI_leI (by omega) (by omega)]; omega
theorem m8 : (-8 : Int32) = -nI 8 := by decide
theorem hs1000 {x : List Int32} {c : Nat} (h : x.length ≤ c) (hc : c ≤ tq_n f L) (hL : L ≤ 400) : x.length ≤ 400 := by have := tq_n_le f L; omega
theorem rs_c0 {k : Nat} (hk : k = 0) : cs ++ d ++ [w] = cs ++ (d ++ ([w] ++ if decide (k = 0) = true then [] else [-nI 8])) := by rw [if_pos (decide_eq_true hk), List.append_nil, List.append_assoc]
theorem rs_c1 {k : Nat} (hk : ¬ k = 0) : cs ++ d ++ [w] ++ [-8] = cs ++ (d ++ ([w] ++ if decide (k = 0) = true then [] else [-nI 8])) := by rw [if_neg (by rw [decide_eq_false hk]; simp), m8]; simp only [List.append_assoc]
theorem rs_l {k : Nat} (h : (cs ++ d).length + (if k = 0 then 0 else 1) ≤ tt) : (cs ++ (d ++ ([w] ++ if decide (k = 0) = true then [] else [-nI 8]))).length + (if k + 1 = 0 then 0 else 1) ≤ tt + 1 + 1 := by
  simp only [List.length_append, List.length_singleton] at h ⊢
  rw [if_neg (show ¬ k + 1 = 0 by omega)]
  by_cases e : k = 0
  · rw [if_pos e] at h
    rw [if_pos (decide_eq_true e)]; simp; omega
  · rw [if_neg e] at h
    rw [if_neg (by rw [decide_eq_false e]; simp)]; simp; omega
theorem len1 (h : cl.length ≤ n) (hn : n < 999) : (cl ++ [w]).length < 1000 := by simp; omega
theorem c_Lr_readSum (hLr : lr_ok S P lr te) (hTe : te_ok S P te) (hs0 : lr_s I I lr te f L c cs) (hcl : cs.length ≤ c)  : mx_C l E M_Lr_readSum 2 0 0 [.ref (lr)] (t, S, I, P, J) (mx_sR (some (.int (bI (gq_ok (gq_sum (tK f L) (tV f L) c))))) t S P J (fun K => lr_out I K lr te f L cs 400 (gq_sum (tK f L) (tV f L) c))) := by
  obtain ⟨hR0, hR1, hR2, hR3, hR4, hR5, hR6, hR7, hR8, hR9, hsep⟩ := id hLr
  obtain ⟨hT0, hT1, hT2, hT3, hT4, hT5, hT6, hT7, hT8, hT9, hT10⟩ := id hTe
  have hL9 := hs0.tok.1.2.2
  have hTL := tq_n_le f L
  refine mx_C_of (ls0 := [some (.ref (lr)), none, none]) (by decide +kernel) rfl rfl (Nat.le_of_ble_eq_true rfl) rfl ?_
  refine mx_in_0 d_Lr_readSum_0 ?_
  refine mx_is1 d_Lr_readSum_1 ?_
  refine mx_loopX (α := (mx_I)) (N := 400) (a0 := I) (fun k9 z9 => rs_inv I z9 lr te f L cs c k9) (ls := fun k9 z9 => [some (.ref (lr)), some (.int (nI (k9))), none]) (X := fun k9 z9 => (t, S, z9, P, J)) (⟨c, [], by rw [List.append_nil]; exact hs0, by rw [List.append_nil, if_pos rfl]; exact hcl, rfl⟩) (fun k9 hk9 z9 hinv ih => ?_) (fun z9 hinv => ?_)
  · skip
    obtain ⟨K, hz9⟩ : ∃ q, q = z9 := ⟨_, rfl⟩
    subst hz9
    try dsimp only at hinv ih ⊢
    obtain ⟨tt, d, hs, hl0, he⟩ := hinv
    have hl : (cs ++ d).length ≤ tt := by omega
    have he2 := rs_step hk9 he
    have hk36 := tq_k_lt f L (tq_b f L tt)
    have hk37 := tq_k_lt f L (tq_b f L (tt + 1))
    have hTT := hs.cur.2.2
    refine mx_il1 d_Lr_readSum_2 ?_
    refine mx_sip 400 d_Lr_readSum_3 (by decide) ?_
    refine mx_icN_ge 116 d_Lr_readSum_6 (by decide) (by omega) (by omega) (fun c_6 => absurd c_6 (by omega)) (fun c_6 => ?_)
    refine mx_al0 d_Lr_readSum_9 ?_
    refine mx_getR d_Lr_readSum_10 fl_Lr_24 (by assumption) (by assumption) ?_
    refine mx_getI d_Lr_readSum_13 fl_Lr_49 (by assumption) ?_
    refine mx_ti (y := nI (tq_k f L (tq_b f L (tt)))) (hs.cur.2.1) ?_
    refine mx_bip 10 d_Lr_readSum_16 (by decide) ?_
    refine mx_icN_lt 55 d_Lr_readSum_18 (by decide) (by omega) (by omega) (fun c_18 => ?_) (fun c_18 => ?_)
    · skip
      have hnf : ¬ (10 ≤ tK f L tt ∧ tK f L tt ≤ 16) := fun z => absurd z.1 (by show ¬ 10 ≤ tq_k f L (tq_b f L tt); omega)
      refine mx_al0 d_Lr_readSum_55 ?_
      refine mx_getR d_Lr_readSum_56 fl_Lr_24 (by assumption) (by assumption) ?_
      refine mx_in_0 d_Lr_readSum_59 ?_
      refine mx_sip 999 d_Lr_readSum_60 (by decide) ?_
      refine mx_cV2iR d_Lr_readSum_63 (c_Te_number hTe hs.tok hs.cur (lo := 0) (hb := 1000) (by omega) (fun v hv => h999 v (by omega))) ok_Te_number ml_Lr_66 (by assumption) ⟨rfl, rfl⟩ (by decide) (Nat.le_of_ble_eq_true rfl) (fun K1 hK1 => ?_)
      refine mx_is2 d_Lr_readSum_66 ?_
      refine mx_il2 d_Lr_readSum_67 ?_
      refine mx_ic_m1 d_Lr_readSum_68 ?_
      refine mx_icmp_ne 74 d_Lr_readSum_69 (by decide) (fun c_69 => ?_) (fun c_69 => ?_)
      · skip
        obtain ⟨q0, hq0, hv0⟩ := gq_vl_y c_69
        have hpb := gq_part_b hnf hq0
        have hpart := hpb.1
        rw [hq0] at hK1
        have hK1 : tk_out K K1 te f L (.inr q0.2) := hK1
        rw [hpb.2] at hK1
        have hs := hs.tk hK1 hsep
        refine mx_al0 d_Lr_readSum_74 ?_
        refine mx_il2 d_Lr_readSum_75 ?_
        refine mx_cV1vR d_Lr_readSum_76 (c_Lr_write hLr hs.sz (by omega)) ok_Lr_write ml_Lr_84 (by assumption) ⟨rfl, rfl⟩ (by decide) (Nat.le_of_ble_eq_true rfl) (fun K2 hK2 => ?_)
        rw [hv0] at hK2
        have hs := hs.wr hK2 (by have := hs.cur.2.2; omega) hsep
        refine mx_il1 d_Lr_readSum_79 ?_
        refine mx_if_le 89 d_Lr_readSum_80 (by decide) (fun c_80 => ?_) (fun c_80 => ?_)
        · skip
          have hk0 : k9 = 0 := (Nat.eq_zero_or_pos k9).elim id (fun z => absurd c_80 (Int32.not_le.mpr ((nI_ltI (a := 0) (by omega) (by omega)).mpr z)))
          rw [rs_c0 hk0] at hs
          refine mx_al0 d_Lr_readSum_89 ?_
          refine mx_getR d_Lr_readSum_90 fl_Lr_24 (by assumption) (by assumption) ?_
          refine mx_getI d_Lr_readSum_93 fl_Lr_49 (by assumption) ?_
          refine mx_ti (y := nI (tq_k f L (tq_b f L (tt + 1)))) (hs.cur.2.1) ?_
          refine mx_bip 8 d_Lr_readSum_96 (by decide) ?_
          refine mx_icN_eq 103 d_Lr_readSum_98 (by decide) (by omega) (by omega) (fun c_98 => ?_) (fun c_98 => ?_)
          · skip
            rw [hpart] at he2
            have he3 := he2.trans (if_pos c_98)
            refine mx_al0 d_Lr_readSum_103 ?_
            refine mx_getR d_Lr_readSum_104 fl_Lr_24 (by assumption) (by assumption) ?_
            refine mx_cV0vR d_Lr_readSum_107 (c_Te_nextR hTe hs.tok hs.cur (tK_T (by rw [show tK f L (tt + 1) = 8 from c_98]; omega))) ok_Te_next ml_Lr_63 (by assumption) ⟨rfl, rfl⟩ (by decide) (Nat.le_of_ble_eq_true rfl) (fun K4 hK4 => ?_)
            have hs := hs.tk hK4 hsep
            refine mx_iN1 d_Lr_readSum_110 ?_
            refine mx_goto 2 d_Lr_readSum_113 (by decide) ?_
            refine mx_dn2 ?_
            exact ih K4 (⟨tt + 1 + 1, _, hs, rs_l hl0, he3⟩)
          · skip
            rw [hpart] at he2
            have he3 := he2.trans (if_neg c_98)
            refine mx_in_1 d_Lr_readSum_101 ?_
            exact mx_zret d_Lr_readSum_102 rfl (by first | exact Or.inl rfl | exact Or.inr rfl) (mx_sR_i (by rw [he3]; rfl) (by rw [he3]; exact hs))
        · skip
          have hk0 : 0 < k9 := (Nat.eq_zero_or_pos k9).elim (fun z => absurd (by rw [z]; decide) c_80) id
          refine mx_al0 d_Lr_readSum_83 ?_
          refine mx_bipush (v := -8) d_Lr_readSum_84 (by decide) ?_
          refine mx_cV1vR d_Lr_readSum_86 (c_Lr_write hLr hs.sz (by simp only [List.length_append, List.length_singleton] at hl ⊢; omega)) ok_Lr_write ml_Lr_84 (by assumption) ⟨rfl, rfl⟩ (by decide) (Nat.le_of_ble_eq_true rfl) (fun K3 hK3 => ?_)
          have hs := hs.wr hK3 (by have := hs.cur.2.2; rw [if_neg (by omega)] at hl0; simp only [List.length_append, List.length_singleton] at hl0 ⊢; omega) hsep
          rw [rs_c1 (k := k9) (by omega)] at hs
          refine mx_al0 d_Lr_readSum_89 ?_
          refine mx_getR d_Lr_readSum_90 fl_Lr_24 (by assumption) (by assumption) ?_
          refine mx_getI d_Lr_readSum_93 fl_Lr_49 (by assumption) ?_
          refine mx_ti (y := nI (tq_k f L (tq_b f L (tt + 1)))) (hs.cur.2.1) ?_
          refine mx_bip 8 d_Lr_readSum_96 (by decide) ?_
          refine mx_icN_eq 103 d_Lr_readSum_98 (by decide) (by omega) (by omega) (fun c_98 => ?_) (fun c_98 => ?_)
          · skip
            rw [hpart] at he2
            have he3 := he2.trans (if_pos c_98)
            refine mx_al0 d_Lr_readSum_103 ?_
            refine mx_getR d_Lr_readSum_104 fl_Lr_24 (by assumption) (by assumption) ?_
            refine mx_cV0vR d_Lr_readSum_107 (c_Te_nextR hTe hs.tok hs.cur (tK_T (by rw [show tK f L (tt + 1) = 8 from c_98]; omega))) ok_Te_next ml_Lr_63 (by assumption) ⟨rfl, rfl⟩ (by decide) (Nat.le_of_ble_eq_true rfl) (fun K4 hK4 => ?_)
            have hs := hs.tk hK4 hsep
            refine mx_iN1 d_Lr_readSum_110 ?_
            refine mx_goto 2 d_Lr_readSum_113 (by decide) ?_
            refine mx_dn2 ?_
            exact ih K4 (⟨tt + 1 + 1, _, hs, rs_l hl0, he3⟩)
          · skip
            rw [hpart] at he2
            have he3 := he2.trans (if_neg c_98)
            refine mx_in_1 d_Lr_readSum_101 ?_
            exact mx_zret d_Lr_readSum_102 rfl (by first | exact Or.inl rfl | exact Or.inr rfl) (mx_sR_i (by rw [he3]; rfl) (by rw [he3]; exact hs))
      · skip
        obtain ⟨e0, hq0⟩ := gq_vl_n c_69 (fun q hq => ((gq_num_go (tK0 rfl)).1 q hq).2.2.1)
        have hpb := gq_part_n hnf hq0
        rw [hpb.1] at he2
        rw [hq0] at hK1
        have hK1 : tk_out K K1 te f L (.inl e0) := hK1
        rw [hpb.2] at hK1
        refine mx_in_0 d_Lr_readSum_72 ?_
        exact mx_zret d_Lr_readSum_73 rfl (by first | exact Or.inl rfl | exact Or.inr rfl) (mx_sR_i (by rw [he2]; rfl) (by rw [he2]; exact hs.bad hK1 hsep (by omega)))
    · skip
      refine mx_al0 d_Lr_readSum_21 ?_
      refine mx_getR d_Lr_readSum_22 fl_Lr_24 (by assumption) (by assumption) ?_
      refine mx_getI d_Lr_readSum_25 fl_Lr_49 (by assumption) ?_
      refine mx_ti (y := nI (tq_k f L (tq_b f L (tt)))) (hs.cur.2.1) ?_
      refine mx_bip 16 d_Lr_readSum_28 (by decide) ?_
      refine mx_icN_gt 55 d_Lr_readSum_30 (by decide) (by omega) (by omega) (fun c_30 => ?_) (fun c_30 => ?_)
      · skip
        have hnf : ¬ (10 ≤ tK f L tt ∧ tK f L tt ≤ 16) := fun z => absurd z.2 (by show ¬ tq_k f L (tq_b f L tt) ≤ 16; omega)
        refine mx_al0 d_Lr_readSum_55 ?_
        refine mx_getR d_Lr_readSum_56 fl_Lr_24 (by assumption) (by assumption) ?_
        refine mx_in_0 d_Lr_readSum_59 ?_
        refine mx_sip 999 d_Lr_readSum_60 (by decide) ?_
        refine mx_cV2iR d_Lr_readSum_63 (c_Te_number hTe hs.tok hs.cur (lo := 0) (hb := 1000) (by omega) (fun v hv => h999 v (by omega))) ok_Te_number ml_Lr_66 (by assumption) ⟨rfl, rfl⟩ (by decide) (Nat.le_of_ble_eq_true rfl) (fun K1 hK1 => ?_)
        refine mx_is2 d_Lr_readSum_66 ?_
        refine mx_il2 d_Lr_readSum_67 ?_
        refine mx_ic_m1 d_Lr_readSum_68 ?_
        refine mx_icmp_ne 74 d_Lr_readSum_69 (by decide) (fun c_69 => ?_) (fun c_69 => ?_)
        · skip
          obtain ⟨q0, hq0, hv0⟩ := gq_vl_y c_69
          have hpb := gq_part_b hnf hq0
          have hpart := hpb.1
          rw [hq0] at hK1
          have hK1 : tk_out K K1 te f L (.inr q0.2) := hK1
          rw [hpb.2] at hK1
          have hs := hs.tk hK1 hsep
          refine mx_al0 d_Lr_readSum_74 ?_
          refine mx_il2 d_Lr_readSum_75 ?_
          refine mx_cV1vR d_Lr_readSum_76 (c_Lr_write hLr hs.sz (by omega)) ok_Lr_write ml_Lr_84 (by assumption) ⟨rfl, rfl⟩ (by decide) (Nat.le_of_ble_eq_true rfl) (fun K2 hK2 => ?_)
          rw [hv0] at hK2
          have hs := hs.wr hK2 (by have := hs.cur.2.2; omega) hsep
          refine mx_il1 d_Lr_readSum_79 ?_
          refine mx_if_le 89 d_Lr_readSum_80 (by decide) (fun c_80 => ?_) (fun c_80 => ?_)
          · skip
            have hk0 : k9 = 0 := (Nat.eq_zero_or_pos k9).elim id (fun z => absurd c_80 (Int32.not_le.mpr ((nI_ltI (a := 0) (by omega) (by omega)).mpr z)))
            rw [rs_c0 hk0] at hs
            refine mx_al0 d_Lr_readSum_89 ?_
            refine mx_getR d_Lr_readSum_90 fl_Lr_24 (by assumption) (by assumption) ?_
            refine mx_getI d_Lr_readSum_93 fl_Lr_49 (by assumption) ?_
            refine mx_ti (y := nI (tq_k f L (tq_b f L (tt + 1)))) (hs.cur.2.1) ?_
            refine mx_bip 8 d_Lr_readSum_96 (by decide) ?_
            refine mx_icN_eq 103 d_Lr_readSum_98 (by decide) (by omega) (by omega) (fun c_98 => ?_) (fun c_98 => ?_)
            · skip
              rw [hpart] at he2
              have he3 := he2.trans (if_pos c_98)
              refine mx_al0 d_Lr_readSum_103 ?_
              refine mx_getR d_Lr_readSum_104 fl_Lr_24 (by assumption) (by assumption) ?_
              refine mx_cV0vR d_Lr_readSum_107 (c_Te_nextR hTe hs.tok hs.cur (tK_T (by rw [show tK f L (tt + 1) = 8 from c_98]; omega))) ok_Te_next ml_Lr_63 (by assumption) ⟨rfl, rfl⟩ (by decide) (Nat.le_of_ble_eq_true rfl) (fun K4 hK4 => ?_)
              have hs := hs.tk hK4 hsep
              refine mx_iN1 d_Lr_readSum_110 ?_
              refine mx_goto 2 d_Lr_readSum_113 (by decide) ?_
              refine mx_dn2 ?_
              exact ih K4 (⟨tt + 1 + 1, _, hs, rs_l hl0, he3⟩)
            · skip
              rw [hpart] at he2
              have he3 := he2.trans (if_neg c_98)
              refine mx_in_1 d_Lr_readSum_101 ?_
              exact mx_zret d_Lr_readSum_102 rfl (by first | exact Or.inl rfl | exact Or.inr rfl) (mx_sR_i (by rw [he3]; rfl) (by rw [he3]; exact hs))
          · skip
            have hk0 : 0 < k9 := (Nat.eq_zero_or_pos k9).elim (fun z => absurd (by rw [z]; decide) c_80) id
            refine mx_al0 d_Lr_readSum_83 ?_
            refine mx_bipush (v := -8) d_Lr_readSum_84 (by decide) ?_
            refine mx_cV1vR d_Lr_readSum_86 (c_Lr_write hLr hs.sz (by simp only [List.length_append, List.length_singleton] at hl ⊢; omega)) ok_Lr_write ml_Lr_84 (by assumption) ⟨rfl, rfl⟩ (by decide) (Nat.le_of_ble_eq_true rfl) (fun K3 hK3 => ?_)
            have hs := hs.wr hK3 (by have := hs.cur.2.2; rw [if_neg (by omega)] at hl0; simp only [List.length_append, List.length_singleton] at hl0 ⊢; omega) hsep
            rw [rs_c1 (k := k9) (by omega)] at hs
            refine mx_al0 d_Lr_readSum_89 ?_
            refine mx_getR d_Lr_readSum_90 fl_Lr_24 (by assumption) (by assumption) ?_
            refine mx_getI d_Lr_readSum_93 fl_Lr_49 (by assumption) ?_
            refine mx_ti (y := nI (tq_k f L (tq_b f L (tt + 1)))) (hs.cur.2.1) ?_
            refine mx_bip 8 d_Lr_readSum_96 (by decide) ?_
            refine mx_icN_eq 103 d_Lr_readSum_98 (by decide) (by omega) (by omega) (fun c_98 => ?_) (fun c_98 => ?_)
            · skip
              rw [hpart] at he2
              have he3 := he2.trans (if_pos c_98)
              refine mx_al0 d_Lr_readSum_103 ?_
              refine mx_getR d_Lr_readSum_104 fl_Lr_24 (by assumption) (by assumption) ?_
              refine mx_cV0vR d_Lr_readSum_107 (c_Te_nextR hTe hs.tok hs.cur (tK_T (by rw [show tK f L (tt + 1) = 8 from c_98]; omega))) ok_Te_next ml_Lr_63 (by assumption) ⟨rfl, rfl⟩ (by decide) (Nat.le_of_ble_eq_true rfl) (fun K4 hK4 => ?_)
              have hs := hs.tk hK4 hsep
              refine mx_iN1 d_Lr_readSum_110 ?_
              refine mx_goto 2 d_Lr_readSum_113 (by decide) ?_
              refine mx_dn2 ?_
              exact ih K4 (⟨tt + 1 + 1, _, hs, rs_l hl0, he3⟩)
            · skip
              rw [hpart] at he2
              have he3 := he2.trans (if_neg c_98)
              refine mx_in_1 d_Lr_readSum_101 ?_
              exact mx_zret d_Lr_readSum_102 rfl (by first | exact Or.inl rfl | exact Or.inr rfl) (mx_sR_i (by rw [he3]; rfl) (by rw [he3]; exact hs))
        · skip
          obtain ⟨e0, hq0⟩ := gq_vl_n c_69 (fun q hq => ((gq_num_go (tK0 rfl)).1 q hq).2.2.1)
          have hpb := gq_part_n hnf hq0
          rw [hpb.1] at he2
          rw [hq0] at hK1
          have hK1 : tk_out K K1 te f L (.inl e0) := hK1
          rw [hpb.2] at hK1
          refine mx_in_0 d_Lr_readSum_72 ?_
          exact mx_zret d_Lr_readSum_73 rfl (by first | exact Or.inl rfl | exact Or.inr rfl) (mx_sR_i (by rw [he2]; rfl) (by rw [he2]; exact hs.bad hK1 hsep (by omega)))
      · skip
        refine mx_al0 d_Lr_readSum_33 ?_
        refine mx_al0 d_Lr_readSum_34 ?_
        refine mx_getR d_Lr_readSum_35 fl_Lr_24 (by assumption) (by assumption) ?_
        refine mx_getI d_Lr_readSum_38 fl_Lr_49 (by assumption) ?_
        refine mx_ti (y := nI (tq_k f L (tq_b f L (tt)))) (hs.cur.2.1) ?_
        refine mx_ineg d_Lr_readSum_41 ?_
        refine mx_cV1vR d_Lr_readSum_42 (c_Lr_write hLr hs.sz (by omega)) ok_Lr_write ml_Lr_84 (by assumption) ⟨rfl, rfl⟩ (by decide) (Nat.le_of_ble_eq_true rfl) (fun K1 hK1 => ?_)
        have hs := hs.wr hK1 (by have := tK_T (f := f) (L := L) (t := tt) (by show ¬ tq_k f L (tq_b f L tt) = 0; omega); omega) hsep
        refine mx_al0 d_Lr_readSum_45 ?_
        refine mx_getR d_Lr_readSum_46 fl_Lr_24 (by assumption) (by assumption) ?_
        refine mx_cV0vR d_Lr_readSum_49 (c_Te_nextR hTe hs.tok hs.cur (tK_T (by show ¬ tq_k f L (tq_b f L tt) = 0; omega))) ok_Te_next ml_Lr_63 (by assumption) ⟨rfl, rfl⟩ (by decide) (Nat.le_of_ble_eq_true rfl) (fun K2 hK2 => ?_)
        have hs := hs.tk hK2 hsep
        have hpart := gq_part_a (f := f) (L := L) (t := tt) c_18 c_30
        refine mx_goto 79 d_Lr_readSum_52 (by decide) ?_
        refine mx_il1 d_Lr_readSum_79 ?_
        refine mx_if_le 89 d_Lr_readSum_80 (by decide) (fun c_80 => ?_) (fun c_80 => ?_)
        · skip
          have hk0 : k9 = 0 := (Nat.eq_zero_or_pos k9).elim id (fun z => absurd c_80 (Int32.not_le.mpr ((nI_ltI (a := 0) (by omega) (by omega)).mpr z)))
          rw [rs_c0 hk0] at hs
          refine mx_al0 d_Lr_readSum_89 ?_
          refine mx_getR d_Lr_readSum_90 fl_Lr_24 (by assumption) (by assumption) ?_
          refine mx_getI d_Lr_readSum_93 fl_Lr_49 (by assumption) ?_
          refine mx_ti (y := nI (tq_k f L (tq_b f L (tt + 1)))) (hs.cur.2.1) ?_
          refine mx_bip 8 d_Lr_readSum_96 (by decide) ?_
          refine mx_icN_eq 103 d_Lr_readSum_98 (by decide) (by omega) (by omega) (fun c_98 => ?_) (fun c_98 => ?_)
          · skip
            rw [hpart] at he2
            have he3 := he2.trans (if_pos c_98)
            refine mx_al0 d_Lr_readSum_103 ?_
            refine mx_getR d_Lr_readSum_104 fl_Lr_24 (by assumption) (by assumption) ?_
            refine mx_cV0vR d_Lr_readSum_107 (c_Te_nextR hTe hs.tok hs.cur (tK_T (by rw [show tK f L (tt + 1) = 8 from c_98]; omega))) ok_Te_next ml_Lr_63 (by assumption) ⟨rfl, rfl⟩ (by decide) (Nat.le_of_ble_eq_true rfl) (fun K4 hK4 => ?_)
            have hs := hs.tk hK4 hsep
            refine mx_iN1 d_Lr_readSum_110 ?_
            refine mx_goto 2 d_Lr_readSum_113 (by decide) ?_
            exact ih K4 (⟨tt + 1 + 1, _, hs, rs_l hl0, he3⟩)
          · skip
            rw [hpart] at he2
            have he3 := he2.trans (if_neg c_98)
            refine mx_in_1 d_Lr_readSum_101 ?_
            exact mx_zret d_Lr_readSum_102 rfl (by first | exact Or.inl rfl | exact Or.inr rfl) (mx_sR_i (by rw [he3]; rfl) (by rw [he3]; exact hs))
        · skip
          have hk0 : 0 < k9 := (Nat.eq_zero_or_pos k9).elim (fun z => absurd (by rw [z]; decide) c_80) id
          refine mx_al0 d_Lr_readSum_83 ?_
          refine mx_bipush (v := -8) d_Lr_readSum_84 (by decide) ?_
          refine mx_cV1vR d_Lr_readSum_86 (c_Lr_write hLr hs.sz (by simp only [List.length_append, List.length_singleton] at hl ⊢; omega)) ok_Lr_write ml_Lr_84 (by assumption) ⟨rfl, rfl⟩ (by decide) (Nat.le_of_ble_eq_true rfl) (fun K3 hK3 => ?_)
          have hs := hs.wr hK3 (by have := hs.cur.2.2; rw [if_neg (by omega)] at hl0; simp only [List.length_append, List.length_singleton] at hl0 ⊢; omega) hsep
          rw [rs_c1 (k := k9) (by omega)] at hs
          refine mx_al0 d_Lr_readSum_89 ?_
          refine mx_getR d_Lr_readSum_90 fl_Lr_24 (by assumption) (by assumption) ?_
          refine mx_getI d_Lr_readSum_93 fl_Lr_49 (by assumption) ?_
          refine mx_ti (y := nI (tq_k f L (tq_b f L (tt + 1)))) (hs.cur.2.1) ?_
          refine mx_bip 8 d_Lr_readSum_96 (by decide) ?_
          refine mx_icN_eq 103 d_Lr_readSum_98 (by decide) (by omega) (by omega) (fun c_98 => ?_) (fun c_98 => ?_)
          · skip
            rw [hpart] at he2
            have he3 := he2.trans (if_pos c_98)
            refine mx_al0 d_Lr_readSum_103 ?_
            refine mx_getR d_Lr_readSum_104 fl_Lr_24 (by assumption) (by assumption) ?_
            refine mx_cV0vR d_Lr_readSum_107 (c_Te_nextR hTe hs.tok hs.cur (tK_T (by rw [show tK f L (tt + 1) = 8 from c_98]; omega))) ok_Te_next ml_Lr_63 (by assumption) ⟨rfl, rfl⟩ (by decide) (Nat.le_of_ble_eq_true rfl) (fun K4 hK4 => ?_)
            have hs := hs.tk hK4 hsep
            refine mx_iN1 d_Lr_readSum_110 ?_
            refine mx_goto 2 d_Lr_readSum_113 (by decide) ?_
            exact ih K4 (⟨tt + 1 + 1, _, hs, rs_l hl0, he3⟩)
          · skip
            rw [hpart] at he2
            have he3 := he2.trans (if_neg c_98)
            refine mx_in_1 d_Lr_readSum_101 ?_
            exact mx_zret d_Lr_readSum_102 rfl (by first | exact Or.inl rfl | exact Or.inr rfl) (mx_sR_i (by rw [he3]; rfl) (by rw [he3]; exact hs))
  · skip
    obtain ⟨K, hz9⟩ : ∃ q, q = z9 := ⟨_, rfl⟩
    subst hz9
    try dsimp only at hinv ⊢
    obtain ⟨tt, d, hs, hl0, he⟩ := hinv
    have hl : (cs ++ d).length ≤ tt := by omega
    have he3 : gq_sum (tK f L) (tV f L) c = .inl tt := he
    have hTT := hs.cur.2.2
    refine mx_il1 d_Lr_readSum_2 ?_
    refine mx_sip 400 d_Lr_readSum_3 (by decide) ?_
    refine mx_icN_ge 116 d_Lr_readSum_6 (by decide) (by omega) (by omega) (fun c_6 => ?_) (fun c_6 => absurd c_6 (by omega))
    refine mx_al0 d_Lr_readSum_116 ?_
    refine mx_getR d_Lr_readSum_117 fl_Lr_24 (by assumption) (by assumption) ?_
    refine mx_cV0iR d_Lr_readSum_120 (c_Te_refuseR hTe hs.tok hs.cur) ok_Te_refuse ml_Lr_60 (by assumption) ⟨rfl, rfl⟩ (by decide) (Nat.le_of_ble_eq_true rfl) (fun K1 hK1 => ?_)
    exact mx_zret d_Lr_readSum_123 rfl (bI_01 _) (mx_sR_i (by rw [he3]; rfl) (by rw [he3]; exact hs.bad hK1 hsep (by omega)))
end AR59
