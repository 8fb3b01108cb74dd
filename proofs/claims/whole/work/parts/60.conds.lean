/-! THE CLASS READS THE LAW: conditions -/
section AS60
variable {l : Launch} {E : mx_Env} {t : Nat} {S : mx_S} {I K K2 : mx_I} {P : mx_P} {J : mx_G} {lr te L c e z n tt : Nat} {f : Nat → Nat} {w v : Int32} {cl cs d : List Int32} {b : Bool}
/-- how many not stand one behind another, e at most -/
def nt (K : Nat → Nat) : Nat → Nat → Nat
  | 0, _ => 0
  | e + 1, c => if K c = 35 then nt K e (c + 1) + 1 else 0
theorem nt_le (K : Nat → Nat) : ∀ e c, nt K e c ≤ e
  | 0, _ => Nat.le_refl _
  | e + 1, c => by unfold nt; have := nt_le K e (c + 1); split <;> omega
theorem nt_in {K : Nat → Nat} : ∀ e c k, k < nt K e c → K (c + k) = 35
  | 0, _, k, h => by unfold nt at h; omega
  | e + 1, c, k, h => by
    unfold nt at h
    split at h
    · rename_i h35
      cases k with
      | zero => exact h35
      | succ k =>
        have h2 : k < nt K e (c + 1) := by omega
        have := nt_in e (c + 1) k h2
        rw [← this]; congr 1; omega
    · omega
theorem nt_out {K : Nat → Nat} : ∀ e c, K (c + nt K e c) = 35 → nt K e c = e
  | 0, _, _ => rfl
  | e + 1, c, h => by
    unfold nt at h ⊢
    split
    · rename_i h35
      rw [if_pos h35] at h
      rw [nt_out e (c + 1) (by rw [← h]; congr 1; omega)]
    · rename_i h35
      rw [if_neg h35] at h
      exact absurd h h35
def gq_tl (K : Nat → Nat) (V : Nat → Option Nat) (e t : Nat) : gq_R := if K t = 4 ∧ 0 < e then (match gq_som K (gq_atm K V (e - 1)) (t + 1) with | .inl b => .inl b | .inr q => if K q.2 = 5 then .inr (q.1, q.2 + 1) else .inl q.2) else gq_pln K V t
def gq_wr (n : Nat) (r : gq_R) : gq_R := match r with | .inl b => .inl b | .inr q => .inr (q.1 ++ List.replicate n (-nI 35), q.2)
theorem gq_wr_0 (r : gq_R) : gq_wr 0 r = r := by
  cases r with
  | inl b => rfl
  | inr q => unfold gq_wr; simp
theorem gq_wr_s (n : Nat) (r : gq_R) : gq_wr (n + 1) r = match gq_wr n r with | .inl b => .inl b | .inr q => .inr (q.1 ++ [-nI 35], q.2) := by
  cases r with
  | inl b => rfl
  | inr q => unfold gq_wr; simp [List.replicate_succ']
theorem gq_ok_wr (n : Nat) (r : gq_R) : gq_ok (gq_wr n r) = gq_ok r := by cases r <;> rfl
theorem gq_ok_f {α β : Type} {r : α ⊕ β} (h : gq_ok r = false) : ∃ b, r = .inl b := by
  cases r with
  | inl b => exact ⟨b, rfl⟩
  | inr q => cases h
theorem gq_ok_t {α β : Type} {r : α ⊕ β} (h : gq_ok r = true) : ∃ q, r = .inr q := by
  cases r with
  | inl b => cases h
  | inr q => exact ⟨q, rfl⟩
theorem gq_sum_bad {K : Nat → Nat} {V : Nat → Option Nat} {t : Nat} (h : K t = 35 ∨ K t = 4) : gq_sum K V t = .inl t := by
  have hp : gq_part K V t = .inl t := by unfold gq_part; rw [if_neg (by omega), if_neg (by omega)]
  unfold gq_sum
  rw [show (400 : Nat) = 399 + 1 from rfl, gq_lp_s, hp]
theorem gq_pln_bad {K : Nat → Nat} {V : Nat → Option Nat} {t : Nat} (h : K t = 35 ∨ K t = 4) : gq_pln K V t = .inl t := by
  unfold gq_pln
  rw [if_neg (by omega), gq_sum_bad h]
theorem gq_atm_tl {K : Nat → Nat} {V : Nat → Option Nat} : ∀ e c, gq_atm K V e c = gq_wr (nt K e c) (gq_tl K V (e - nt K e c) (c + nt K e c))
  | 0, c => by
    show _ = gq_wr 0 (gq_tl K V 0 c)
    rw [gq_wr_0]
    unfold gq_tl gq_atm
    rw [if_neg (show ¬ (K c = 4 ∧ 0 < 0) by omega)]
    split
    · rename_i h; exact (gq_pln_bad h).symm
    · rfl
  | e + 1, c => by
    have ha : gq_atm K V (e + 1) c = if K c = 35 then (match gq_atm K V e (c + 1) with | .inl b => .inl b | .inr q => .inr (q.1 ++ [-nI 35], q.2))
      else if K c = 4 then (match gq_som K (gq_atm K V e) (c + 1) with | .inl b => .inl b | .inr q => if K q.2 = 5 then .inr (q.1, q.2 + 1) else .inl q.2)
      else gq_pln K V c := rfl
    rw [ha]
    by_cases h : K c = 35
    · have hn : nt K (e + 1) c = nt K e (c + 1) + 1 := if_pos h
      rw [if_pos h, hn, gq_wr_s, gq_atm_tl e (c + 1), show e + 1 - (nt K e (c + 1) + 1) = e - nt K e (c + 1) by omega, show c + (nt K e (c + 1) + 1) = c + 1 + nt K e (c + 1) by omega]
    · have hn : nt K (e + 1) c = 0 := if_neg h
      rw [if_neg h, hn, gq_wr_0]
      show _ = gq_tl K V (e + 1) c
      unfold gq_tl
      by_cases h4 : K c = 4
      · rw [if_pos h4, if_pos ⟨h4, by omega⟩]; rfl
      · rw [if_neg h4, if_neg (fun z => h4 z.1)]
theorem gq_go_tl {K : Nat → Nat} {V : Nat → Option Nat} {T : Nat} (hK : ∀ t, T ≤ t → K t = 0) (e : Nat) {t : Nat} {q : List Int32 × Nat} (h : gq_tl K V e t = .inr q) : t < q.2 ∧ q.2 ≤ T ∧ q.1.length + t ≤ q.2 := by
  unfold gq_tl at h
  split at h
  · have hS := gq_go_som (gq_go_atm (V := V) hK (e - 1)) hK
    cases h1 : gq_som K (gq_atm K V (e - 1)) (t + 1) with
    | inl b => rw [h1] at h; cases h
    | inr r =>
      rw [h1] at h
      simp only at h
      split at h
      · cases h
        have := hS.2.1 _ _ h1
        have : r.2 < T := by
          rcases Nat.lt_or_ge r.2 T with c | c
          · exact c
          · have := hK r.2 c; omega
        simp only
        omega
      · cases h
  · exact (gq_go_pln hK).2.1 _ _ h
theorem gq_tl_1 {K : Nat → Nat} {V : Nat → Option Nat} {e t b : Nat} (h4 : K t = 4) (he : 0 < e) (h : gq_som K (gq_atm K V (e - 1)) (t + 1) = .inl b) : gq_tl K V e t = .inl b := by unfold gq_tl; rw [if_pos ⟨h4, he⟩, h]
theorem gq_tl_2 {K : Nat → Nat} {V : Nat → Option Nat} {e t : Nat} {q : List Int32 × Nat} (h4 : K t = 4) (he : 0 < e) (h : gq_som K (gq_atm K V (e - 1)) (t + 1) = .inr q) (h5 : ¬ K q.2 = 5) : gq_tl K V e t = .inl q.2 := by unfold gq_tl; rw [if_pos ⟨h4, he⟩, h]; exact if_neg h5
theorem gq_tl_3 {K : Nat → Nat} {V : Nat → Option Nat} {e t : Nat} {q : List Int32 × Nat} (h4 : K t = 4) (he : 0 < e) (h : gq_som K (gq_atm K V (e - 1)) (t + 1) = .inr q) (h5 : K q.2 = 5) : gq_tl K V e t = .inr (q.1, q.2 + 1) := by unfold gq_tl; rw [if_pos ⟨h4, he⟩, h]; exact if_pos h5
theorem gq_tl_4 {K : Nat → Nat} {V : Nat → Option Nat} {e t : Nat} (h : ¬ (K t = 4 ∧ 0 < e)) : gq_tl K V e t = gq_pln K V t := if_neg h
theorem gq_pln_0 {K : Nat → Nat} {V : Nat → Option Nat} {t : Nat} (h : K t = 17 ∨ K t = 18) : gq_pln K V t = .inr ([-nI (K t)], t + 1) := if_pos h
theorem gq_pln_1 {K : Nat → Nat} {V : Nat → Option Nat} {t b : Nat} (h : ¬ (K t = 17 ∨ K t = 18)) (h1 : gq_sum K V t = .inl b) : gq_pln K V t = .inl b := by unfold gq_pln; rw [if_neg h, h1]
theorem gq_pln_2 {K : Nat → Nat} {V : Nat → Option Nat} {t : Nat} {q : List Int32 × Nat} (h : ¬ (K t = 17 ∨ K t = 18)) (h1 : gq_sum K V t = .inr q) (h2 : ¬ (K q.2 = 6 ∨ K q.2 = 7)) : gq_pln K V t = .inl q.2 := by unfold gq_pln; rw [if_neg h, h1]; exact if_neg h2
theorem gq_pln_3 {K : Nat → Nat} {V : Nat → Option Nat} {t b : Nat} {q : List Int32 × Nat} (h : ¬ (K t = 17 ∨ K t = 18)) (h1 : gq_sum K V t = .inr q) (h2 : K q.2 = 6 ∨ K q.2 = 7) (h3 : gq_sum K V (q.2 + 1) = .inl b) : gq_pln K V t = .inl b := by
  unfold gq_pln; rw [if_neg h, h1]; simp only; rw [if_pos h2, h3]
theorem gq_pln_4 {K : Nat → Nat} {V : Nat → Option Nat} {t : Nat} {q r : List Int32 × Nat} (h : ¬ (K t = 17 ∨ K t = 18)) (h1 : gq_sum K V t = .inr q) (h2 : K q.2 = 6 ∨ K q.2 = 7) (h3 : gq_sum K V (q.2 + 1) = .inr r) : gq_pln K V t = .inr (q.1 ++ r.1 ++ [-nI (K q.2)], r.2) := by
  unfold gq_pln; rw [if_neg h, h1]; simp only; rw [if_pos h2, h3]
theorem lr_bad.le {z2 : Nat} (h : lr_bad I K lr te f L e z) (hz : z ≤ z2) : lr_bad I K lr te f L e z2 := by
  obtain ⟨h1, h2, y, h3, h4⟩ := h
  exact ⟨h1, h2, y, h3, by omega⟩
/-- a not is written -/
theorem lr_out_35 {k : Nat} {r : gq_R} (h : lr_out I K lr te f L cs z (gq_wr k r)) (hb : ∀ q, r = .inr q → (cs ++ q.1).length + k < 400) (hz : z < 900) (hsep : te + 6 ≤ lr) : ∃ y, K lr 6 = nI y ∧ y < 1000 ∧ ∀ K2, lr_wr K K2 lr y (-35) → lr_out I K2 lr te f L cs (z + 1) (gq_wr (k + 1) r) := by
  cases r with
  | inl b =>
    have h : lr_bad I K lr te f L b z := h
    obtain ⟨h1, h2, y, h3, h4⟩ := id h
    exact ⟨y, h3, by omega, fun K2 hw => h.wr h3 h4 hw hsep⟩
  | inr q =>
    have h : lr_s I K lr te f L q.2 (cs ++ (q.1 ++ List.replicate k (-nI 35))) := h
    have h400 := hb q rfl
    have hl : (cs ++ (q.1 ++ List.replicate k (-nI 35))).length < 400 := by simp only [List.length_append, List.length_replicate] at h400 ⊢; omega
    refine ⟨_, h.sz, by omega, fun K2 hw => ?_⟩
    have h2 := h.wr hw hl hsep
    show lr_s I K2 lr te f L q.2 (cs ++ (q.1 ++ List.replicate (k + 1) (-nI 35)))
    rw [List.replicate_succ', show (-nI 35) = (-35 : Int32) from by decide] at *
    simp only [List.append_assoc] at h2 ⊢
    exact h2
def lc_C (l : Launch) (E : mx_Env) (t : Nat) (S : mx_S) (P : mx_P) (J : mx_G) (lr te : Nat) (f : Nat → Nat) (L e d : Nat) : Prop := ∀ (I : mx_I) (c : Nat) (cs : List Int32), lr_s I I lr te f L c cs → cs.length ≤ c → mx_C l E M_Lr_readCondition d 0 0 [.ref (lr), .int (nI (6 - e))] (t, S, I, P, J) (mx_sR (some (.int (bI (gq_ok (gq_som (tK f L) (gq_atm (tK f L) (tV f L) e) c))))) t S P J (fun K => lr_out I K lr te f L cs (401 + e) (gq_som (tK f L) (gq_atm (tK f L) (tV f L) e) c)))
theorem c_Lr_atomN (hLr : lr_ok S P lr te) (hTe : te_ok S P te) (hs0 : lr_s I I lr te f L c cs) (hcl : cs.length ≤ c) (hn : n = nt (tK f L) e c) (he6 : e ≤ 6) (hC : ∀ e2, e2 < e → lc_C l E t S P J lr te f L e2 (2 * e2 + 4))  : mx_C l E M_Lr_readAtom (2 * e + 3) 0 0 [.ref (lr), .int (nI (6 - e))] (t, S, I, P, J) (mx_sR (some (.int (bI (gq_ok (gq_atm (tK f L) (tV f L) e c))))) t S P J (fun K => lr_out I K lr te f L cs (401 + e) (gq_atm (tK f L) (tV f L) e c))) := by
  obtain ⟨hR0, hR1, hR2, hR3, hR4, hR5, hR6, hR7, hR8, hR9, hsep⟩ := id hLr
  obtain ⟨hT0, hT1, hT2, hT3, hT4, hT5, hT6, hT7, hT8, hT9, hT10⟩ := id hTe
  have hL9 := hs0.tok.1.2.2
  have hTL := tq_n_le f L
  have hnle : n ≤ e := by rw [hn]; exact nt_le _ e c
  have hnin : ∀ k, k < n → tq_k f L (tq_b f L (c + k)) = 35 := fun k hk => nt_in e c k (by rw [← hn]; exact hk)
  have hnout : tq_k f L (tq_b f L (c + n)) = 35 → n = e := fun z => by rw [hn]; exact nt_out e c (by rw [← hn]; exact z)
  obtain ⟨r, hr0⟩ : ∃ r, r = gq_tl (tK f L) (tV f L) (e - n) (c + n) := ⟨_, rfl⟩
  have htl : gq_atm (tK f L) (tV f L) e c = gq_wr n r := by rw [hr0, hn]; exact gq_atm_tl e c
  have hgl : ∀ q, r = .inr q → q.1.length + (c + n) ≤ q.2 ∧ q.2 ≤ tq_n f L := fun q hq => by have := gq_go_tl (tK0 rfl) (e - n) (hr0.symm.trans hq); omega
  have hgs : ∀ t q, gq_som (tK f L) (gq_atm (tK f L) (tV f L) (e - n - 1)) t = .inr q → t < q.2 ∧ q.2 ≤ tq_n f L ∧ q.1.length + t ≤ q.2 := fun t q hq => (gq_go_som (gq_go_atm (tK0 rfl) (e - n - 1)) (tK0 rfl)).2.1 t q hq
  refine mx_C_of (ls0 := [some (.ref (lr)), some (.int (nI (6 - e))), none, none, none, none]) (by decide +kernel) rfl rfl (Nat.le_of_ble_eq_true rfl) rfl ?_
  refine mx_il1 d_Lr_readAtom_0 ?_
  refine mx_is2 d_Lr_readAtom_1 ?_
  refine mx_lsc (congrArg (fun z9 => ([some (.ref (lr)), some (.int (nI (6 - e))), some (.int (z9)), none, none, none] : List (Option Value))) ((show nI (6 - e) = nI (6 - e + 0) from rfl))) ?_
  refine mx_loopX (α := (mx_I)) (N := n) (a0 := I) (fun k9 z9 => lr_s I z9 lr te f L (c + k9) cs) (ls := fun k9 z9 => [some (.ref (lr)), some (.int (nI (6 - e))), some (.int (nI (6 - e + k9))), none, none, none]) (X := fun k9 z9 => (t, S, z9, P, J)) (hs0) (fun k9 hk9 z9 hinv ih => ?_) (fun z9 hinv => ?_)
  · skip
    obtain ⟨K, hz9⟩ : ∃ q, q = z9 := ⟨_, rfl⟩
    subst hz9
    try dsimp only at hinv ih ⊢
    have hs := hinv
    have h35 := hnin k9 hk9
    refine mx_al0 d_Lr_readAtom_2 ?_
    refine mx_getR d_Lr_readAtom_3 fl_Lr_24 (by assumption) (by assumption) ?_
    refine mx_getI d_Lr_readAtom_6 fl_Lr_49 (by assumption) ?_
    refine mx_ti (y := nI (tq_k f L (tq_b f L (c + k9)))) (hs.cur.2.1) ?_
    refine mx_bip 35 d_Lr_readAtom_9 (by decide) ?_
    refine mx_icN_ne 33 d_Lr_readAtom_11 (by decide) (by omega) (by omega) (fun c_11 => absurd c_11 (by omega)) (fun c_11 => ?_)
    refine mx_il2 d_Lr_readAtom_14 ?_
    refine mx_bip 6 d_Lr_readAtom_15 (by decide) ?_
    refine mx_icN_ge 33 d_Lr_readAtom_17 (by decide) (by omega) (by omega) (fun c_17 => absurd c_17 (by omega)) (fun c_17 => ?_)
    refine mx_al0 d_Lr_readAtom_20 ?_
    refine mx_getR d_Lr_readAtom_21 fl_Lr_24 (by assumption) (by assumption) ?_
    refine mx_cV0vR d_Lr_readAtom_24 (c_Te_nextR hTe hs.tok hs.cur (tK_T (by show ¬ tq_k f L (tq_b f L (c + k9)) = 0; omega))) ok_Te_next ml_Lr_63 (by assumption) ⟨rfl, rfl⟩ (by omega) (Nat.le_of_ble_eq_true rfl) (fun K1 hK1 => ?_)
    have hs := hs.tk hK1 hsep
    refine mx_iN2 d_Lr_readAtom_27 ?_
    refine mx_goto 2 d_Lr_readAtom_30 (by decide) ?_
    have e2 : nI (6 - e + k9 + 1) = nI (6 - e + (k9 + 1)) := by rfl
    refine mx_lsc (congrArg (fun z9 => ([some (.ref (lr)), some (.int (nI (6 - e))), some (.int (z9)), none, none, none] : List (Option Value))) e2) ?_
    exact ih K1 (hs)
  · skip
    obtain ⟨K, hz9⟩ : ∃ q, q = z9 := ⟨_, rfl⟩
    subst hz9
    try dsimp only at hinv ⊢
    have hs := hinv
    have hTT := hs.cur.2.2
    have hk36 := tq_k_lt f L (tq_b f L (c + n))
    refine mx_al0 d_Lr_readAtom_2 ?_
    refine mx_getR d_Lr_readAtom_3 fl_Lr_24 (by assumption) (by assumption) ?_
    refine mx_getI d_Lr_readAtom_6 fl_Lr_49 (by assumption) ?_
    refine mx_ti (y := nI (tq_k f L (tq_b f L (c + n)))) (hs.cur.2.1) ?_
    refine mx_bip 35 d_Lr_readAtom_9 (by decide) ?_
    refine mx_icN_ne 33 d_Lr_readAtom_11 (by decide) (by omega) (by omega) (fun c_11 => ?_) (fun c_11 => ?_)
    · skip
      refine mx_al0 d_Lr_readAtom_33 ?_
      refine mx_getR d_Lr_readAtom_34 fl_Lr_24 (by assumption) (by assumption) ?_
      refine mx_getI d_Lr_readAtom_37 fl_Lr_49 (by assumption) ?_
      refine mx_ti (y := nI (tq_k f L (tq_b f L (c + n)))) (hs.cur.2.1) ?_
      refine mx_is3 d_Lr_readAtom_40 ?_
      refine mx_il3 d_Lr_readAtom_41 ?_
      refine mx_in_4 d_Lr_readAtom_42 ?_
      refine mx_icN_ne 90 d_Lr_readAtom_43 (by decide) (by omega) (by omega) (fun c_43 => ?_) (fun c_43 => ?_)
      · skip
        have hpl : gq_tl (tK f L) (tV f L) (e - n) (c + n) = gq_pln (tK f L) (tV f L) (c + n) := gq_tl_4 (fun z => by have z1 : tq_k f L (tq_b f L (c + n)) = 4 := z.1; omega)
        refine mx_il3 d_Lr_readAtom_90 ?_
        refine mx_bip 17 d_Lr_readAtom_91 (by decide) ?_
        refine mx_icN_eq 102 d_Lr_readAtom_93 (by decide) (by omega) (by omega) (fun c_93 => ?_) (fun c_93 => ?_)
        · skip
          have hm : tK f L (c + n) = 17 ∨ tK f L (c + n) = 18 := Or.inl c_93
          refine mx_al0 d_Lr_readAtom_102 ?_
          refine mx_getR d_Lr_readAtom_103 fl_Lr_24 (by assumption) (by assumption) ?_
          refine mx_cV0vR d_Lr_readAtom_106 (c_Te_nextR hTe hs.tok hs.cur (tK_T (by show ¬ tq_k f L (tq_b f L (c + n)) = 0; omega))) ok_Te_next ml_Lr_63 (by assumption) ⟨rfl, rfl⟩ (by omega) (Nat.le_of_ble_eq_true rfl) (fun K1 hK1 => ?_)
          have hs := hs.tk hK1 hsep
          refine mx_al0 d_Lr_readAtom_109 ?_
          refine mx_il3 d_Lr_readAtom_110 ?_
          refine mx_ineg d_Lr_readAtom_111 ?_
          refine mx_cV1vR d_Lr_readAtom_112 (c_Lr_write hLr hs.sz (by omega)) ok_Lr_write ml_Lr_84 (by assumption) ⟨rfl, rfl⟩ (by omega) (Nat.le_of_ble_eq_true rfl) (fun K2 hK2 => ?_)
          have hs := hs.wr hK2 (by have := hs.cur.2.2; omega) hsep
          have er : r = .inr ([-nI (tK f L (c + n))], c + n + 1) := hr0.trans (hpl.trans (gq_pln_0 hm))
          have hr : lr_out I K2 lr te f L cs (401 + (e - n)) r := by rw [er]; exact hs
          have hok : gq_ok r = true := by rw [er]; rfl
          refine mx_in_1 d_Lr_readAtom_115 ?_
          refine mx_is4 d_Lr_readAtom_116 ?_
          refine mx_goto 186 d_Lr_readAtom_118 (by decide) ?_
          refine mx_il1 d_Lr_readAtom_186 ?_
          refine mx_is5 d_Lr_readAtom_187 ?_
          refine mx_lsc (congrArg (fun z9 => ([some (.ref (lr)), some (.int (nI (6 - e))), some (.int (nI (6 - e + n))), some (.int (nI (tq_k f L (tq_b f L (c + n))))), some (.int (nI (1))), some (.int (z9))] : List (Option Value))) ((show nI (6 - e) = nI (6 - e + 0) from rfl))) ?_
          refine mx_loopX (α := (mx_I)) (N := n) (a0 := K2) (fun k8 z9 => lr_out I z9 lr te f L cs (401 + (e - n) + k8) (gq_wr k8 r)) (ls := fun k8 z9 => [some (.ref (lr)), some (.int (nI (6 - e))), some (.int (nI (6 - e + n))), some (.int (nI (tq_k f L (tq_b f L (c + n))))), some (.int (nI (1))), some (.int (nI (6 - e + k8)))]) (X := fun k8 z9 => (t, S, z9, P, J)) ((by rw [gq_wr_0]; exact hr)) (fun k8 hk8 z9 hinv ih => ?_) (fun z9 hinv => ?_)
          · skip
            obtain ⟨K, hz9⟩ : ∃ q, q = z9 := ⟨_, rfl⟩
            subst hz9
            try dsimp only at hinv ih ⊢
            obtain ⟨y, hy, hy5, hw35⟩ := lr_out_35 hinv (fun q hq => by have := hgl q hq; simp only [List.length_append]; omega) (by omega) hsep
            refine mx_il5 d_Lr_readAtom_189 ?_
            refine mx_il2 d_Lr_readAtom_191 ?_
            refine mx_icN_ge 207 d_Lr_readAtom_192 (by decide) (by omega) (by omega) (fun c_192 => absurd c_192 (by omega)) (fun c_192 => ?_)
            refine mx_al0 d_Lr_readAtom_195 ?_
            refine mx_bipush (v := -35) d_Lr_readAtom_196 (by decide) ?_
            refine mx_cV1vR d_Lr_readAtom_198 (c_Lr_write hLr hy (by omega)) ok_Lr_write ml_Lr_84 (by assumption) ⟨rfl, rfl⟩ (by omega) (Nat.le_of_ble_eq_true rfl) (fun K9 hK9 => ?_)
            refine mx_iN5 d_Lr_readAtom_201 ?_
            refine mx_goto 189 d_Lr_readAtom_204 (by decide) ?_
            have e5 : nI (6 - e + k8 + 1) = nI (6 - e + (k8 + 1)) := by rfl
            refine mx_lsc (congrArg (fun z9 => ([some (.ref (lr)), some (.int (nI (6 - e))), some (.int (nI (6 - e + n))), some (.int (nI (tq_k f L (tq_b f L (c + n))))), some (.int (nI (1))), some (.int (z9))] : List (Option Value))) e5) ?_
            exact ih K9 (hw35 _ hK9)
          · skip
            obtain ⟨K, hz9⟩ : ∃ q, q = z9 := ⟨_, rfl⟩
            subst hz9
            try dsimp only at hinv ⊢
            refine mx_il5 d_Lr_readAtom_189 ?_
            refine mx_il2 d_Lr_readAtom_191 ?_
            refine mx_icN_ge 207 d_Lr_readAtom_192 (by decide) (by omega) (by omega) (fun c_192 => ?_) (fun c_192 => absurd c_192 (by omega))
            refine mx_il4 d_Lr_readAtom_207 ?_
            exact mx_zret d_Lr_readAtom_209 rfl (by first | exact Or.inl rfl | exact Or.inr rfl) (mx_sR_i (by rw [htl, gq_ok_wr, hok]; rfl) (by rw [htl]; rw [show 401 + e = 401 + (e - n) + n by omega]; exact hinv))
        · skip
          refine mx_il3 d_Lr_readAtom_96 ?_
          refine mx_bip 18 d_Lr_readAtom_97 (by decide) ?_
          refine mx_icN_ne 121 d_Lr_readAtom_99 (by decide) (by omega) (by omega) (fun c_99 => ?_) (fun c_99 => ?_)
          · skip
            have hnm : ¬ (tK f L (c + n) = 17 ∨ tK f L (c + n) = 18) := fun z => z.elim c_93 c_99
            refine mx_al0 d_Lr_readAtom_121 ?_
            refine mx_cV0iR d_Lr_readAtom_122 (c_Lr_readSum hLr hTe hs.self (by omega)) ok_Lr_readSum ml_Lr_88 (by assumption) ⟨rfl, rfl⟩ (by omega) (Nat.le_of_ble_eq_true rfl) (fun K2 hK2 => ?_)
            refine mx_is4 d_Lr_readAtom_125 ?_
            refine mx_al0 d_Lr_readAtom_127 ?_
            refine mx_getR d_Lr_readAtom_128 fl_Lr_24 (by assumption) (by assumption) ?_
            refine mx_getI d_Lr_readAtom_131 fl_Lr_49 (by assumption) ?_
            refine mx_bip 7 d_Lr_readAtom_134 (by decide) ?_
            refine mx_icmp_ne 144 d_Lr_readAtom_136 (by decide) (fun c_136 => ?_) (fun c_136 => ?_)
            · skip
              refine mx_bip 6 d_Lr_readAtom_144 (by decide) ?_
              refine mx_is5 d_Lr_readAtom_146 ?_
              refine mx_il4 d_Lr_readAtom_148 ?_
              refine mx_ifB_eq 176 d_Lr_readAtom_150 (by decide) (fun c_150 => ?_) (fun c_150 => ?_)
              · skip
                obtain ⟨b, hsum⟩ := gq_ok_f c_150
                rw [hsum] at hK2
                have hbad := hs.trb hK2
                obtain ⟨-, -, y, hy, hyz⟩ := id hbad
                refine mx_in_0 d_Lr_readAtom_176 ?_
                refine mx_is4 d_Lr_readAtom_177 ?_
                refine mx_al0 d_Lr_readAtom_179 ?_
                refine mx_il5 d_Lr_readAtom_180 ?_
                refine mx_ineg d_Lr_readAtom_182 ?_
                refine mx_cV1vR d_Lr_readAtom_183 (c_Lr_write hLr hy (by omega)) ok_Lr_write ml_Lr_84 (by assumption) ⟨rfl, rfl⟩ (by omega) (Nat.le_of_ble_eq_true rfl) (fun K5 hK5 => ?_)
                have er : r = .inl b := hr0.trans (hpl.trans (gq_pln_1 hnm hsum))
                have hr : lr_out I K5 lr te f L cs (401 + (e - n)) r := by rw [er]; exact (hbad.wr hy hyz hK5 hsep).le (by omega)
                have hok : gq_ok r = false := by rw [er]; rfl
                refine mx_il1 d_Lr_readAtom_186 ?_
                refine mx_is5 d_Lr_readAtom_187 ?_
                refine mx_lsc (congrArg (fun z9 => ([some (.ref (lr)), some (.int (nI (6 - e))), some (.int (nI (6 - e + n))), some (.int (nI (tq_k f L (tq_b f L (c + n))))), some (.int (nI (0))), some (.int (z9))] : List (Option Value))) ((show nI (6 - e) = nI (6 - e + 0) from rfl))) ?_
                refine mx_loopX (α := (mx_I)) (N := n) (a0 := K5) (fun k8 z9 => lr_out I z9 lr te f L cs (401 + (e - n) + k8) (gq_wr k8 r)) (ls := fun k8 z9 => [some (.ref (lr)), some (.int (nI (6 - e))), some (.int (nI (6 - e + n))), some (.int (nI (tq_k f L (tq_b f L (c + n))))), some (.int (nI (0))), some (.int (nI (6 - e + k8)))]) (X := fun k8 z9 => (t, S, z9, P, J)) ((by rw [gq_wr_0]; exact hr)) (fun k8 hk8 z9 hinv ih => ?_) (fun z9 hinv => ?_)
                · skip
                  obtain ⟨K, hz9⟩ : ∃ q, q = z9 := ⟨_, rfl⟩
                  subst hz9
                  try dsimp only at hinv ih ⊢
                  obtain ⟨y, hy, hy5, hw35⟩ := lr_out_35 hinv (fun q hq => by have := hgl q hq; simp only [List.length_append]; omega) (by omega) hsep
                  refine mx_il5 d_Lr_readAtom_189 ?_
                  refine mx_il2 d_Lr_readAtom_191 ?_
                  refine mx_icN_ge 207 d_Lr_readAtom_192 (by decide) (by omega) (by omega) (fun c_192 => absurd c_192 (by omega)) (fun c_192 => ?_)
                  refine mx_al0 d_Lr_readAtom_195 ?_
                  refine mx_bipush (v := -35) d_Lr_readAtom_196 (by decide) ?_
                  refine mx_cV1vR d_Lr_readAtom_198 (c_Lr_write hLr hy (by omega)) ok_Lr_write ml_Lr_84 (by assumption) ⟨rfl, rfl⟩ (by omega) (Nat.le_of_ble_eq_true rfl) (fun K9 hK9 => ?_)
                  refine mx_iN5 d_Lr_readAtom_201 ?_
                  refine mx_goto 189 d_Lr_readAtom_204 (by decide) ?_
                  have e5 : nI (6 - e + k8 + 1) = nI (6 - e + (k8 + 1)) := by rfl
                  refine mx_lsc (congrArg (fun z9 => ([some (.ref (lr)), some (.int (nI (6 - e))), some (.int (nI (6 - e + n))), some (.int (nI (tq_k f L (tq_b f L (c + n))))), some (.int (nI (0))), some (.int (z9))] : List (Option Value))) e5) ?_
                  exact ih K9 (hw35 _ hK9)
                · skip
                  obtain ⟨K, hz9⟩ : ∃ q, q = z9 := ⟨_, rfl⟩
                  subst hz9
                  try dsimp only at hinv ⊢
                  refine mx_il5 d_Lr_readAtom_189 ?_
                  refine mx_il2 d_Lr_readAtom_191 ?_
                  refine mx_icN_ge 207 d_Lr_readAtom_192 (by decide) (by omega) (by omega) (fun c_192 => ?_) (fun c_192 => absurd c_192 (by omega))
                  refine mx_il4 d_Lr_readAtom_207 ?_
                  exact mx_zret d_Lr_readAtom_209 rfl (by first | exact Or.inl rfl | exact Or.inr rfl) (mx_sR_i (by rw [htl, gq_ok_wr, hok]; rfl) (by rw [htl]; rw [show 401 + e = 401 + (e - n) + n by omega]; exact hinv))
              · skip
                obtain ⟨q, hsum⟩ := gq_ok_t c_150
                rw [hsum] at hK2
                have hs := hs.tr hK2
                have h29 := hs.cur.2.1
                have hg1 := (gq_go_sum (tK0 rfl)).2.1 _ _ hsum
                refine mx_al0 d_Lr_readAtom_153 ?_
                refine mx_getR d_Lr_readAtom_154 fl_Lr_24 (by assumption) (by assumption) ?_
                refine mx_il5 d_Lr_readAtom_157 ?_
                refine mx_cV1iR d_Lr_readAtom_159 (c_Te_takes hTe hs.tok hs.cur (w := 6) (by omega) (by omega)) ok_Te_takes ml_Lr_56 (by assumption) ⟨rfl, rfl⟩ (by omega) (Nat.le_of_ble_eq_true rfl) (fun K3 hK3 => ?_)
                refine mx_ifB_eq 176 d_Lr_readAtom_162 (by decide) (fun c_162 => ?_) (fun c_162 => ?_)
                · skip
                  have hk6 : ¬ tK f L q.2 = 6 := fun z => by rw [gq_tk_y z] at c_162; cases c_162
                  have hk67 : ¬ (tK f L q.2 = 6 ∨ tK f L q.2 = 7) := fun z => z.elim hk6 (fun z => c_136 (h29.trans (congrArg nI z)))
                  rw [gq_tk_n hk6] at hK3
                  have hbad := hs.bad hK3 hsep (z := 400) (by simp only [List.length_append]; omega)
                  obtain ⟨-, -, y, hy, hyz⟩ := id hbad
                  refine mx_in_0 d_Lr_readAtom_176 ?_
                  refine mx_is4 d_Lr_readAtom_177 ?_
                  refine mx_al0 d_Lr_readAtom_179 ?_
                  refine mx_il5 d_Lr_readAtom_180 ?_
                  refine mx_ineg d_Lr_readAtom_182 ?_
                  refine mx_cV1vR d_Lr_readAtom_183 (c_Lr_write hLr hy (by omega)) ok_Lr_write ml_Lr_84 (by assumption) ⟨rfl, rfl⟩ (by omega) (Nat.le_of_ble_eq_true rfl) (fun K5 hK5 => ?_)
                  have er : r = .inl q.2 := hr0.trans (hpl.trans (gq_pln_2 hnm hsum hk67))
                  have hr : lr_out I K5 lr te f L cs (401 + (e - n)) r := by rw [er]; exact (hbad.wr hy hyz hK5 hsep).le (by omega)
                  have hok : gq_ok r = false := by rw [er]; rfl
                  refine mx_il1 d_Lr_readAtom_186 ?_
                  refine mx_is5 d_Lr_readAtom_187 ?_
                  refine mx_lsc (congrArg (fun z9 => ([some (.ref (lr)), some (.int (nI (6 - e))), some (.int (nI (6 - e + n))), some (.int (nI (tq_k f L (tq_b f L (c + n))))), some (.int (nI (0))), some (.int (z9))] : List (Option Value))) ((show nI (6 - e) = nI (6 - e + 0) from rfl))) ?_
                  refine mx_loopX (α := (mx_I)) (N := n) (a0 := K5) (fun k8 z9 => lr_out I z9 lr te f L cs (401 + (e - n) + k8) (gq_wr k8 r)) (ls := fun k8 z9 => [some (.ref (lr)), some (.int (nI (6 - e))), some (.int (nI (6 - e + n))), some (.int (nI (tq_k f L (tq_b f L (c + n))))), some (.int (nI (0))), some (.int (nI (6 - e + k8)))]) (X := fun k8 z9 => (t, S, z9, P, J)) ((by rw [gq_wr_0]; exact hr)) (fun k8 hk8 z9 hinv ih => ?_) (fun z9 hinv => ?_)
                  · skip
                    obtain ⟨K, hz9⟩ : ∃ q, q = z9 := ⟨_, rfl⟩
                    subst hz9
                    try dsimp only at hinv ih ⊢
                    obtain ⟨y, hy, hy5, hw35⟩ := lr_out_35 hinv (fun q hq => by have := hgl q hq; simp only [List.length_append]; omega) (by omega) hsep
                    refine mx_il5 d_Lr_readAtom_189 ?_
                    refine mx_il2 d_Lr_readAtom_191 ?_
                    refine mx_icN_ge 207 d_Lr_readAtom_192 (by decide) (by omega) (by omega) (fun c_192 => absurd c_192 (by omega)) (fun c_192 => ?_)
                    refine mx_al0 d_Lr_readAtom_195 ?_
                    refine mx_bipush (v := -35) d_Lr_readAtom_196 (by decide) ?_
                    refine mx_cV1vR d_Lr_readAtom_198 (c_Lr_write hLr hy (by omega)) ok_Lr_write ml_Lr_84 (by assumption) ⟨rfl, rfl⟩ (by omega) (Nat.le_of_ble_eq_true rfl) (fun K9 hK9 => ?_)
                    refine mx_iN5 d_Lr_readAtom_201 ?_
                    refine mx_goto 189 d_Lr_readAtom_204 (by decide) ?_
                    have e5 : nI (6 - e + k8 + 1) = nI (6 - e + (k8 + 1)) := by rfl
                    refine mx_lsc (congrArg (fun z9 => ([some (.ref (lr)), some (.int (nI (6 - e))), some (.int (nI (6 - e + n))), some (.int (nI (tq_k f L (tq_b f L (c + n))))), some (.int (nI (0))), some (.int (z9))] : List (Option Value))) e5) ?_
                    exact ih K9 (hw35 _ hK9)
                  · skip
                    obtain ⟨K, hz9⟩ : ∃ q, q = z9 := ⟨_, rfl⟩
                    subst hz9
                    try dsimp only at hinv ⊢
                    refine mx_il5 d_Lr_readAtom_189 ?_
                    refine mx_il2 d_Lr_readAtom_191 ?_
                    refine mx_icN_ge 207 d_Lr_readAtom_192 (by decide) (by omega) (by omega) (fun c_192 => ?_) (fun c_192 => absurd c_192 (by omega))
                    refine mx_il4 d_Lr_readAtom_207 ?_
                    exact mx_zret d_Lr_readAtom_209 rfl (by first | exact Or.inl rfl | exact Or.inr rfl) (mx_sR_i (by rw [htl, gq_ok_wr, hok]; rfl) (by rw [htl]; rw [show 401 + e = 401 + (e - n) + n by omega]; exact hinv))
                · skip
                  have hk67 : tK f L q.2 = 6 := Decidable.byContradiction (fun z => by rw [gq_tk_n z] at c_162; cases c_162)
                  rw [gq_tk_y hk67] at hK3
                  have hs := hs.tk hK3 hsep
                  refine mx_al0 d_Lr_readAtom_165 ?_
                  refine mx_cV0iR d_Lr_readAtom_166 (c_Lr_readSum hLr hTe hs.self (by simp only [List.length_append] at *; omega)) ok_Lr_readSum ml_Lr_88 (by assumption) ⟨rfl, rfl⟩ (by omega) (Nat.le_of_ble_eq_true rfl) (fun K4 hK4 => ?_)
                  refine mx_ifB_eq 176 d_Lr_readAtom_169 (by decide) (fun c_169 => ?_) (fun c_169 => ?_)
                  · skip
                    obtain ⟨b, hsum2⟩ := gq_ok_f c_169
                    rw [hsum2] at hK4
                    have hbad := hs.trb hK4
                    obtain ⟨-, -, y, hy, hyz⟩ := id hbad
                    refine mx_in_0 d_Lr_readAtom_176 ?_
                    refine mx_is4 d_Lr_readAtom_177 ?_
                    refine mx_al0 d_Lr_readAtom_179 ?_
                    refine mx_il5 d_Lr_readAtom_180 ?_
                    refine mx_ineg d_Lr_readAtom_182 ?_
                    refine mx_cV1vR d_Lr_readAtom_183 (c_Lr_write hLr hy (by omega)) ok_Lr_write ml_Lr_84 (by assumption) ⟨rfl, rfl⟩ (by omega) (Nat.le_of_ble_eq_true rfl) (fun K5 hK5 => ?_)
                    have er : r = .inl b := hr0.trans (hpl.trans (gq_pln_3 hnm hsum (by omega) hsum2))
                    have hr : lr_out I K5 lr te f L cs (401 + (e - n)) r := by rw [er]; exact (hbad.wr hy hyz hK5 hsep).le (by omega)
                    have hok : gq_ok r = false := by rw [er]; rfl
                    refine mx_il1 d_Lr_readAtom_186 ?_
                    refine mx_is5 d_Lr_readAtom_187 ?_
                    refine mx_lsc (congrArg (fun z9 => ([some (.ref (lr)), some (.int (nI (6 - e))), some (.int (nI (6 - e + n))), some (.int (nI (tq_k f L (tq_b f L (c + n))))), some (.int (nI (0))), some (.int (z9))] : List (Option Value))) ((show nI (6 - e) = nI (6 - e + 0) from rfl))) ?_
                    refine mx_loopX (α := (mx_I)) (N := n) (a0 := K5) (fun k8 z9 => lr_out I z9 lr te f L cs (401 + (e - n) + k8) (gq_wr k8 r)) (ls := fun k8 z9 => [some (.ref (lr)), some (.int (nI (6 - e))), some (.int (nI (6 - e + n))), some (.int (nI (tq_k f L (tq_b f L (c + n))))), some (.int (nI (0))), some (.int (nI (6 - e + k8)))]) (X := fun k8 z9 => (t, S, z9, P, J)) ((by rw [gq_wr_0]; exact hr)) (fun k8 hk8 z9 hinv ih => ?_) (fun z9 hinv => ?_)
                    · skip
                      obtain ⟨K, hz9⟩ : ∃ q, q = z9 := ⟨_, rfl⟩
                      subst hz9
                      try dsimp only at hinv ih ⊢
                      obtain ⟨y, hy, hy5, hw35⟩ := lr_out_35 hinv (fun q hq => by have := hgl q hq; simp only [List.length_append]; omega) (by omega) hsep
                      refine mx_il5 d_Lr_readAtom_189 ?_
                      refine mx_il2 d_Lr_readAtom_191 ?_
                      refine mx_icN_ge 207 d_Lr_readAtom_192 (by decide) (by omega) (by omega) (fun c_192 => absurd c_192 (by omega)) (fun c_192 => ?_)
                      refine mx_al0 d_Lr_readAtom_195 ?_
                      refine mx_bipush (v := -35) d_Lr_readAtom_196 (by decide) ?_
                      refine mx_cV1vR d_Lr_readAtom_198 (c_Lr_write hLr hy (by omega)) ok_Lr_write ml_Lr_84 (by assumption) ⟨rfl, rfl⟩ (by omega) (Nat.le_of_ble_eq_true rfl) (fun K9 hK9 => ?_)
                      refine mx_iN5 d_Lr_readAtom_201 ?_
                      refine mx_goto 189 d_Lr_readAtom_204 (by decide) ?_
                      have e5 : nI (6 - e + k8 + 1) = nI (6 - e + (k8 + 1)) := by rfl
                      refine mx_lsc (congrArg (fun z9 => ([some (.ref (lr)), some (.int (nI (6 - e))), some (.int (nI (6 - e + n))), some (.int (nI (tq_k f L (tq_b f L (c + n))))), some (.int (nI (0))), some (.int (z9))] : List (Option Value))) e5) ?_
                      exact ih K9 (hw35 _ hK9)
                    · skip
                      obtain ⟨K, hz9⟩ : ∃ q, q = z9 := ⟨_, rfl⟩
                      subst hz9
                      try dsimp only at hinv ⊢
                      refine mx_il5 d_Lr_readAtom_189 ?_
                      refine mx_il2 d_Lr_readAtom_191 ?_
                      refine mx_icN_ge 207 d_Lr_readAtom_192 (by decide) (by omega) (by omega) (fun c_192 => ?_) (fun c_192 => absurd c_192 (by omega))
                      refine mx_il4 d_Lr_readAtom_207 ?_
                      exact mx_zret d_Lr_readAtom_209 rfl (by first | exact Or.inl rfl | exact Or.inr rfl) (mx_sR_i (by rw [htl, gq_ok_wr, hok]; rfl) (by rw [htl]; rw [show 401 + e = 401 + (e - n) + n by omega]; exact hinv))
                  · skip
                    obtain ⟨q2, hsum2⟩ := gq_ok_t c_169
                    rw [hsum2] at hK4
                    have hs := hs.tr hK4
                    have hg2 := (gq_go_sum (tK0 rfl)).2.1 _ _ hsum2
                    have hL5 : (cs ++ q.1 ++ q2.1).length < 400 := by simp only [List.length_append]; omega
                    refine mx_in_1 d_Lr_readAtom_172 ?_
                    refine mx_goto 177 d_Lr_readAtom_173 (by decide) ?_
                    refine mx_is4 d_Lr_readAtom_177 ?_
                    refine mx_al0 d_Lr_readAtom_179 ?_
                    refine mx_il5 d_Lr_readAtom_180 ?_
                    refine mx_ineg d_Lr_readAtom_182 ?_
                    refine mx_cV1vR d_Lr_readAtom_183 (c_Lr_write hLr hs.sz (by omega)) ok_Lr_write ml_Lr_84 (by assumption) ⟨rfl, rfl⟩ (by omega) (Nat.le_of_ble_eq_true rfl) (fun K5 hK5 => ?_)
                    have hs := hs.wr hK5 (by omega) hsep
                    have er : r = .inr (q.1 ++ q2.1 ++ [-nI (tK f L q.2)], q2.2) := hr0.trans (hpl.trans (gq_pln_4 hnm hsum (by omega) hsum2))
                    have hr : lr_out I K5 lr te f L cs (401 + (e - n)) r := by rw [er]; exact (by rw [hk67]; simp only [List.append_assoc] at hs ⊢; exact hs)
                    have hok : gq_ok r = true := by rw [er]; rfl
                    refine mx_il1 d_Lr_readAtom_186 ?_
                    refine mx_is5 d_Lr_readAtom_187 ?_
                    refine mx_lsc (congrArg (fun z9 => ([some (.ref (lr)), some (.int (nI (6 - e))), some (.int (nI (6 - e + n))), some (.int (nI (tq_k f L (tq_b f L (c + n))))), some (.int (nI (1))), some (.int (z9))] : List (Option Value))) ((show nI (6 - e) = nI (6 - e + 0) from rfl))) ?_
                    refine mx_loopX (α := (mx_I)) (N := n) (a0 := K5) (fun k8 z9 => lr_out I z9 lr te f L cs (401 + (e - n) + k8) (gq_wr k8 r)) (ls := fun k8 z9 => [some (.ref (lr)), some (.int (nI (6 - e))), some (.int (nI (6 - e + n))), some (.int (nI (tq_k f L (tq_b f L (c + n))))), some (.int (nI (1))), some (.int (nI (6 - e + k8)))]) (X := fun k8 z9 => (t, S, z9, P, J)) ((by rw [gq_wr_0]; exact hr)) (fun k8 hk8 z9 hinv ih => ?_) (fun z9 hinv => ?_)
                    · skip
                      obtain ⟨K, hz9⟩ : ∃ q, q = z9 := ⟨_, rfl⟩
                      subst hz9
                      try dsimp only at hinv ih ⊢
                      obtain ⟨y, hy, hy5, hw35⟩ := lr_out_35 hinv (fun q hq => by have := hgl q hq; simp only [List.length_append]; omega) (by omega) hsep
                      refine mx_il5 d_Lr_readAtom_189 ?_
                      refine mx_il2 d_Lr_readAtom_191 ?_
                      refine mx_icN_ge 207 d_Lr_readAtom_192 (by decide) (by omega) (by omega) (fun c_192 => absurd c_192 (by omega)) (fun c_192 => ?_)
                      refine mx_al0 d_Lr_readAtom_195 ?_
                      refine mx_bipush (v := -35) d_Lr_readAtom_196 (by decide) ?_
                      refine mx_cV1vR d_Lr_readAtom_198 (c_Lr_write hLr hy (by omega)) ok_Lr_write ml_Lr_84 (by assumption) ⟨rfl, rfl⟩ (by omega) (Nat.le_of_ble_eq_true rfl) (fun K9 hK9 => ?_)
                      refine mx_iN5 d_Lr_readAtom_201 ?_
                      refine mx_goto 189 d_Lr_readAtom_204 (by decide) ?_
                      have e5 : nI (6 - e + k8 + 1) = nI (6 - e + (k8 + 1)) := by rfl
                      refine mx_lsc (congrArg (fun z9 => ([some (.ref (lr)), some (.int (nI (6 - e))), some (.int (nI (6 - e + n))), some (.int (nI (tq_k f L (tq_b f L (c + n))))), some (.int (nI (1))), some (.int (z9))] : List (Option Value))) e5) ?_
                      exact ih K9 (hw35 _ hK9)
                    · skip
                      obtain ⟨K, hz9⟩ : ∃ q, q = z9 := ⟨_, rfl⟩
                      subst hz9
                      try dsimp only at hinv ⊢
                      refine mx_il5 d_Lr_readAtom_189 ?_
                      refine mx_il2 d_Lr_readAtom_191 ?_
                      refine mx_icN_ge 207 d_Lr_readAtom_192 (by decide) (by omega) (by omega) (fun c_192 => ?_) (fun c_192 => absurd c_192 (by omega))
                      refine mx_il4 d_Lr_readAtom_207 ?_
                      exact mx_zret d_Lr_readAtom_209 rfl (by first | exact Or.inl rfl | exact Or.inr rfl) (mx_sR_i (by rw [htl, gq_ok_wr, hok]; rfl) (by rw [htl]; rw [show 401 + e = 401 + (e - n) + n by omega]; exact hinv))
            · skip
              refine mx_bip 7 d_Lr_readAtom_139 (by decide) ?_
              refine mx_goto 146 d_Lr_readAtom_141 (by decide) ?_
              refine mx_is5 d_Lr_readAtom_146 ?_
              refine mx_il4 d_Lr_readAtom_148 ?_
              refine mx_ifB_eq 176 d_Lr_readAtom_150 (by decide) (fun c_150 => ?_) (fun c_150 => ?_)
              · skip
                obtain ⟨b, hsum⟩ := gq_ok_f c_150
                rw [hsum] at hK2
                have hbad := hs.trb hK2
                obtain ⟨-, -, y, hy, hyz⟩ := id hbad
                refine mx_in_0 d_Lr_readAtom_176 ?_
                refine mx_is4 d_Lr_readAtom_177 ?_
                refine mx_al0 d_Lr_readAtom_179 ?_
                refine mx_il5 d_Lr_readAtom_180 ?_
                refine mx_ineg d_Lr_readAtom_182 ?_
                refine mx_cV1vR d_Lr_readAtom_183 (c_Lr_write hLr hy (by omega)) ok_Lr_write ml_Lr_84 (by assumption) ⟨rfl, rfl⟩ (by omega) (Nat.le_of_ble_eq_true rfl) (fun K5 hK5 => ?_)
                have er : r = .inl b := hr0.trans (hpl.trans (gq_pln_1 hnm hsum))
                have hr : lr_out I K5 lr te f L cs (401 + (e - n)) r := by rw [er]; exact (hbad.wr hy hyz hK5 hsep).le (by omega)
                have hok : gq_ok r = false := by rw [er]; rfl
                refine mx_il1 d_Lr_readAtom_186 ?_
                refine mx_is5 d_Lr_readAtom_187 ?_
                refine mx_lsc (congrArg (fun z9 => ([some (.ref (lr)), some (.int (nI (6 - e))), some (.int (nI (6 - e + n))), some (.int (nI (tq_k f L (tq_b f L (c + n))))), some (.int (nI (0))), some (.int (z9))] : List (Option Value))) ((show nI (6 - e) = nI (6 - e + 0) from rfl))) ?_
                refine mx_loopX (α := (mx_I)) (N := n) (a0 := K5) (fun k8 z9 => lr_out I z9 lr te f L cs (401 + (e - n) + k8) (gq_wr k8 r)) (ls := fun k8 z9 => [some (.ref (lr)), some (.int (nI (6 - e))), some (.int (nI (6 - e + n))), some (.int (nI (tq_k f L (tq_b f L (c + n))))), some (.int (nI (0))), some (.int (nI (6 - e + k8)))]) (X := fun k8 z9 => (t, S, z9, P, J)) ((by rw [gq_wr_0]; exact hr)) (fun k8 hk8 z9 hinv ih => ?_) (fun z9 hinv => ?_)
                · skip
                  obtain ⟨K, hz9⟩ : ∃ q, q = z9 := ⟨_, rfl⟩
                  subst hz9
                  try dsimp only at hinv ih ⊢
                  obtain ⟨y, hy, hy5, hw35⟩ := lr_out_35 hinv (fun q hq => by have := hgl q hq; simp only [List.length_append]; omega) (by omega) hsep
                  refine mx_il5 d_Lr_readAtom_189 ?_
                  refine mx_il2 d_Lr_readAtom_191 ?_
                  refine mx_icN_ge 207 d_Lr_readAtom_192 (by decide) (by omega) (by omega) (fun c_192 => absurd c_192 (by omega)) (fun c_192 => ?_)
                  refine mx_al0 d_Lr_readAtom_195 ?_
                  refine mx_bipush (v := -35) d_Lr_readAtom_196 (by decide) ?_
                  refine mx_cV1vR d_Lr_readAtom_198 (c_Lr_write hLr hy (by omega)) ok_Lr_write ml_Lr_84 (by assumption) ⟨rfl, rfl⟩ (by omega) (Nat.le_of_ble_eq_true rfl) (fun K9 hK9 => ?_)
                  refine mx_iN5 d_Lr_readAtom_201 ?_
                  refine mx_goto 189 d_Lr_readAtom_204 (by decide) ?_
                  have e5 : nI (6 - e + k8 + 1) = nI (6 - e + (k8 + 1)) := by rfl
                  refine mx_lsc (congrArg (fun z9 => ([some (.ref (lr)), some (.int (nI (6 - e))), some (.int (nI (6 - e + n))), some (.int (nI (tq_k f L (tq_b f L (c + n))))), some (.int (nI (0))), some (.int (z9))] : List (Option Value))) e5) ?_
                  exact ih K9 (hw35 _ hK9)
                · skip
                  obtain ⟨K, hz9⟩ : ∃ q, q = z9 := ⟨_, rfl⟩
                  subst hz9
                  try dsimp only at hinv ⊢
                  refine mx_il5 d_Lr_readAtom_189 ?_
                  refine mx_il2 d_Lr_readAtom_191 ?_
                  refine mx_icN_ge 207 d_Lr_readAtom_192 (by decide) (by omega) (by omega) (fun c_192 => ?_) (fun c_192 => absurd c_192 (by omega))
                  refine mx_il4 d_Lr_readAtom_207 ?_
                  exact mx_zret d_Lr_readAtom_209 rfl (by first | exact Or.inl rfl | exact Or.inr rfl) (mx_sR_i (by rw [htl, gq_ok_wr, hok]; rfl) (by rw [htl]; rw [show 401 + e = 401 + (e - n) + n by omega]; exact hinv))
              · skip
                obtain ⟨q, hsum⟩ := gq_ok_t c_150
                rw [hsum] at hK2
                have hs := hs.tr hK2
                have h29 := hs.cur.2.1
                have hg1 := (gq_go_sum (tK0 rfl)).2.1 _ _ hsum
                refine mx_al0 d_Lr_readAtom_153 ?_
                refine mx_getR d_Lr_readAtom_154 fl_Lr_24 (by assumption) (by assumption) ?_
                refine mx_il5 d_Lr_readAtom_157 ?_
                refine mx_cV1iR d_Lr_readAtom_159 (c_Te_takes hTe hs.tok hs.cur (w := 7) (by omega) (by omega)) ok_Te_takes ml_Lr_56 (by assumption) ⟨rfl, rfl⟩ (by omega) (Nat.le_of_ble_eq_true rfl) (fun K3 hK3 => ?_)
                refine mx_ifB_eq 176 d_Lr_readAtom_162 (by decide) (fun c_162 => ?_) (fun c_162 => ?_)
                · skip
                  have hk7 : ¬ tK f L q.2 = 7 := fun z => by rw [gq_tk_y z] at c_162; cases c_162
                  have e7 : nI (tq_k f L (tq_b f L q.2)) = nI 7 := h29.symm.trans c_136
                  exact absurd ((nI_eq (by have := tq_k_lt f L (tq_b f L q.2); omega) (by omega)).mp e7) hk7
                · skip
                  have hk67 : tK f L q.2 = 7 := Decidable.byContradiction (fun z => by rw [gq_tk_n z] at c_162; cases c_162)
                  rw [gq_tk_y hk67] at hK3
                  have hs := hs.tk hK3 hsep
                  refine mx_al0 d_Lr_readAtom_165 ?_
                  refine mx_cV0iR d_Lr_readAtom_166 (c_Lr_readSum hLr hTe hs.self (by simp only [List.length_append] at *; omega)) ok_Lr_readSum ml_Lr_88 (by assumption) ⟨rfl, rfl⟩ (by omega) (Nat.le_of_ble_eq_true rfl) (fun K4 hK4 => ?_)
                  refine mx_ifB_eq 176 d_Lr_readAtom_169 (by decide) (fun c_169 => ?_) (fun c_169 => ?_)
                  · skip
                    obtain ⟨b, hsum2⟩ := gq_ok_f c_169
                    rw [hsum2] at hK4
                    have hbad := hs.trb hK4
                    obtain ⟨-, -, y, hy, hyz⟩ := id hbad
                    refine mx_in_0 d_Lr_readAtom_176 ?_
                    refine mx_is4 d_Lr_readAtom_177 ?_
                    refine mx_al0 d_Lr_readAtom_179 ?_
                    refine mx_il5 d_Lr_readAtom_180 ?_
                    refine mx_ineg d_Lr_readAtom_182 ?_
                    refine mx_cV1vR d_Lr_readAtom_183 (c_Lr_write hLr hy (by omega)) ok_Lr_write ml_Lr_84 (by assumption) ⟨rfl, rfl⟩ (by omega) (Nat.le_of_ble_eq_true rfl) (fun K5 hK5 => ?_)
                    have er : r = .inl b := hr0.trans (hpl.trans (gq_pln_3 hnm hsum (by omega) hsum2))
                    have hr : lr_out I K5 lr te f L cs (401 + (e - n)) r := by rw [er]; exact (hbad.wr hy hyz hK5 hsep).le (by omega)
                    have hok : gq_ok r = false := by rw [er]; rfl
                    refine mx_il1 d_Lr_readAtom_186 ?_
                    refine mx_is5 d_Lr_readAtom_187 ?_
                    refine mx_lsc (congrArg (fun z9 => ([some (.ref (lr)), some (.int (nI (6 - e))), some (.int (nI (6 - e + n))), some (.int (nI (tq_k f L (tq_b f L (c + n))))), some (.int (nI (0))), some (.int (z9))] : List (Option Value))) ((show nI (6 - e) = nI (6 - e + 0) from rfl))) ?_
                    refine mx_loopX (α := (mx_I)) (N := n) (a0 := K5) (fun k8 z9 => lr_out I z9 lr te f L cs (401 + (e - n) + k8) (gq_wr k8 r)) (ls := fun k8 z9 => [some (.ref (lr)), some (.int (nI (6 - e))), some (.int (nI (6 - e + n))), some (.int (nI (tq_k f L (tq_b f L (c + n))))), some (.int (nI (0))), some (.int (nI (6 - e + k8)))]) (X := fun k8 z9 => (t, S, z9, P, J)) ((by rw [gq_wr_0]; exact hr)) (fun k8 hk8 z9 hinv ih => ?_) (fun z9 hinv => ?_)
                    · skip
                      obtain ⟨K, hz9⟩ : ∃ q, q = z9 := ⟨_, rfl⟩
                      subst hz9
                      try dsimp only at hinv ih ⊢
                      obtain ⟨y, hy, hy5, hw35⟩ := lr_out_35 hinv (fun q hq => by have := hgl q hq; simp only [List.length_append]; omega) (by omega) hsep
                      refine mx_il5 d_Lr_readAtom_189 ?_
                      refine mx_il2 d_Lr_readAtom_191 ?_
                      refine mx_icN_ge 207 d_Lr_readAtom_192 (by decide) (by omega) (by omega) (fun c_192 => absurd c_192 (by omega)) (fun c_192 => ?_)
                      refine mx_al0 d_Lr_readAtom_195 ?_
                      refine mx_bipush (v := -35) d_Lr_readAtom_196 (by decide) ?_
                      refine mx_cV1vR d_Lr_readAtom_198 (c_Lr_write hLr hy (by omega)) ok_Lr_write ml_Lr_84 (by assumption) ⟨rfl, rfl⟩ (by omega) (Nat.le_of_ble_eq_true rfl) (fun K9 hK9 => ?_)
                      refine mx_iN5 d_Lr_readAtom_201 ?_
                      refine mx_goto 189 d_Lr_readAtom_204 (by decide) ?_
                      have e5 : nI (6 - e + k8 + 1) = nI (6 - e + (k8 + 1)) := by rfl
                      refine mx_lsc (congrArg (fun z9 => ([some (.ref (lr)), some (.int (nI (6 - e))), some (.int (nI (6 - e + n))), some (.int (nI (tq_k f L (tq_b f L (c + n))))), some (.int (nI (0))), some (.int (z9))] : List (Option Value))) e5) ?_
                      exact ih K9 (hw35 _ hK9)
                    · skip
                      obtain ⟨K, hz9⟩ : ∃ q, q = z9 := ⟨_, rfl⟩
                      subst hz9
                      try dsimp only at hinv ⊢
                      refine mx_il5 d_Lr_readAtom_189 ?_
                      refine mx_il2 d_Lr_readAtom_191 ?_
                      refine mx_icN_ge 207 d_Lr_readAtom_192 (by decide) (by omega) (by omega) (fun c_192 => ?_) (fun c_192 => absurd c_192 (by omega))
                      refine mx_il4 d_Lr_readAtom_207 ?_
                      exact mx_zret d_Lr_readAtom_209 rfl (by first | exact Or.inl rfl | exact Or.inr rfl) (mx_sR_i (by rw [htl, gq_ok_wr, hok]; rfl) (by rw [htl]; rw [show 401 + e = 401 + (e - n) + n by omega]; exact hinv))
                  · skip
                    obtain ⟨q2, hsum2⟩ := gq_ok_t c_169
                    rw [hsum2] at hK4
                    have hs := hs.tr hK4
                    have hg2 := (gq_go_sum (tK0 rfl)).2.1 _ _ hsum2
                    have hL5 : (cs ++ q.1 ++ q2.1).length < 400 := by simp only [List.length_append]; omega
                    refine mx_in_1 d_Lr_readAtom_172 ?_
                    refine mx_goto 177 d_Lr_readAtom_173 (by decide) ?_
                    refine mx_is4 d_Lr_readAtom_177 ?_
                    refine mx_al0 d_Lr_readAtom_179 ?_
                    refine mx_il5 d_Lr_readAtom_180 ?_
                    refine mx_ineg d_Lr_readAtom_182 ?_
                    refine mx_cV1vR d_Lr_readAtom_183 (c_Lr_write hLr hs.sz (by omega)) ok_Lr_write ml_Lr_84 (by assumption) ⟨rfl, rfl⟩ (by omega) (Nat.le_of_ble_eq_true rfl) (fun K5 hK5 => ?_)
                    have hs := hs.wr hK5 (by omega) hsep
                    have er : r = .inr (q.1 ++ q2.1 ++ [-nI (tK f L q.2)], q2.2) := hr0.trans (hpl.trans (gq_pln_4 hnm hsum (by omega) hsum2))
                    have hr : lr_out I K5 lr te f L cs (401 + (e - n)) r := by rw [er]; exact (by rw [hk67]; simp only [List.append_assoc] at hs ⊢; exact hs)
                    have hok : gq_ok r = true := by rw [er]; rfl
                    refine mx_il1 d_Lr_readAtom_186 ?_
                    refine mx_is5 d_Lr_readAtom_187 ?_
                    refine mx_lsc (congrArg (fun z9 => ([some (.ref (lr)), some (.int (nI (6 - e))), some (.int (nI (6 - e + n))), some (.int (nI (tq_k f L (tq_b f L (c + n))))), some (.int (nI (1))), some (.int (z9))] : List (Option Value))) ((show nI (6 - e) = nI (6 - e + 0) from rfl))) ?_
                    refine mx_loopX (α := (mx_I)) (N := n) (a0 := K5) (fun k8 z9 => lr_out I z9 lr te f L cs (401 + (e - n) + k8) (gq_wr k8 r)) (ls := fun k8 z9 => [some (.ref (lr)), some (.int (nI (6 - e))), some (.int (nI (6 - e + n))), some (.int (nI (tq_k f L (tq_b f L (c + n))))), some (.int (nI (1))), some (.int (nI (6 - e + k8)))]) (X := fun k8 z9 => (t, S, z9, P, J)) ((by rw [gq_wr_0]; exact hr)) (fun k8 hk8 z9 hinv ih => ?_) (fun z9 hinv => ?_)
                    · skip
                      obtain ⟨K, hz9⟩ : ∃ q, q = z9 := ⟨_, rfl⟩
                      subst hz9
                      try dsimp only at hinv ih ⊢
                      obtain ⟨y, hy, hy5, hw35⟩ := lr_out_35 hinv (fun q hq => by have := hgl q hq; simp only [List.length_append]; omega) (by omega) hsep
                      refine mx_il5 d_Lr_readAtom_189 ?_
                      refine mx_il2 d_Lr_readAtom_191 ?_
                      refine mx_icN_ge 207 d_Lr_readAtom_192 (by decide) (by omega) (by omega) (fun c_192 => absurd c_192 (by omega)) (fun c_192 => ?_)
                      refine mx_al0 d_Lr_readAtom_195 ?_
                      refine mx_bipush (v := -35) d_Lr_readAtom_196 (by decide) ?_
                      refine mx_cV1vR d_Lr_readAtom_198 (c_Lr_write hLr hy (by omega)) ok_Lr_write ml_Lr_84 (by assumption) ⟨rfl, rfl⟩ (by omega) (Nat.le_of_ble_eq_true rfl) (fun K9 hK9 => ?_)
                      refine mx_iN5 d_Lr_readAtom_201 ?_
                      refine mx_goto 189 d_Lr_readAtom_204 (by decide) ?_
                      have e5 : nI (6 - e + k8 + 1) = nI (6 - e + (k8 + 1)) := by rfl
                      refine mx_lsc (congrArg (fun z9 => ([some (.ref (lr)), some (.int (nI (6 - e))), some (.int (nI (6 - e + n))), some (.int (nI (tq_k f L (tq_b f L (c + n))))), some (.int (nI (1))), some (.int (z9))] : List (Option Value))) e5) ?_
                      exact ih K9 (hw35 _ hK9)
                    · skip
                      obtain ⟨K, hz9⟩ : ∃ q, q = z9 := ⟨_, rfl⟩
                      subst hz9
                      try dsimp only at hinv ⊢
                      refine mx_il5 d_Lr_readAtom_189 ?_
                      refine mx_il2 d_Lr_readAtom_191 ?_
                      refine mx_icN_ge 207 d_Lr_readAtom_192 (by decide) (by omega) (by omega) (fun c_192 => ?_) (fun c_192 => absurd c_192 (by omega))
                      refine mx_il4 d_Lr_readAtom_207 ?_
                      exact mx_zret d_Lr_readAtom_209 rfl (by first | exact Or.inl rfl | exact Or.inr rfl) (mx_sR_i (by rw [htl, gq_ok_wr, hok]; rfl) (by rw [htl]; rw [show 401 + e = 401 + (e - n) + n by omega]; exact hinv))
          · skip
            have hm : tK f L (c + n) = 17 ∨ tK f L (c + n) = 18 := Or.inr c_99
            refine mx_al0 d_Lr_readAtom_102 ?_
            refine mx_getR d_Lr_readAtom_103 fl_Lr_24 (by assumption) (by assumption) ?_
            refine mx_cV0vR d_Lr_readAtom_106 (c_Te_nextR hTe hs.tok hs.cur (tK_T (by show ¬ tq_k f L (tq_b f L (c + n)) = 0; omega))) ok_Te_next ml_Lr_63 (by assumption) ⟨rfl, rfl⟩ (by omega) (Nat.le_of_ble_eq_true rfl) (fun K1 hK1 => ?_)
            have hs := hs.tk hK1 hsep
            refine mx_al0 d_Lr_readAtom_109 ?_
            refine mx_il3 d_Lr_readAtom_110 ?_
            refine mx_ineg d_Lr_readAtom_111 ?_
            refine mx_cV1vR d_Lr_readAtom_112 (c_Lr_write hLr hs.sz (by omega)) ok_Lr_write ml_Lr_84 (by assumption) ⟨rfl, rfl⟩ (by omega) (Nat.le_of_ble_eq_true rfl) (fun K2 hK2 => ?_)
            have hs := hs.wr hK2 (by have := hs.cur.2.2; omega) hsep
            have er : r = .inr ([-nI (tK f L (c + n))], c + n + 1) := hr0.trans (hpl.trans (gq_pln_0 hm))
            have hr : lr_out I K2 lr te f L cs (401 + (e - n)) r := by rw [er]; exact hs
            have hok : gq_ok r = true := by rw [er]; rfl
            refine mx_in_1 d_Lr_readAtom_115 ?_
            refine mx_is4 d_Lr_readAtom_116 ?_
            refine mx_goto 186 d_Lr_readAtom_118 (by decide) ?_
            refine mx_il1 d_Lr_readAtom_186 ?_
            refine mx_is5 d_Lr_readAtom_187 ?_
            refine mx_lsc (congrArg (fun z9 => ([some (.ref (lr)), some (.int (nI (6 - e))), some (.int (nI (6 - e + n))), some (.int (nI (tq_k f L (tq_b f L (c + n))))), some (.int (nI (1))), some (.int (z9))] : List (Option Value))) ((show nI (6 - e) = nI (6 - e + 0) from rfl))) ?_
            refine mx_loopX (α := (mx_I)) (N := n) (a0 := K2) (fun k8 z9 => lr_out I z9 lr te f L cs (401 + (e - n) + k8) (gq_wr k8 r)) (ls := fun k8 z9 => [some (.ref (lr)), some (.int (nI (6 - e))), some (.int (nI (6 - e + n))), some (.int (nI (tq_k f L (tq_b f L (c + n))))), some (.int (nI (1))), some (.int (nI (6 - e + k8)))]) (X := fun k8 z9 => (t, S, z9, P, J)) ((by rw [gq_wr_0]; exact hr)) (fun k8 hk8 z9 hinv ih => ?_) (fun z9 hinv => ?_)
            · skip
              obtain ⟨K, hz9⟩ : ∃ q, q = z9 := ⟨_, rfl⟩
              subst hz9
              try dsimp only at hinv ih ⊢
              obtain ⟨y, hy, hy5, hw35⟩ := lr_out_35 hinv (fun q hq => by have := hgl q hq; simp only [List.length_append]; omega) (by omega) hsep
              refine mx_il5 d_Lr_readAtom_189 ?_
              refine mx_il2 d_Lr_readAtom_191 ?_
              refine mx_icN_ge 207 d_Lr_readAtom_192 (by decide) (by omega) (by omega) (fun c_192 => absurd c_192 (by omega)) (fun c_192 => ?_)
              refine mx_al0 d_Lr_readAtom_195 ?_
              refine mx_bipush (v := -35) d_Lr_readAtom_196 (by decide) ?_
              refine mx_cV1vR d_Lr_readAtom_198 (c_Lr_write hLr hy (by omega)) ok_Lr_write ml_Lr_84 (by assumption) ⟨rfl, rfl⟩ (by omega) (Nat.le_of_ble_eq_true rfl) (fun K9 hK9 => ?_)
              refine mx_iN5 d_Lr_readAtom_201 ?_
              refine mx_goto 189 d_Lr_readAtom_204 (by decide) ?_
              have e5 : nI (6 - e + k8 + 1) = nI (6 - e + (k8 + 1)) := by rfl
              refine mx_lsc (congrArg (fun z9 => ([some (.ref (lr)), some (.int (nI (6 - e))), some (.int (nI (6 - e + n))), some (.int (nI (tq_k f L (tq_b f L (c + n))))), some (.int (nI (1))), some (.int (z9))] : List (Option Value))) e5) ?_
              exact ih K9 (hw35 _ hK9)
            · skip
              obtain ⟨K, hz9⟩ : ∃ q, q = z9 := ⟨_, rfl⟩
              subst hz9
              try dsimp only at hinv ⊢
              refine mx_il5 d_Lr_readAtom_189 ?_
              refine mx_il2 d_Lr_readAtom_191 ?_
              refine mx_icN_ge 207 d_Lr_readAtom_192 (by decide) (by omega) (by omega) (fun c_192 => ?_) (fun c_192 => absurd c_192 (by omega))
              refine mx_il4 d_Lr_readAtom_207 ?_
              exact mx_zret d_Lr_readAtom_209 rfl (by first | exact Or.inl rfl | exact Or.inr rfl) (mx_sR_i (by rw [htl, gq_ok_wr, hok]; rfl) (by rw [htl]; rw [show 401 + e = 401 + (e - n) + n by omega]; exact hinv))
      · skip
        refine mx_il2 d_Lr_readAtom_46 ?_
        refine mx_bip 6 d_Lr_readAtom_47 (by decide) ?_
        refine mx_icN_ge 90 d_Lr_readAtom_49 (by decide) (by omega) (by omega) (fun c_49 => ?_) (fun c_49 => ?_)
        · skip
          have hpl : gq_tl (tK f L) (tV f L) (e - n) (c + n) = gq_pln (tK f L) (tV f L) (c + n) := gq_tl_4 (fun z => by have z1 : tq_k f L (tq_b f L (c + n)) = 4 := z.1; omega)
          refine mx_il3 d_Lr_readAtom_90 ?_
          refine mx_bip 17 d_Lr_readAtom_91 (by decide) ?_
          refine mx_icN_eq 102 d_Lr_readAtom_93 (by decide) (by omega) (by omega) (fun c_93 => ?_) (fun c_93 => ?_)
          · skip
            have hm : tK f L (c + n) = 17 ∨ tK f L (c + n) = 18 := Or.inl c_93
            refine mx_al0 d_Lr_readAtom_102 ?_
            refine mx_getR d_Lr_readAtom_103 fl_Lr_24 (by assumption) (by assumption) ?_
            refine mx_cV0vR d_Lr_readAtom_106 (c_Te_nextR hTe hs.tok hs.cur (tK_T (by show ¬ tq_k f L (tq_b f L (c + n)) = 0; omega))) ok_Te_next ml_Lr_63 (by assumption) ⟨rfl, rfl⟩ (by omega) (Nat.le_of_ble_eq_true rfl) (fun K1 hK1 => ?_)
            have hs := hs.tk hK1 hsep
            refine mx_al0 d_Lr_readAtom_109 ?_
            refine mx_il3 d_Lr_readAtom_110 ?_
            refine mx_ineg d_Lr_readAtom_111 ?_
            refine mx_cV1vR d_Lr_readAtom_112 (c_Lr_write hLr hs.sz (by omega)) ok_Lr_write ml_Lr_84 (by assumption) ⟨rfl, rfl⟩ (by omega) (Nat.le_of_ble_eq_true rfl) (fun K2 hK2 => ?_)
            have hs := hs.wr hK2 (by have := hs.cur.2.2; omega) hsep
            have er : r = .inr ([-nI (tK f L (c + n))], c + n + 1) := hr0.trans (hpl.trans (gq_pln_0 hm))
            have hr : lr_out I K2 lr te f L cs (401 + (e - n)) r := by rw [er]; exact hs
            have hok : gq_ok r = true := by rw [er]; rfl
            refine mx_in_1 d_Lr_readAtom_115 ?_
            refine mx_is4 d_Lr_readAtom_116 ?_
            refine mx_goto 186 d_Lr_readAtom_118 (by decide) ?_
            refine mx_il1 d_Lr_readAtom_186 ?_
            refine mx_is5 d_Lr_readAtom_187 ?_
            refine mx_lsc (congrArg (fun z9 => ([some (.ref (lr)), some (.int (nI (6 - e))), some (.int (nI (6 - e + n))), some (.int (nI (tq_k f L (tq_b f L (c + n))))), some (.int (nI (1))), some (.int (z9))] : List (Option Value))) ((show nI (6 - e) = nI (6 - e + 0) from rfl))) ?_
            refine mx_loopX (α := (mx_I)) (N := n) (a0 := K2) (fun k8 z9 => lr_out I z9 lr te f L cs (401 + (e - n) + k8) (gq_wr k8 r)) (ls := fun k8 z9 => [some (.ref (lr)), some (.int (nI (6 - e))), some (.int (nI (6 - e + n))), some (.int (nI (tq_k f L (tq_b f L (c + n))))), some (.int (nI (1))), some (.int (nI (6 - e + k8)))]) (X := fun k8 z9 => (t, S, z9, P, J)) ((by rw [gq_wr_0]; exact hr)) (fun k8 hk8 z9 hinv ih => ?_) (fun z9 hinv => ?_)
            · skip
              obtain ⟨K, hz9⟩ : ∃ q, q = z9 := ⟨_, rfl⟩
              subst hz9
              try dsimp only at hinv ih ⊢
              obtain ⟨y, hy, hy5, hw35⟩ := lr_out_35 hinv (fun q hq => by have := hgl q hq; simp only [List.length_append]; omega) (by omega) hsep
              refine mx_il5 d_Lr_readAtom_189 ?_
              refine mx_il2 d_Lr_readAtom_191 ?_
              refine mx_icN_ge 207 d_Lr_readAtom_192 (by decide) (by omega) (by omega) (fun c_192 => absurd c_192 (by omega)) (fun c_192 => ?_)
              refine mx_al0 d_Lr_readAtom_195 ?_
              refine mx_bipush (v := -35) d_Lr_readAtom_196 (by decide) ?_
              refine mx_cV1vR d_Lr_readAtom_198 (c_Lr_write hLr hy (by omega)) ok_Lr_write ml_Lr_84 (by assumption) ⟨rfl, rfl⟩ (by omega) (Nat.le_of_ble_eq_true rfl) (fun K9 hK9 => ?_)
              refine mx_iN5 d_Lr_readAtom_201 ?_
              refine mx_goto 189 d_Lr_readAtom_204 (by decide) ?_
              have e5 : nI (6 - e + k8 + 1) = nI (6 - e + (k8 + 1)) := by rfl
              refine mx_lsc (congrArg (fun z9 => ([some (.ref (lr)), some (.int (nI (6 - e))), some (.int (nI (6 - e + n))), some (.int (nI (tq_k f L (tq_b f L (c + n))))), some (.int (nI (1))), some (.int (z9))] : List (Option Value))) e5) ?_
              exact ih K9 (hw35 _ hK9)
            · skip
              obtain ⟨K, hz9⟩ : ∃ q, q = z9 := ⟨_, rfl⟩
              subst hz9
              try dsimp only at hinv ⊢
              refine mx_il5 d_Lr_readAtom_189 ?_
              refine mx_il2 d_Lr_readAtom_191 ?_
              refine mx_icN_ge 207 d_Lr_readAtom_192 (by decide) (by omega) (by omega) (fun c_192 => ?_) (fun c_192 => absurd c_192 (by omega))
              refine mx_il4 d_Lr_readAtom_207 ?_
              exact mx_zret d_Lr_readAtom_209 rfl (by first | exact Or.inl rfl | exact Or.inr rfl) (mx_sR_i (by rw [htl, gq_ok_wr, hok]; rfl) (by rw [htl]; rw [show 401 + e = 401 + (e - n) + n by omega]; exact hinv))
          · skip
            refine mx_il3 d_Lr_readAtom_96 ?_
            refine mx_bip 18 d_Lr_readAtom_97 (by decide) ?_
            refine mx_icN_ne 121 d_Lr_readAtom_99 (by decide) (by omega) (by omega) (fun c_99 => ?_) (fun c_99 => ?_)
            · skip
              have hnm : ¬ (tK f L (c + n) = 17 ∨ tK f L (c + n) = 18) := fun z => z.elim c_93 c_99
              refine mx_al0 d_Lr_readAtom_121 ?_
              refine mx_cV0iR d_Lr_readAtom_122 (c_Lr_readSum hLr hTe hs.self (by omega)) ok_Lr_readSum ml_Lr_88 (by assumption) ⟨rfl, rfl⟩ (by omega) (Nat.le_of_ble_eq_true rfl) (fun K2 hK2 => ?_)
              refine mx_is4 d_Lr_readAtom_125 ?_
              refine mx_al0 d_Lr_readAtom_127 ?_
              refine mx_getR d_Lr_readAtom_128 fl_Lr_24 (by assumption) (by assumption) ?_
              refine mx_getI d_Lr_readAtom_131 fl_Lr_49 (by assumption) ?_
              refine mx_bip 7 d_Lr_readAtom_134 (by decide) ?_
              refine mx_icmp_ne 144 d_Lr_readAtom_136 (by decide) (fun c_136 => ?_) (fun c_136 => ?_)
              · skip
                refine mx_bip 6 d_Lr_readAtom_144 (by decide) ?_
                refine mx_is5 d_Lr_readAtom_146 ?_
                refine mx_il4 d_Lr_readAtom_148 ?_
                refine mx_ifB_eq 176 d_Lr_readAtom_150 (by decide) (fun c_150 => ?_) (fun c_150 => ?_)
                · skip
                  obtain ⟨b, hsum⟩ := gq_ok_f c_150
                  rw [hsum] at hK2
                  have hbad := hs.trb hK2
                  obtain ⟨-, -, y, hy, hyz⟩ := id hbad
                  refine mx_in_0 d_Lr_readAtom_176 ?_
                  refine mx_is4 d_Lr_readAtom_177 ?_
                  refine mx_al0 d_Lr_readAtom_179 ?_
                  refine mx_il5 d_Lr_readAtom_180 ?_
                  refine mx_ineg d_Lr_readAtom_182 ?_
                  refine mx_cV1vR d_Lr_readAtom_183 (c_Lr_write hLr hy (by omega)) ok_Lr_write ml_Lr_84 (by assumption) ⟨rfl, rfl⟩ (by omega) (Nat.le_of_ble_eq_true rfl) (fun K5 hK5 => ?_)
                  have er : r = .inl b := hr0.trans (hpl.trans (gq_pln_1 hnm hsum))
                  have hr : lr_out I K5 lr te f L cs (401 + (e - n)) r := by rw [er]; exact (hbad.wr hy hyz hK5 hsep).le (by omega)
                  have hok : gq_ok r = false := by rw [er]; rfl
                  refine mx_il1 d_Lr_readAtom_186 ?_
                  refine mx_is5 d_Lr_readAtom_187 ?_
                  refine mx_lsc (congrArg (fun z9 => ([some (.ref (lr)), some (.int (nI (6 - e))), some (.int (nI (6 - e + n))), some (.int (nI (tq_k f L (tq_b f L (c + n))))), some (.int (nI (0))), some (.int (z9))] : List (Option Value))) ((show nI (6 - e) = nI (6 - e + 0) from rfl))) ?_
                  refine mx_loopX (α := (mx_I)) (N := n) (a0 := K5) (fun k8 z9 => lr_out I z9 lr te f L cs (401 + (e - n) + k8) (gq_wr k8 r)) (ls := fun k8 z9 => [some (.ref (lr)), some (.int (nI (6 - e))), some (.int (nI (6 - e + n))), some (.int (nI (tq_k f L (tq_b f L (c + n))))), some (.int (nI (0))), some (.int (nI (6 - e + k8)))]) (X := fun k8 z9 => (t, S, z9, P, J)) ((by rw [gq_wr_0]; exact hr)) (fun k8 hk8 z9 hinv ih => ?_) (fun z9 hinv => ?_)
                  · skip
                    obtain ⟨K, hz9⟩ : ∃ q, q = z9 := ⟨_, rfl⟩
                    subst hz9
                    try dsimp only at hinv ih ⊢
                    obtain ⟨y, hy, hy5, hw35⟩ := lr_out_35 hinv (fun q hq => by have := hgl q hq; simp only [List.length_append]; omega) (by omega) hsep
                    refine mx_il5 d_Lr_readAtom_189 ?_
                    refine mx_il2 d_Lr_readAtom_191 ?_
                    refine mx_icN_ge 207 d_Lr_readAtom_192 (by decide) (by omega) (by omega) (fun c_192 => absurd c_192 (by omega)) (fun c_192 => ?_)
                    refine mx_al0 d_Lr_readAtom_195 ?_
                    refine mx_bipush (v := -35) d_Lr_readAtom_196 (by decide) ?_
                    refine mx_cV1vR d_Lr_readAtom_198 (c_Lr_write hLr hy (by omega)) ok_Lr_write ml_Lr_84 (by assumption) ⟨rfl, rfl⟩ (by omega) (Nat.le_of_ble_eq_true rfl) (fun K9 hK9 => ?_)
                    refine mx_iN5 d_Lr_readAtom_201 ?_
                    refine mx_goto 189 d_Lr_readAtom_204 (by decide) ?_
                    have e5 : nI (6 - e + k8 + 1) = nI (6 - e + (k8 + 1)) := by rfl
                    refine mx_lsc (congrArg (fun z9 => ([some (.ref (lr)), some (.int (nI (6 - e))), some (.int (nI (6 - e + n))), some (.int (nI (tq_k f L (tq_b f L (c + n))))), some (.int (nI (0))), some (.int (z9))] : List (Option Value))) e5) ?_
                    exact ih K9 (hw35 _ hK9)
                  · skip
                    obtain ⟨K, hz9⟩ : ∃ q, q = z9 := ⟨_, rfl⟩
                    subst hz9
                    try dsimp only at hinv ⊢
                    refine mx_il5 d_Lr_readAtom_189 ?_
                    refine mx_il2 d_Lr_readAtom_191 ?_
                    refine mx_icN_ge 207 d_Lr_readAtom_192 (by decide) (by omega) (by omega) (fun c_192 => ?_) (fun c_192 => absurd c_192 (by omega))
                    refine mx_il4 d_Lr_readAtom_207 ?_
                    exact mx_zret d_Lr_readAtom_209 rfl (by first | exact Or.inl rfl | exact Or.inr rfl) (mx_sR_i (by rw [htl, gq_ok_wr, hok]; rfl) (by rw [htl]; rw [show 401 + e = 401 + (e - n) + n by omega]; exact hinv))
                · skip
                  obtain ⟨q, hsum⟩ := gq_ok_t c_150
                  rw [hsum] at hK2
                  have hs := hs.tr hK2
                  have h29 := hs.cur.2.1
                  have hg1 := (gq_go_sum (tK0 rfl)).2.1 _ _ hsum
                  refine mx_al0 d_Lr_readAtom_153 ?_
                  refine mx_getR d_Lr_readAtom_154 fl_Lr_24 (by assumption) (by assumption) ?_
                  refine mx_il5 d_Lr_readAtom_157 ?_
                  refine mx_cV1iR d_Lr_readAtom_159 (c_Te_takes hTe hs.tok hs.cur (w := 6) (by omega) (by omega)) ok_Te_takes ml_Lr_56 (by assumption) ⟨rfl, rfl⟩ (by omega) (Nat.le_of_ble_eq_true rfl) (fun K3 hK3 => ?_)
                  refine mx_ifB_eq 176 d_Lr_readAtom_162 (by decide) (fun c_162 => ?_) (fun c_162 => ?_)
                  · skip
                    have hk6 : ¬ tK f L q.2 = 6 := fun z => by rw [gq_tk_y z] at c_162; cases c_162
                    have hk67 : ¬ (tK f L q.2 = 6 ∨ tK f L q.2 = 7) := fun z => z.elim hk6 (fun z => c_136 (h29.trans (congrArg nI z)))
                    rw [gq_tk_n hk6] at hK3
                    have hbad := hs.bad hK3 hsep (z := 400) (by simp only [List.length_append]; omega)
                    obtain ⟨-, -, y, hy, hyz⟩ := id hbad
                    refine mx_in_0 d_Lr_readAtom_176 ?_
                    refine mx_is4 d_Lr_readAtom_177 ?_
                    refine mx_al0 d_Lr_readAtom_179 ?_
                    refine mx_il5 d_Lr_readAtom_180 ?_
                    refine mx_ineg d_Lr_readAtom_182 ?_
                    refine mx_cV1vR d_Lr_readAtom_183 (c_Lr_write hLr hy (by omega)) ok_Lr_write ml_Lr_84 (by assumption) ⟨rfl, rfl⟩ (by omega) (Nat.le_of_ble_eq_true rfl) (fun K5 hK5 => ?_)
                    have er : r = .inl q.2 := hr0.trans (hpl.trans (gq_pln_2 hnm hsum hk67))
                    have hr : lr_out I K5 lr te f L cs (401 + (e - n)) r := by rw [er]; exact (hbad.wr hy hyz hK5 hsep).le (by omega)
                    have hok : gq_ok r = false := by rw [er]; rfl
                    refine mx_il1 d_Lr_readAtom_186 ?_
                    refine mx_is5 d_Lr_readAtom_187 ?_
                    refine mx_lsc (congrArg (fun z9 => ([some (.ref (lr)), some (.int (nI (6 - e))), some (.int (nI (6 - e + n))), some (.int (nI (tq_k f L (tq_b f L (c + n))))), some (.int (nI (0))), some (.int (z9))] : List (Option Value))) ((show nI (6 - e) = nI (6 - e + 0) from rfl))) ?_
                    refine mx_loopX (α := (mx_I)) (N := n) (a0 := K5) (fun k8 z9 => lr_out I z9 lr te f L cs (401 + (e - n) + k8) (gq_wr k8 r)) (ls := fun k8 z9 => [some (.ref (lr)), some (.int (nI (6 - e))), some (.int (nI (6 - e + n))), some (.int (nI (tq_k f L (tq_b f L (c + n))))), some (.int (nI (0))), some (.int (nI (6 - e + k8)))]) (X := fun k8 z9 => (t, S, z9, P, J)) ((by rw [gq_wr_0]; exact hr)) (fun k8 hk8 z9 hinv ih => ?_) (fun z9 hinv => ?_)
                    · skip
                      obtain ⟨K, hz9⟩ : ∃ q, q = z9 := ⟨_, rfl⟩
                      subst hz9
                      try dsimp only at hinv ih ⊢
                      obtain ⟨y, hy, hy5, hw35⟩ := lr_out_35 hinv (fun q hq => by have := hgl q hq; simp only [List.length_append]; omega) (by omega) hsep
                      refine mx_il5 d_Lr_readAtom_189 ?_
                      refine mx_il2 d_Lr_readAtom_191 ?_
                      refine mx_icN_ge 207 d_Lr_readAtom_192 (by decide) (by omega) (by omega) (fun c_192 => absurd c_192 (by omega)) (fun c_192 => ?_)
                      refine mx_al0 d_Lr_readAtom_195 ?_
                      refine mx_bipush (v := -35) d_Lr_readAtom_196 (by decide) ?_
                      refine mx_cV1vR d_Lr_readAtom_198 (c_Lr_write hLr hy (by omega)) ok_Lr_write ml_Lr_84 (by assumption) ⟨rfl, rfl⟩ (by omega) (Nat.le_of_ble_eq_true rfl) (fun K9 hK9 => ?_)
                      refine mx_iN5 d_Lr_readAtom_201 ?_
                      refine mx_goto 189 d_Lr_readAtom_204 (by decide) ?_
                      have e5 : nI (6 - e + k8 + 1) = nI (6 - e + (k8 + 1)) := by rfl
                      refine mx_lsc (congrArg (fun z9 => ([some (.ref (lr)), some (.int (nI (6 - e))), some (.int (nI (6 - e + n))), some (.int (nI (tq_k f L (tq_b f L (c + n))))), some (.int (nI (0))), some (.int (z9))] : List (Option Value))) e5) ?_
                      exact ih K9 (hw35 _ hK9)
                    · skip
                      obtain ⟨K, hz9⟩ : ∃ q, q = z9 := ⟨_, rfl⟩
                      subst hz9
                      try dsimp only at hinv ⊢
                      refine mx_il5 d_Lr_readAtom_189 ?_
                      refine mx_il2 d_Lr_readAtom_191 ?_
                      refine mx_icN_ge 207 d_Lr_readAtom_192 (by decide) (by omega) (by omega) (fun c_192 => ?_) (fun c_192 => absurd c_192 (by omega))
                      refine mx_il4 d_Lr_readAtom_207 ?_
                      exact mx_zret d_Lr_readAtom_209 rfl (by first | exact Or.inl rfl | exact Or.inr rfl) (mx_sR_i (by rw [htl, gq_ok_wr, hok]; rfl) (by rw [htl]; rw [show 401 + e = 401 + (e - n) + n by omega]; exact hinv))
                  · skip
                    have hk67 : tK f L q.2 = 6 := Decidable.byContradiction (fun z => by rw [gq_tk_n z] at c_162; cases c_162)
                    rw [gq_tk_y hk67] at hK3
                    have hs := hs.tk hK3 hsep
                    refine mx_al0 d_Lr_readAtom_165 ?_
                    refine mx_cV0iR d_Lr_readAtom_166 (c_Lr_readSum hLr hTe hs.self (by simp only [List.length_append] at *; omega)) ok_Lr_readSum ml_Lr_88 (by assumption) ⟨rfl, rfl⟩ (by omega) (Nat.le_of_ble_eq_true rfl) (fun K4 hK4 => ?_)
                    refine mx_ifB_eq 176 d_Lr_readAtom_169 (by decide) (fun c_169 => ?_) (fun c_169 => ?_)
                    · skip
                      obtain ⟨b, hsum2⟩ := gq_ok_f c_169
                      rw [hsum2] at hK4
                      have hbad := hs.trb hK4
                      obtain ⟨-, -, y, hy, hyz⟩ := id hbad
                      refine mx_in_0 d_Lr_readAtom_176 ?_
                      refine mx_is4 d_Lr_readAtom_177 ?_
                      refine mx_al0 d_Lr_readAtom_179 ?_
                      refine mx_il5 d_Lr_readAtom_180 ?_
                      refine mx_ineg d_Lr_readAtom_182 ?_
                      refine mx_cV1vR d_Lr_readAtom_183 (c_Lr_write hLr hy (by omega)) ok_Lr_write ml_Lr_84 (by assumption) ⟨rfl, rfl⟩ (by omega) (Nat.le_of_ble_eq_true rfl) (fun K5 hK5 => ?_)
                      have er : r = .inl b := hr0.trans (hpl.trans (gq_pln_3 hnm hsum (by omega) hsum2))
                      have hr : lr_out I K5 lr te f L cs (401 + (e - n)) r := by rw [er]; exact (hbad.wr hy hyz hK5 hsep).le (by omega)
                      have hok : gq_ok r = false := by rw [er]; rfl
                      refine mx_il1 d_Lr_readAtom_186 ?_
                      refine mx_is5 d_Lr_readAtom_187 ?_
                      refine mx_lsc (congrArg (fun z9 => ([some (.ref (lr)), some (.int (nI (6 - e))), some (.int (nI (6 - e + n))), some (.int (nI (tq_k f L (tq_b f L (c + n))))), some (.int (nI (0))), some (.int (z9))] : List (Option Value))) ((show nI (6 - e) = nI (6 - e + 0) from rfl))) ?_
                      refine mx_loopX (α := (mx_I)) (N := n) (a0 := K5) (fun k8 z9 => lr_out I z9 lr te f L cs (401 + (e - n) + k8) (gq_wr k8 r)) (ls := fun k8 z9 => [some (.ref (lr)), some (.int (nI (6 - e))), some (.int (nI (6 - e + n))), some (.int (nI (tq_k f L (tq_b f L (c + n))))), some (.int (nI (0))), some (.int (nI (6 - e + k8)))]) (X := fun k8 z9 => (t, S, z9, P, J)) ((by rw [gq_wr_0]; exact hr)) (fun k8 hk8 z9 hinv ih => ?_) (fun z9 hinv => ?_)
                      · skip
                        obtain ⟨K, hz9⟩ : ∃ q, q = z9 := ⟨_, rfl⟩
                        subst hz9
                        try dsimp only at hinv ih ⊢
                        obtain ⟨y, hy, hy5, hw35⟩ := lr_out_35 hinv (fun q hq => by have := hgl q hq; simp only [List.length_append]; omega) (by omega) hsep
                        refine mx_il5 d_Lr_readAtom_189 ?_
                        refine mx_il2 d_Lr_readAtom_191 ?_
                        refine mx_icN_ge 207 d_Lr_readAtom_192 (by decide) (by omega) (by omega) (fun c_192 => absurd c_192 (by omega)) (fun c_192 => ?_)
                        refine mx_al0 d_Lr_readAtom_195 ?_
                        refine mx_bipush (v := -35) d_Lr_readAtom_196 (by decide) ?_
                        refine mx_cV1vR d_Lr_readAtom_198 (c_Lr_write hLr hy (by omega)) ok_Lr_write ml_Lr_84 (by assumption) ⟨rfl, rfl⟩ (by omega) (Nat.le_of_ble_eq_true rfl) (fun K9 hK9 => ?_)
                        refine mx_iN5 d_Lr_readAtom_201 ?_
                        refine mx_goto 189 d_Lr_readAtom_204 (by decide) ?_
                        have e5 : nI (6 - e + k8 + 1) = nI (6 - e + (k8 + 1)) := by rfl
                        refine mx_lsc (congrArg (fun z9 => ([some (.ref (lr)), some (.int (nI (6 - e))), some (.int (nI (6 - e + n))), some (.int (nI (tq_k f L (tq_b f L (c + n))))), some (.int (nI (0))), some (.int (z9))] : List (Option Value))) e5) ?_
                        exact ih K9 (hw35 _ hK9)
                      · skip
                        obtain ⟨K, hz9⟩ : ∃ q, q = z9 := ⟨_, rfl⟩
                        subst hz9
                        try dsimp only at hinv ⊢
                        refine mx_il5 d_Lr_readAtom_189 ?_
                        refine mx_il2 d_Lr_readAtom_191 ?_
                        refine mx_icN_ge 207 d_Lr_readAtom_192 (by decide) (by omega) (by omega) (fun c_192 => ?_) (fun c_192 => absurd c_192 (by omega))
                        refine mx_il4 d_Lr_readAtom_207 ?_
                        exact mx_zret d_Lr_readAtom_209 rfl (by first | exact Or.inl rfl | exact Or.inr rfl) (mx_sR_i (by rw [htl, gq_ok_wr, hok]; rfl) (by rw [htl]; rw [show 401 + e = 401 + (e - n) + n by omega]; exact hinv))
                    · skip
                      obtain ⟨q2, hsum2⟩ := gq_ok_t c_169
                      rw [hsum2] at hK4
                      have hs := hs.tr hK4
                      have hg2 := (gq_go_sum (tK0 rfl)).2.1 _ _ hsum2
                      have hL5 : (cs ++ q.1 ++ q2.1).length < 400 := by simp only [List.length_append]; omega
                      refine mx_in_1 d_Lr_readAtom_172 ?_
                      refine mx_goto 177 d_Lr_readAtom_173 (by decide) ?_
                      refine mx_is4 d_Lr_readAtom_177 ?_
                      refine mx_al0 d_Lr_readAtom_179 ?_
                      refine mx_il5 d_Lr_readAtom_180 ?_
                      refine mx_ineg d_Lr_readAtom_182 ?_
                      refine mx_cV1vR d_Lr_readAtom_183 (c_Lr_write hLr hs.sz (by omega)) ok_Lr_write ml_Lr_84 (by assumption) ⟨rfl, rfl⟩ (by omega) (Nat.le_of_ble_eq_true rfl) (fun K5 hK5 => ?_)
                      have hs := hs.wr hK5 (by omega) hsep
                      have er : r = .inr (q.1 ++ q2.1 ++ [-nI (tK f L q.2)], q2.2) := hr0.trans (hpl.trans (gq_pln_4 hnm hsum (by omega) hsum2))
                      have hr : lr_out I K5 lr te f L cs (401 + (e - n)) r := by rw [er]; exact (by rw [hk67]; simp only [List.append_assoc] at hs ⊢; exact hs)
                      have hok : gq_ok r = true := by rw [er]; rfl
                      refine mx_il1 d_Lr_readAtom_186 ?_
                      refine mx_is5 d_Lr_readAtom_187 ?_
                      refine mx_lsc (congrArg (fun z9 => ([some (.ref (lr)), some (.int (nI (6 - e))), some (.int (nI (6 - e + n))), some (.int (nI (tq_k f L (tq_b f L (c + n))))), some (.int (nI (1))), some (.int (z9))] : List (Option Value))) ((show nI (6 - e) = nI (6 - e + 0) from rfl))) ?_
                      refine mx_loopX (α := (mx_I)) (N := n) (a0 := K5) (fun k8 z9 => lr_out I z9 lr te f L cs (401 + (e - n) + k8) (gq_wr k8 r)) (ls := fun k8 z9 => [some (.ref (lr)), some (.int (nI (6 - e))), some (.int (nI (6 - e + n))), some (.int (nI (tq_k f L (tq_b f L (c + n))))), some (.int (nI (1))), some (.int (nI (6 - e + k8)))]) (X := fun k8 z9 => (t, S, z9, P, J)) ((by rw [gq_wr_0]; exact hr)) (fun k8 hk8 z9 hinv ih => ?_) (fun z9 hinv => ?_)
                      · skip
                        obtain ⟨K, hz9⟩ : ∃ q, q = z9 := ⟨_, rfl⟩
                        subst hz9
                        try dsimp only at hinv ih ⊢
                        obtain ⟨y, hy, hy5, hw35⟩ := lr_out_35 hinv (fun q hq => by have := hgl q hq; simp only [List.length_append]; omega) (by omega) hsep
                        refine mx_il5 d_Lr_readAtom_189 ?_
                        refine mx_il2 d_Lr_readAtom_191 ?_
                        refine mx_icN_ge 207 d_Lr_readAtom_192 (by decide) (by omega) (by omega) (fun c_192 => absurd c_192 (by omega)) (fun c_192 => ?_)
                        refine mx_al0 d_Lr_readAtom_195 ?_
                        refine mx_bipush (v := -35) d_Lr_readAtom_196 (by decide) ?_
                        refine mx_cV1vR d_Lr_readAtom_198 (c_Lr_write hLr hy (by omega)) ok_Lr_write ml_Lr_84 (by assumption) ⟨rfl, rfl⟩ (by omega) (Nat.le_of_ble_eq_true rfl) (fun K9 hK9 => ?_)
                        refine mx_iN5 d_Lr_readAtom_201 ?_
                        refine mx_goto 189 d_Lr_readAtom_204 (by decide) ?_
                        have e5 : nI (6 - e + k8 + 1) = nI (6 - e + (k8 + 1)) := by rfl
                        refine mx_lsc (congrArg (fun z9 => ([some (.ref (lr)), some (.int (nI (6 - e))), some (.int (nI (6 - e + n))), some (.int (nI (tq_k f L (tq_b f L (c + n))))), some (.int (nI (1))), some (.int (z9))] : List (Option Value))) e5) ?_
                        exact ih K9 (hw35 _ hK9)
                      · skip
                        obtain ⟨K, hz9⟩ : ∃ q, q = z9 := ⟨_, rfl⟩
                        subst hz9
                        try dsimp only at hinv ⊢
                        refine mx_il5 d_Lr_readAtom_189 ?_
                        refine mx_il2 d_Lr_readAtom_191 ?_
                        refine mx_icN_ge 207 d_Lr_readAtom_192 (by decide) (by omega) (by omega) (fun c_192 => ?_) (fun c_192 => absurd c_192 (by omega))
                        refine mx_il4 d_Lr_readAtom_207 ?_
                        exact mx_zret d_Lr_readAtom_209 rfl (by first | exact Or.inl rfl | exact Or.inr rfl) (mx_sR_i (by rw [htl, gq_ok_wr, hok]; rfl) (by rw [htl]; rw [show 401 + e = 401 + (e - n) + n by omega]; exact hinv))
              · skip
                refine mx_bip 7 d_Lr_readAtom_139 (by decide) ?_
                refine mx_goto 146 d_Lr_readAtom_141 (by decide) ?_
                refine mx_is5 d_Lr_readAtom_146 ?_
                refine mx_il4 d_Lr_readAtom_148 ?_
                refine mx_ifB_eq 176 d_Lr_readAtom_150 (by decide) (fun c_150 => ?_) (fun c_150 => ?_)
                · skip
                  obtain ⟨b, hsum⟩ := gq_ok_f c_150
                  rw [hsum] at hK2
                  have hbad := hs.trb hK2
                  obtain ⟨-, -, y, hy, hyz⟩ := id hbad
                  refine mx_in_0 d_Lr_readAtom_176 ?_
                  refine mx_is4 d_Lr_readAtom_177 ?_
                  refine mx_al0 d_Lr_readAtom_179 ?_
                  refine mx_il5 d_Lr_readAtom_180 ?_
                  refine mx_ineg d_Lr_readAtom_182 ?_
                  refine mx_cV1vR d_Lr_readAtom_183 (c_Lr_write hLr hy (by omega)) ok_Lr_write ml_Lr_84 (by assumption) ⟨rfl, rfl⟩ (by omega) (Nat.le_of_ble_eq_true rfl) (fun K5 hK5 => ?_)
                  have er : r = .inl b := hr0.trans (hpl.trans (gq_pln_1 hnm hsum))
                  have hr : lr_out I K5 lr te f L cs (401 + (e - n)) r := by rw [er]; exact (hbad.wr hy hyz hK5 hsep).le (by omega)
                  have hok : gq_ok r = false := by rw [er]; rfl
                  refine mx_il1 d_Lr_readAtom_186 ?_
                  refine mx_is5 d_Lr_readAtom_187 ?_
                  refine mx_lsc (congrArg (fun z9 => ([some (.ref (lr)), some (.int (nI (6 - e))), some (.int (nI (6 - e + n))), some (.int (nI (tq_k f L (tq_b f L (c + n))))), some (.int (nI (0))), some (.int (z9))] : List (Option Value))) ((show nI (6 - e) = nI (6 - e + 0) from rfl))) ?_
                  refine mx_loopX (α := (mx_I)) (N := n) (a0 := K5) (fun k8 z9 => lr_out I z9 lr te f L cs (401 + (e - n) + k8) (gq_wr k8 r)) (ls := fun k8 z9 => [some (.ref (lr)), some (.int (nI (6 - e))), some (.int (nI (6 - e + n))), some (.int (nI (tq_k f L (tq_b f L (c + n))))), some (.int (nI (0))), some (.int (nI (6 - e + k8)))]) (X := fun k8 z9 => (t, S, z9, P, J)) ((by rw [gq_wr_0]; exact hr)) (fun k8 hk8 z9 hinv ih => ?_) (fun z9 hinv => ?_)
                  · skip
                    obtain ⟨K, hz9⟩ : ∃ q, q = z9 := ⟨_, rfl⟩
                    subst hz9
                    try dsimp only at hinv ih ⊢
                    obtain ⟨y, hy, hy5, hw35⟩ := lr_out_35 hinv (fun q hq => by have := hgl q hq; simp only [List.length_append]; omega) (by omega) hsep
                    refine mx_il5 d_Lr_readAtom_189 ?_
                    refine mx_il2 d_Lr_readAtom_191 ?_
                    refine mx_icN_ge 207 d_Lr_readAtom_192 (by decide) (by omega) (by omega) (fun c_192 => absurd c_192 (by omega)) (fun c_192 => ?_)
                    refine mx_al0 d_Lr_readAtom_195 ?_
                    refine mx_bipush (v := -35) d_Lr_readAtom_196 (by decide) ?_
                    refine mx_cV1vR d_Lr_readAtom_198 (c_Lr_write hLr hy (by omega)) ok_Lr_write ml_Lr_84 (by assumption) ⟨rfl, rfl⟩ (by omega) (Nat.le_of_ble_eq_true rfl) (fun K9 hK9 => ?_)
                    refine mx_iN5 d_Lr_readAtom_201 ?_
                    refine mx_goto 189 d_Lr_readAtom_204 (by decide) ?_
                    have e5 : nI (6 - e + k8 + 1) = nI (6 - e + (k8 + 1)) := by rfl
                    refine mx_lsc (congrArg (fun z9 => ([some (.ref (lr)), some (.int (nI (6 - e))), some (.int (nI (6 - e + n))), some (.int (nI (tq_k f L (tq_b f L (c + n))))), some (.int (nI (0))), some (.int (z9))] : List (Option Value))) e5) ?_
                    exact ih K9 (hw35 _ hK9)
                  · skip
                    obtain ⟨K, hz9⟩ : ∃ q, q = z9 := ⟨_, rfl⟩
                    subst hz9
                    try dsimp only at hinv ⊢
                    refine mx_il5 d_Lr_readAtom_189 ?_
                    refine mx_il2 d_Lr_readAtom_191 ?_
                    refine mx_icN_ge 207 d_Lr_readAtom_192 (by decide) (by omega) (by omega) (fun c_192 => ?_) (fun c_192 => absurd c_192 (by omega))
                    refine mx_il4 d_Lr_readAtom_207 ?_
                    exact mx_zret d_Lr_readAtom_209 rfl (by first | exact Or.inl rfl | exact Or.inr rfl) (mx_sR_i (by rw [htl, gq_ok_wr, hok]; rfl) (by rw [htl]; rw [show 401 + e = 401 + (e - n) + n by omega]; exact hinv))
                · skip
                  obtain ⟨q, hsum⟩ := gq_ok_t c_150
                  rw [hsum] at hK2
                  have hs := hs.tr hK2
                  have h29 := hs.cur.2.1
                  have hg1 := (gq_go_sum (tK0 rfl)).2.1 _ _ hsum
                  refine mx_al0 d_Lr_readAtom_153 ?_
                  refine mx_getR d_Lr_readAtom_154 fl_Lr_24 (by assumption) (by assumption) ?_
                  refine mx_il5 d_Lr_readAtom_157 ?_
                  refine mx_cV1iR d_Lr_readAtom_159 (c_Te_takes hTe hs.tok hs.cur (w := 7) (by omega) (by omega)) ok_Te_takes ml_Lr_56 (by assumption) ⟨rfl, rfl⟩ (by omega) (Nat.le_of_ble_eq_true rfl) (fun K3 hK3 => ?_)
                  refine mx_ifB_eq 176 d_Lr_readAtom_162 (by decide) (fun c_162 => ?_) (fun c_162 => ?_)
                  · skip
                    have hk7 : ¬ tK f L q.2 = 7 := fun z => by rw [gq_tk_y z] at c_162; cases c_162
                    have e7 : nI (tq_k f L (tq_b f L q.2)) = nI 7 := h29.symm.trans c_136
                    exact absurd ((nI_eq (by have := tq_k_lt f L (tq_b f L q.2); omega) (by omega)).mp e7) hk7
                  · skip
                    have hk67 : tK f L q.2 = 7 := Decidable.byContradiction (fun z => by rw [gq_tk_n z] at c_162; cases c_162)
                    rw [gq_tk_y hk67] at hK3
                    have hs := hs.tk hK3 hsep
                    refine mx_al0 d_Lr_readAtom_165 ?_
                    refine mx_cV0iR d_Lr_readAtom_166 (c_Lr_readSum hLr hTe hs.self (by simp only [List.length_append] at *; omega)) ok_Lr_readSum ml_Lr_88 (by assumption) ⟨rfl, rfl⟩ (by omega) (Nat.le_of_ble_eq_true rfl) (fun K4 hK4 => ?_)
                    refine mx_ifB_eq 176 d_Lr_readAtom_169 (by decide) (fun c_169 => ?_) (fun c_169 => ?_)
                    · skip
                      obtain ⟨b, hsum2⟩ := gq_ok_f c_169
                      rw [hsum2] at hK4
                      have hbad := hs.trb hK4
                      obtain ⟨-, -, y, hy, hyz⟩ := id hbad
                      refine mx_in_0 d_Lr_readAtom_176 ?_
                      refine mx_is4 d_Lr_readAtom_177 ?_
                      refine mx_al0 d_Lr_readAtom_179 ?_
                      refine mx_il5 d_Lr_readAtom_180 ?_
                      refine mx_ineg d_Lr_readAtom_182 ?_
                      refine mx_cV1vR d_Lr_readAtom_183 (c_Lr_write hLr hy (by omega)) ok_Lr_write ml_Lr_84 (by assumption) ⟨rfl, rfl⟩ (by omega) (Nat.le_of_ble_eq_true rfl) (fun K5 hK5 => ?_)
                      have er : r = .inl b := hr0.trans (hpl.trans (gq_pln_3 hnm hsum (by omega) hsum2))
                      have hr : lr_out I K5 lr te f L cs (401 + (e - n)) r := by rw [er]; exact (hbad.wr hy hyz hK5 hsep).le (by omega)
                      have hok : gq_ok r = false := by rw [er]; rfl
                      refine mx_il1 d_Lr_readAtom_186 ?_
                      refine mx_is5 d_Lr_readAtom_187 ?_
                      refine mx_lsc (congrArg (fun z9 => ([some (.ref (lr)), some (.int (nI (6 - e))), some (.int (nI (6 - e + n))), some (.int (nI (tq_k f L (tq_b f L (c + n))))), some (.int (nI (0))), some (.int (z9))] : List (Option Value))) ((show nI (6 - e) = nI (6 - e + 0) from rfl))) ?_
                      refine mx_loopX (α := (mx_I)) (N := n) (a0 := K5) (fun k8 z9 => lr_out I z9 lr te f L cs (401 + (e - n) + k8) (gq_wr k8 r)) (ls := fun k8 z9 => [some (.ref (lr)), some (.int (nI (6 - e))), some (.int (nI (6 - e + n))), some (.int (nI (tq_k f L (tq_b f L (c + n))))), some (.int (nI (0))), some (.int (nI (6 - e + k8)))]) (X := fun k8 z9 => (t, S, z9, P, J)) ((by rw [gq_wr_0]; exact hr)) (fun k8 hk8 z9 hinv ih => ?_) (fun z9 hinv => ?_)
                      · skip
                        obtain ⟨K, hz9⟩ : ∃ q, q = z9 := ⟨_, rfl⟩
                        subst hz9
                        try dsimp only at hinv ih ⊢
                        obtain ⟨y, hy, hy5, hw35⟩ := lr_out_35 hinv (fun q hq => by have := hgl q hq; simp only [List.length_append]; omega) (by omega) hsep
                        refine mx_il5 d_Lr_readAtom_189 ?_
                        refine mx_il2 d_Lr_readAtom_191 ?_
                        refine mx_icN_ge 207 d_Lr_readAtom_192 (by decide) (by omega) (by omega) (fun c_192 => absurd c_192 (by omega)) (fun c_192 => ?_)
                        refine mx_al0 d_Lr_readAtom_195 ?_
                        refine mx_bipush (v := -35) d_Lr_readAtom_196 (by decide) ?_
                        refine mx_cV1vR d_Lr_readAtom_198 (c_Lr_write hLr hy (by omega)) ok_Lr_write ml_Lr_84 (by assumption) ⟨rfl, rfl⟩ (by omega) (Nat.le_of_ble_eq_true rfl) (fun K9 hK9 => ?_)
                        refine mx_iN5 d_Lr_readAtom_201 ?_
                        refine mx_goto 189 d_Lr_readAtom_204 (by decide) ?_
                        have e5 : nI (6 - e + k8 + 1) = nI (6 - e + (k8 + 1)) := by rfl
                        refine mx_lsc (congrArg (fun z9 => ([some (.ref (lr)), some (.int (nI (6 - e))), some (.int (nI (6 - e + n))), some (.int (nI (tq_k f L (tq_b f L (c + n))))), some (.int (nI (0))), some (.int (z9))] : List (Option Value))) e5) ?_
                        exact ih K9 (hw35 _ hK9)
                      · skip
                        obtain ⟨K, hz9⟩ : ∃ q, q = z9 := ⟨_, rfl⟩
                        subst hz9
                        try dsimp only at hinv ⊢
                        refine mx_il5 d_Lr_readAtom_189 ?_
                        refine mx_il2 d_Lr_readAtom_191 ?_
                        refine mx_icN_ge 207 d_Lr_readAtom_192 (by decide) (by omega) (by omega) (fun c_192 => ?_) (fun c_192 => absurd c_192 (by omega))
                        refine mx_il4 d_Lr_readAtom_207 ?_
                        exact mx_zret d_Lr_readAtom_209 rfl (by first | exact Or.inl rfl | exact Or.inr rfl) (mx_sR_i (by rw [htl, gq_ok_wr, hok]; rfl) (by rw [htl]; rw [show 401 + e = 401 + (e - n) + n by omega]; exact hinv))
                    · skip
                      obtain ⟨q2, hsum2⟩ := gq_ok_t c_169
                      rw [hsum2] at hK4
                      have hs := hs.tr hK4
                      have hg2 := (gq_go_sum (tK0 rfl)).2.1 _ _ hsum2
                      have hL5 : (cs ++ q.1 ++ q2.1).length < 400 := by simp only [List.length_append]; omega
                      refine mx_in_1 d_Lr_readAtom_172 ?_
                      refine mx_goto 177 d_Lr_readAtom_173 (by decide) ?_
                      refine mx_is4 d_Lr_readAtom_177 ?_
                      refine mx_al0 d_Lr_readAtom_179 ?_
                      refine mx_il5 d_Lr_readAtom_180 ?_
                      refine mx_ineg d_Lr_readAtom_182 ?_
                      refine mx_cV1vR d_Lr_readAtom_183 (c_Lr_write hLr hs.sz (by omega)) ok_Lr_write ml_Lr_84 (by assumption) ⟨rfl, rfl⟩ (by omega) (Nat.le_of_ble_eq_true rfl) (fun K5 hK5 => ?_)
                      have hs := hs.wr hK5 (by omega) hsep
                      have er : r = .inr (q.1 ++ q2.1 ++ [-nI (tK f L q.2)], q2.2) := hr0.trans (hpl.trans (gq_pln_4 hnm hsum (by omega) hsum2))
                      have hr : lr_out I K5 lr te f L cs (401 + (e - n)) r := by rw [er]; exact (by rw [hk67]; simp only [List.append_assoc] at hs ⊢; exact hs)
                      have hok : gq_ok r = true := by rw [er]; rfl
                      refine mx_il1 d_Lr_readAtom_186 ?_
                      refine mx_is5 d_Lr_readAtom_187 ?_
                      refine mx_lsc (congrArg (fun z9 => ([some (.ref (lr)), some (.int (nI (6 - e))), some (.int (nI (6 - e + n))), some (.int (nI (tq_k f L (tq_b f L (c + n))))), some (.int (nI (1))), some (.int (z9))] : List (Option Value))) ((show nI (6 - e) = nI (6 - e + 0) from rfl))) ?_
                      refine mx_loopX (α := (mx_I)) (N := n) (a0 := K5) (fun k8 z9 => lr_out I z9 lr te f L cs (401 + (e - n) + k8) (gq_wr k8 r)) (ls := fun k8 z9 => [some (.ref (lr)), some (.int (nI (6 - e))), some (.int (nI (6 - e + n))), some (.int (nI (tq_k f L (tq_b f L (c + n))))), some (.int (nI (1))), some (.int (nI (6 - e + k8)))]) (X := fun k8 z9 => (t, S, z9, P, J)) ((by rw [gq_wr_0]; exact hr)) (fun k8 hk8 z9 hinv ih => ?_) (fun z9 hinv => ?_)
                      · skip
                        obtain ⟨K, hz9⟩ : ∃ q, q = z9 := ⟨_, rfl⟩
                        subst hz9
                        try dsimp only at hinv ih ⊢
                        obtain ⟨y, hy, hy5, hw35⟩ := lr_out_35 hinv (fun q hq => by have := hgl q hq; simp only [List.length_append]; omega) (by omega) hsep
                        refine mx_il5 d_Lr_readAtom_189 ?_
                        refine mx_il2 d_Lr_readAtom_191 ?_
                        refine mx_icN_ge 207 d_Lr_readAtom_192 (by decide) (by omega) (by omega) (fun c_192 => absurd c_192 (by omega)) (fun c_192 => ?_)
                        refine mx_al0 d_Lr_readAtom_195 ?_
                        refine mx_bipush (v := -35) d_Lr_readAtom_196 (by decide) ?_
                        refine mx_cV1vR d_Lr_readAtom_198 (c_Lr_write hLr hy (by omega)) ok_Lr_write ml_Lr_84 (by assumption) ⟨rfl, rfl⟩ (by omega) (Nat.le_of_ble_eq_true rfl) (fun K9 hK9 => ?_)
                        refine mx_iN5 d_Lr_readAtom_201 ?_
                        refine mx_goto 189 d_Lr_readAtom_204 (by decide) ?_
                        have e5 : nI (6 - e + k8 + 1) = nI (6 - e + (k8 + 1)) := by rfl
                        refine mx_lsc (congrArg (fun z9 => ([some (.ref (lr)), some (.int (nI (6 - e))), some (.int (nI (6 - e + n))), some (.int (nI (tq_k f L (tq_b f L (c + n))))), some (.int (nI (1))), some (.int (z9))] : List (Option Value))) e5) ?_
                        exact ih K9 (hw35 _ hK9)
                      · skip
                        obtain ⟨K, hz9⟩ : ∃ q, q = z9 := ⟨_, rfl⟩
                        subst hz9
                        try dsimp only at hinv ⊢
                        refine mx_il5 d_Lr_readAtom_189 ?_
                        refine mx_il2 d_Lr_readAtom_191 ?_
                        refine mx_icN_ge 207 d_Lr_readAtom_192 (by decide) (by omega) (by omega) (fun c_192 => ?_) (fun c_192 => absurd c_192 (by omega))
                        refine mx_il4 d_Lr_readAtom_207 ?_
                        exact mx_zret d_Lr_readAtom_209 rfl (by first | exact Or.inl rfl | exact Or.inr rfl) (mx_sR_i (by rw [htl, gq_ok_wr, hok]; rfl) (by rw [htl]; rw [show 401 + e = 401 + (e - n) + n by omega]; exact hinv))
            · skip
              have hm : tK f L (c + n) = 17 ∨ tK f L (c + n) = 18 := Or.inr c_99
              refine mx_al0 d_Lr_readAtom_102 ?_
              refine mx_getR d_Lr_readAtom_103 fl_Lr_24 (by assumption) (by assumption) ?_
              refine mx_cV0vR d_Lr_readAtom_106 (c_Te_nextR hTe hs.tok hs.cur (tK_T (by show ¬ tq_k f L (tq_b f L (c + n)) = 0; omega))) ok_Te_next ml_Lr_63 (by assumption) ⟨rfl, rfl⟩ (by omega) (Nat.le_of_ble_eq_true rfl) (fun K1 hK1 => ?_)
              have hs := hs.tk hK1 hsep
              refine mx_al0 d_Lr_readAtom_109 ?_
              refine mx_il3 d_Lr_readAtom_110 ?_
              refine mx_ineg d_Lr_readAtom_111 ?_
              refine mx_cV1vR d_Lr_readAtom_112 (c_Lr_write hLr hs.sz (by omega)) ok_Lr_write ml_Lr_84 (by assumption) ⟨rfl, rfl⟩ (by omega) (Nat.le_of_ble_eq_true rfl) (fun K2 hK2 => ?_)
              have hs := hs.wr hK2 (by have := hs.cur.2.2; omega) hsep
              have er : r = .inr ([-nI (tK f L (c + n))], c + n + 1) := hr0.trans (hpl.trans (gq_pln_0 hm))
              have hr : lr_out I K2 lr te f L cs (401 + (e - n)) r := by rw [er]; exact hs
              have hok : gq_ok r = true := by rw [er]; rfl
              refine mx_in_1 d_Lr_readAtom_115 ?_
              refine mx_is4 d_Lr_readAtom_116 ?_
              refine mx_goto 186 d_Lr_readAtom_118 (by decide) ?_
              refine mx_il1 d_Lr_readAtom_186 ?_
              refine mx_is5 d_Lr_readAtom_187 ?_
              refine mx_lsc (congrArg (fun z9 => ([some (.ref (lr)), some (.int (nI (6 - e))), some (.int (nI (6 - e + n))), some (.int (nI (tq_k f L (tq_b f L (c + n))))), some (.int (nI (1))), some (.int (z9))] : List (Option Value))) ((show nI (6 - e) = nI (6 - e + 0) from rfl))) ?_
              refine mx_loopX (α := (mx_I)) (N := n) (a0 := K2) (fun k8 z9 => lr_out I z9 lr te f L cs (401 + (e - n) + k8) (gq_wr k8 r)) (ls := fun k8 z9 => [some (.ref (lr)), some (.int (nI (6 - e))), some (.int (nI (6 - e + n))), some (.int (nI (tq_k f L (tq_b f L (c + n))))), some (.int (nI (1))), some (.int (nI (6 - e + k8)))]) (X := fun k8 z9 => (t, S, z9, P, J)) ((by rw [gq_wr_0]; exact hr)) (fun k8 hk8 z9 hinv ih => ?_) (fun z9 hinv => ?_)
              · skip
                obtain ⟨K, hz9⟩ : ∃ q, q = z9 := ⟨_, rfl⟩
                subst hz9
                try dsimp only at hinv ih ⊢
                obtain ⟨y, hy, hy5, hw35⟩ := lr_out_35 hinv (fun q hq => by have := hgl q hq; simp only [List.length_append]; omega) (by omega) hsep
                refine mx_il5 d_Lr_readAtom_189 ?_
                refine mx_il2 d_Lr_readAtom_191 ?_
                refine mx_icN_ge 207 d_Lr_readAtom_192 (by decide) (by omega) (by omega) (fun c_192 => absurd c_192 (by omega)) (fun c_192 => ?_)
                refine mx_al0 d_Lr_readAtom_195 ?_
                refine mx_bipush (v := -35) d_Lr_readAtom_196 (by decide) ?_
                refine mx_cV1vR d_Lr_readAtom_198 (c_Lr_write hLr hy (by omega)) ok_Lr_write ml_Lr_84 (by assumption) ⟨rfl, rfl⟩ (by omega) (Nat.le_of_ble_eq_true rfl) (fun K9 hK9 => ?_)
                refine mx_iN5 d_Lr_readAtom_201 ?_
                refine mx_goto 189 d_Lr_readAtom_204 (by decide) ?_
                have e5 : nI (6 - e + k8 + 1) = nI (6 - e + (k8 + 1)) := by rfl
                refine mx_lsc (congrArg (fun z9 => ([some (.ref (lr)), some (.int (nI (6 - e))), some (.int (nI (6 - e + n))), some (.int (nI (tq_k f L (tq_b f L (c + n))))), some (.int (nI (1))), some (.int (z9))] : List (Option Value))) e5) ?_
                exact ih K9 (hw35 _ hK9)
              · skip
                obtain ⟨K, hz9⟩ : ∃ q, q = z9 := ⟨_, rfl⟩
                subst hz9
                try dsimp only at hinv ⊢
                refine mx_il5 d_Lr_readAtom_189 ?_
                refine mx_il2 d_Lr_readAtom_191 ?_
                refine mx_icN_ge 207 d_Lr_readAtom_192 (by decide) (by omega) (by omega) (fun c_192 => ?_) (fun c_192 => absurd c_192 (by omega))
                refine mx_il4 d_Lr_readAtom_207 ?_
                exact mx_zret d_Lr_readAtom_209 rfl (by first | exact Or.inl rfl | exact Or.inr rfl) (mx_sR_i (by rw [htl, gq_ok_wr, hok]; rfl) (by rw [htl]; rw [show 401 + e = 401 + (e - n) + n by omega]; exact hinv))
        · skip
          refine mx_al0 d_Lr_readAtom_52 ?_
          refine mx_getR d_Lr_readAtom_53 fl_Lr_24 (by assumption) (by assumption) ?_
          refine mx_cV0vR d_Lr_readAtom_56 (c_Te_nextR hTe hs.tok hs.cur (tK_T (by show ¬ tq_k f L (tq_b f L (c + n)) = 0; omega))) ok_Te_next ml_Lr_63 (by assumption) ⟨rfl, rfl⟩ (by omega) (Nat.le_of_ble_eq_true rfl) (fun K1 hK1 => ?_)
          have hs := hs.tk hK1 hsep
          refine mx_al0 d_Lr_readAtom_59 ?_
          refine mx_il2 d_Lr_readAtom_60 ?_
          refine mx_in_1 d_Lr_readAtom_61 ?_
          refine mx_iaddN d_Lr_readAtom_62 ?_
          refine mx_ti (y := nI (6 - (e - n - 1))) (congrArg nI (by omega : 6 - e + n + 1 = 6 - (e - n - 1))) ?_
          refine mx_cV1iR d_Lr_readAtom_63 (hC (e - n - 1) (by omega) _ _ cs hs.self (by omega)) ok_Lr_readCondition ml_Lr_70 (by assumption) ⟨rfl, rfl⟩ (by omega) (Nat.le_of_ble_eq_true rfl) (fun K2 hK2 => ?_)
          refine mx_ifB_eq 84 d_Lr_readAtom_66 (by decide) (fun c_66 => ?_) (fun c_66 => ?_)
          · skip
            obtain ⟨b, hb⟩ := gq_ok_f c_66
            rw [hb] at hK2
            have er : r = .inl b := hr0.trans (gq_tl_1 c_43 (by omega) hb)
            have hr : lr_out I K2 lr te f L cs (401 + (e - n)) r := by rw [er]; exact (hs.trb hK2).le (by omega)
            have hok : gq_ok r = false := by rw [er]; rfl
            refine mx_in_0 d_Lr_readAtom_84 ?_
            refine mx_is4 d_Lr_readAtom_85 ?_
            refine mx_goto 186 d_Lr_readAtom_87 (by decide) ?_
            refine mx_il1 d_Lr_readAtom_186 ?_
            refine mx_is5 d_Lr_readAtom_187 ?_
            refine mx_lsc (congrArg (fun z9 => ([some (.ref (lr)), some (.int (nI (6 - e))), some (.int (nI (6 - e + n))), some (.int (nI (tq_k f L (tq_b f L (c + n))))), some (.int (nI (0))), some (.int (z9))] : List (Option Value))) ((show nI (6 - e) = nI (6 - e + 0) from rfl))) ?_
            refine mx_loopX (α := (mx_I)) (N := n) (a0 := K2) (fun k8 z9 => lr_out I z9 lr te f L cs (401 + (e - n) + k8) (gq_wr k8 r)) (ls := fun k8 z9 => [some (.ref (lr)), some (.int (nI (6 - e))), some (.int (nI (6 - e + n))), some (.int (nI (tq_k f L (tq_b f L (c + n))))), some (.int (nI (0))), some (.int (nI (6 - e + k8)))]) (X := fun k8 z9 => (t, S, z9, P, J)) ((by rw [gq_wr_0]; exact hr)) (fun k8 hk8 z9 hinv ih => ?_) (fun z9 hinv => ?_)
            · skip
              obtain ⟨K, hz9⟩ : ∃ q, q = z9 := ⟨_, rfl⟩
              subst hz9
              try dsimp only at hinv ih ⊢
              obtain ⟨y, hy, hy5, hw35⟩ := lr_out_35 hinv (fun q hq => by have := hgl q hq; simp only [List.length_append]; omega) (by omega) hsep
              refine mx_il5 d_Lr_readAtom_189 ?_
              refine mx_il2 d_Lr_readAtom_191 ?_
              refine mx_icN_ge 207 d_Lr_readAtom_192 (by decide) (by omega) (by omega) (fun c_192 => absurd c_192 (by omega)) (fun c_192 => ?_)
              refine mx_al0 d_Lr_readAtom_195 ?_
              refine mx_bipush (v := -35) d_Lr_readAtom_196 (by decide) ?_
              refine mx_cV1vR d_Lr_readAtom_198 (c_Lr_write hLr hy (by omega)) ok_Lr_write ml_Lr_84 (by assumption) ⟨rfl, rfl⟩ (by omega) (Nat.le_of_ble_eq_true rfl) (fun K9 hK9 => ?_)
              refine mx_iN5 d_Lr_readAtom_201 ?_
              refine mx_goto 189 d_Lr_readAtom_204 (by decide) ?_
              have e5 : nI (6 - e + k8 + 1) = nI (6 - e + (k8 + 1)) := by rfl
              refine mx_lsc (congrArg (fun z9 => ([some (.ref (lr)), some (.int (nI (6 - e))), some (.int (nI (6 - e + n))), some (.int (nI (tq_k f L (tq_b f L (c + n))))), some (.int (nI (0))), some (.int (z9))] : List (Option Value))) e5) ?_
              exact ih K9 (hw35 _ hK9)
            · skip
              obtain ⟨K, hz9⟩ : ∃ q, q = z9 := ⟨_, rfl⟩
              subst hz9
              try dsimp only at hinv ⊢
              refine mx_il5 d_Lr_readAtom_189 ?_
              refine mx_il2 d_Lr_readAtom_191 ?_
              refine mx_icN_ge 207 d_Lr_readAtom_192 (by decide) (by omega) (by omega) (fun c_192 => ?_) (fun c_192 => absurd c_192 (by omega))
              refine mx_il4 d_Lr_readAtom_207 ?_
              exact mx_zret d_Lr_readAtom_209 rfl (by first | exact Or.inl rfl | exact Or.inr rfl) (mx_sR_i (by rw [htl, gq_ok_wr, hok]; rfl) (by rw [htl]; rw [show 401 + e = 401 + (e - n) + n by omega]; exact hinv))
          · skip
            obtain ⟨q, hq⟩ := gq_ok_t c_66
            rw [hq] at hK2
            have hs := hs.tr hK2
            refine mx_al0 d_Lr_readAtom_69 ?_
            refine mx_getR d_Lr_readAtom_70 fl_Lr_24 (by assumption) (by assumption) ?_
            refine mx_in_5 d_Lr_readAtom_73 ?_
            refine mx_cV1iR d_Lr_readAtom_74 (c_Te_takes hTe hs.tok hs.cur (w := 5) (by omega) (by omega)) ok_Te_takes ml_Lr_56 (by assumption) ⟨rfl, rfl⟩ (by omega) (Nat.le_of_ble_eq_true rfl) (fun K3 hK3 => ?_)
            refine mx_ifB_eq 84 d_Lr_readAtom_77 (by decide) (fun c_77 => ?_) (fun c_77 => ?_)
            · skip
              have h5 : ¬ tK f L q.2 = 5 := fun z => by rw [gq_tk_y z] at c_77; cases c_77
              rw [gq_tk_n h5] at hK3
              have er : r = .inl q.2 := hr0.trans (gq_tl_2 c_43 (by omega) hq h5)
              have hr : lr_out I K3 lr te f L cs (401 + (e - n)) r := by rw [er]; exact hs.bad hK3 hsep (by have := (hgs _ _ hq); simp only [List.length_append]; omega)
              have hok : gq_ok r = false := by rw [er]; rfl
              refine mx_in_0 d_Lr_readAtom_84 ?_
              refine mx_is4 d_Lr_readAtom_85 ?_
              refine mx_goto 186 d_Lr_readAtom_87 (by decide) ?_
              refine mx_il1 d_Lr_readAtom_186 ?_
              refine mx_is5 d_Lr_readAtom_187 ?_
              refine mx_lsc (congrArg (fun z9 => ([some (.ref (lr)), some (.int (nI (6 - e))), some (.int (nI (6 - e + n))), some (.int (nI (tq_k f L (tq_b f L (c + n))))), some (.int (nI (0))), some (.int (z9))] : List (Option Value))) ((show nI (6 - e) = nI (6 - e + 0) from rfl))) ?_
              refine mx_loopX (α := (mx_I)) (N := n) (a0 := K3) (fun k8 z9 => lr_out I z9 lr te f L cs (401 + (e - n) + k8) (gq_wr k8 r)) (ls := fun k8 z9 => [some (.ref (lr)), some (.int (nI (6 - e))), some (.int (nI (6 - e + n))), some (.int (nI (tq_k f L (tq_b f L (c + n))))), some (.int (nI (0))), some (.int (nI (6 - e + k8)))]) (X := fun k8 z9 => (t, S, z9, P, J)) ((by rw [gq_wr_0]; exact hr)) (fun k8 hk8 z9 hinv ih => ?_) (fun z9 hinv => ?_)
              · skip
                obtain ⟨K, hz9⟩ : ∃ q, q = z9 := ⟨_, rfl⟩
                subst hz9
                try dsimp only at hinv ih ⊢
                obtain ⟨y, hy, hy5, hw35⟩ := lr_out_35 hinv (fun q hq => by have := hgl q hq; simp only [List.length_append]; omega) (by omega) hsep
                refine mx_il5 d_Lr_readAtom_189 ?_
                refine mx_il2 d_Lr_readAtom_191 ?_
                refine mx_icN_ge 207 d_Lr_readAtom_192 (by decide) (by omega) (by omega) (fun c_192 => absurd c_192 (by omega)) (fun c_192 => ?_)
                refine mx_al0 d_Lr_readAtom_195 ?_
                refine mx_bipush (v := -35) d_Lr_readAtom_196 (by decide) ?_
                refine mx_cV1vR d_Lr_readAtom_198 (c_Lr_write hLr hy (by omega)) ok_Lr_write ml_Lr_84 (by assumption) ⟨rfl, rfl⟩ (by omega) (Nat.le_of_ble_eq_true rfl) (fun K9 hK9 => ?_)
                refine mx_iN5 d_Lr_readAtom_201 ?_
                refine mx_goto 189 d_Lr_readAtom_204 (by decide) ?_
                have e5 : nI (6 - e + k8 + 1) = nI (6 - e + (k8 + 1)) := by rfl
                refine mx_lsc (congrArg (fun z9 => ([some (.ref (lr)), some (.int (nI (6 - e))), some (.int (nI (6 - e + n))), some (.int (nI (tq_k f L (tq_b f L (c + n))))), some (.int (nI (0))), some (.int (z9))] : List (Option Value))) e5) ?_
                exact ih K9 (hw35 _ hK9)
              · skip
                obtain ⟨K, hz9⟩ : ∃ q, q = z9 := ⟨_, rfl⟩
                subst hz9
                try dsimp only at hinv ⊢
                refine mx_il5 d_Lr_readAtom_189 ?_
                refine mx_il2 d_Lr_readAtom_191 ?_
                refine mx_icN_ge 207 d_Lr_readAtom_192 (by decide) (by omega) (by omega) (fun c_192 => ?_) (fun c_192 => absurd c_192 (by omega))
                refine mx_il4 d_Lr_readAtom_207 ?_
                exact mx_zret d_Lr_readAtom_209 rfl (by first | exact Or.inl rfl | exact Or.inr rfl) (mx_sR_i (by rw [htl, gq_ok_wr, hok]; rfl) (by rw [htl]; rw [show 401 + e = 401 + (e - n) + n by omega]; exact hinv))
            · skip
              have h5 : tK f L q.2 = 5 := Decidable.byContradiction (fun z => by rw [gq_tk_n z] at c_77; cases c_77)
              rw [gq_tk_y h5] at hK3
              have hs := hs.tk hK3 hsep
              have er : r = .inr (q.1, q.2 + 1) := hr0.trans (gq_tl_3 c_43 (by omega) hq h5)
              have hr : lr_out I K3 lr te f L cs (401 + (e - n)) r := by rw [er]; exact hs
              have hok : gq_ok r = true := by rw [er]; rfl
              refine mx_in_1 d_Lr_readAtom_80 ?_
              refine mx_goto 85 d_Lr_readAtom_81 (by decide) ?_
              refine mx_is4 d_Lr_readAtom_85 ?_
              refine mx_goto 186 d_Lr_readAtom_87 (by decide) ?_
              refine mx_il1 d_Lr_readAtom_186 ?_
              refine mx_is5 d_Lr_readAtom_187 ?_
              refine mx_lsc (congrArg (fun z9 => ([some (.ref (lr)), some (.int (nI (6 - e))), some (.int (nI (6 - e + n))), some (.int (nI (tq_k f L (tq_b f L (c + n))))), some (.int (nI (1))), some (.int (z9))] : List (Option Value))) ((show nI (6 - e) = nI (6 - e + 0) from rfl))) ?_
              refine mx_loopX (α := (mx_I)) (N := n) (a0 := K3) (fun k8 z9 => lr_out I z9 lr te f L cs (401 + (e - n) + k8) (gq_wr k8 r)) (ls := fun k8 z9 => [some (.ref (lr)), some (.int (nI (6 - e))), some (.int (nI (6 - e + n))), some (.int (nI (tq_k f L (tq_b f L (c + n))))), some (.int (nI (1))), some (.int (nI (6 - e + k8)))]) (X := fun k8 z9 => (t, S, z9, P, J)) ((by rw [gq_wr_0]; exact hr)) (fun k8 hk8 z9 hinv ih => ?_) (fun z9 hinv => ?_)
              · skip
                obtain ⟨K, hz9⟩ : ∃ q, q = z9 := ⟨_, rfl⟩
                subst hz9
                try dsimp only at hinv ih ⊢
                obtain ⟨y, hy, hy5, hw35⟩ := lr_out_35 hinv (fun q hq => by have := hgl q hq; simp only [List.length_append]; omega) (by omega) hsep
                refine mx_il5 d_Lr_readAtom_189 ?_
                refine mx_il2 d_Lr_readAtom_191 ?_
                refine mx_icN_ge 207 d_Lr_readAtom_192 (by decide) (by omega) (by omega) (fun c_192 => absurd c_192 (by omega)) (fun c_192 => ?_)
                refine mx_al0 d_Lr_readAtom_195 ?_
                refine mx_bipush (v := -35) d_Lr_readAtom_196 (by decide) ?_
                refine mx_cV1vR d_Lr_readAtom_198 (c_Lr_write hLr hy (by omega)) ok_Lr_write ml_Lr_84 (by assumption) ⟨rfl, rfl⟩ (by omega) (Nat.le_of_ble_eq_true rfl) (fun K9 hK9 => ?_)
                refine mx_iN5 d_Lr_readAtom_201 ?_
                refine mx_goto 189 d_Lr_readAtom_204 (by decide) ?_
                have e5 : nI (6 - e + k8 + 1) = nI (6 - e + (k8 + 1)) := by rfl
                refine mx_lsc (congrArg (fun z9 => ([some (.ref (lr)), some (.int (nI (6 - e))), some (.int (nI (6 - e + n))), some (.int (nI (tq_k f L (tq_b f L (c + n))))), some (.int (nI (1))), some (.int (z9))] : List (Option Value))) e5) ?_
                exact ih K9 (hw35 _ hK9)
              · skip
                obtain ⟨K, hz9⟩ : ∃ q, q = z9 := ⟨_, rfl⟩
                subst hz9
                try dsimp only at hinv ⊢
                refine mx_il5 d_Lr_readAtom_189 ?_
                refine mx_il2 d_Lr_readAtom_191 ?_
                refine mx_icN_ge 207 d_Lr_readAtom_192 (by decide) (by omega) (by omega) (fun c_192 => ?_) (fun c_192 => absurd c_192 (by omega))
                refine mx_il4 d_Lr_readAtom_207 ?_
                exact mx_zret d_Lr_readAtom_209 rfl (by first | exact Or.inl rfl | exact Or.inr rfl) (mx_sR_i (by rw [htl, gq_ok_wr, hok]; rfl) (by rw [htl]; rw [show 401 + e = 401 + (e - n) + n by omega]; exact hinv))
    · skip
      refine mx_il2 d_Lr_readAtom_14 ?_
      refine mx_bip 6 d_Lr_readAtom_15 (by decide) ?_
      refine mx_icN_ge 33 d_Lr_readAtom_17 (by decide) (by omega) (by omega) (fun c_17 => ?_) (fun c_17 => absurd c_17 (by have := hnout c_11; omega))
      refine mx_al0 d_Lr_readAtom_33 ?_
      refine mx_getR d_Lr_readAtom_34 fl_Lr_24 (by assumption) (by assumption) ?_
      refine mx_getI d_Lr_readAtom_37 fl_Lr_49 (by assumption) ?_
      refine mx_ti (y := nI (tq_k f L (tq_b f L (c + n)))) (hs.cur.2.1) ?_
      refine mx_is3 d_Lr_readAtom_40 ?_
      refine mx_il3 d_Lr_readAtom_41 ?_
      refine mx_in_4 d_Lr_readAtom_42 ?_
      refine mx_icN_ne 90 d_Lr_readAtom_43 (by decide) (by omega) (by omega) (fun c_43 => ?_) (fun c_43 => ?_)
      · skip
        have hpl : gq_tl (tK f L) (tV f L) (e - n) (c + n) = gq_pln (tK f L) (tV f L) (c + n) := gq_tl_4 (fun z => by have z1 : tq_k f L (tq_b f L (c + n)) = 4 := z.1; omega)
        refine mx_il3 d_Lr_readAtom_90 ?_
        refine mx_bip 17 d_Lr_readAtom_91 (by decide) ?_
        refine mx_icN_eq 102 d_Lr_readAtom_93 (by decide) (by omega) (by omega) (fun c_93 => ?_) (fun c_93 => ?_)
        · skip
          have hm : tK f L (c + n) = 17 ∨ tK f L (c + n) = 18 := Or.inl c_93
          refine mx_al0 d_Lr_readAtom_102 ?_
          refine mx_getR d_Lr_readAtom_103 fl_Lr_24 (by assumption) (by assumption) ?_
          refine mx_cV0vR d_Lr_readAtom_106 (c_Te_nextR hTe hs.tok hs.cur (tK_T (by show ¬ tq_k f L (tq_b f L (c + n)) = 0; omega))) ok_Te_next ml_Lr_63 (by assumption) ⟨rfl, rfl⟩ (by omega) (Nat.le_of_ble_eq_true rfl) (fun K1 hK1 => ?_)
          have hs := hs.tk hK1 hsep
          refine mx_al0 d_Lr_readAtom_109 ?_
          refine mx_il3 d_Lr_readAtom_110 ?_
          refine mx_ineg d_Lr_readAtom_111 ?_
          refine mx_cV1vR d_Lr_readAtom_112 (c_Lr_write hLr hs.sz (by omega)) ok_Lr_write ml_Lr_84 (by assumption) ⟨rfl, rfl⟩ (by omega) (Nat.le_of_ble_eq_true rfl) (fun K2 hK2 => ?_)
          have hs := hs.wr hK2 (by have := hs.cur.2.2; omega) hsep
          have er : r = .inr ([-nI (tK f L (c + n))], c + n + 1) := hr0.trans (hpl.trans (gq_pln_0 hm))
          have hr : lr_out I K2 lr te f L cs (401 + (e - n)) r := by rw [er]; exact hs
          have hok : gq_ok r = true := by rw [er]; rfl
          refine mx_in_1 d_Lr_readAtom_115 ?_
          refine mx_is4 d_Lr_readAtom_116 ?_
          refine mx_goto 186 d_Lr_readAtom_118 (by decide) ?_
          refine mx_il1 d_Lr_readAtom_186 ?_
          refine mx_is5 d_Lr_readAtom_187 ?_
          refine mx_lsc (congrArg (fun z9 => ([some (.ref (lr)), some (.int (nI (6 - e))), some (.int (nI (6 - e + n))), some (.int (nI (tq_k f L (tq_b f L (c + n))))), some (.int (nI (1))), some (.int (z9))] : List (Option Value))) ((show nI (6 - e) = nI (6 - e + 0) from rfl))) ?_
          refine mx_loopX (α := (mx_I)) (N := n) (a0 := K2) (fun k8 z9 => lr_out I z9 lr te f L cs (401 + (e - n) + k8) (gq_wr k8 r)) (ls := fun k8 z9 => [some (.ref (lr)), some (.int (nI (6 - e))), some (.int (nI (6 - e + n))), some (.int (nI (tq_k f L (tq_b f L (c + n))))), some (.int (nI (1))), some (.int (nI (6 - e + k8)))]) (X := fun k8 z9 => (t, S, z9, P, J)) ((by rw [gq_wr_0]; exact hr)) (fun k8 hk8 z9 hinv ih => ?_) (fun z9 hinv => ?_)
          · skip
            obtain ⟨K, hz9⟩ : ∃ q, q = z9 := ⟨_, rfl⟩
            subst hz9
            try dsimp only at hinv ih ⊢
            obtain ⟨y, hy, hy5, hw35⟩ := lr_out_35 hinv (fun q hq => by have := hgl q hq; simp only [List.length_append]; omega) (by omega) hsep
            refine mx_il5 d_Lr_readAtom_189 ?_
            refine mx_il2 d_Lr_readAtom_191 ?_
            refine mx_icN_ge 207 d_Lr_readAtom_192 (by decide) (by omega) (by omega) (fun c_192 => absurd c_192 (by omega)) (fun c_192 => ?_)
            refine mx_al0 d_Lr_readAtom_195 ?_
            refine mx_bipush (v := -35) d_Lr_readAtom_196 (by decide) ?_
            refine mx_cV1vR d_Lr_readAtom_198 (c_Lr_write hLr hy (by omega)) ok_Lr_write ml_Lr_84 (by assumption) ⟨rfl, rfl⟩ (by omega) (Nat.le_of_ble_eq_true rfl) (fun K9 hK9 => ?_)
            refine mx_iN5 d_Lr_readAtom_201 ?_
            refine mx_goto 189 d_Lr_readAtom_204 (by decide) ?_
            have e5 : nI (6 - e + k8 + 1) = nI (6 - e + (k8 + 1)) := by rfl
            refine mx_lsc (congrArg (fun z9 => ([some (.ref (lr)), some (.int (nI (6 - e))), some (.int (nI (6 - e + n))), some (.int (nI (tq_k f L (tq_b f L (c + n))))), some (.int (nI (1))), some (.int (z9))] : List (Option Value))) e5) ?_
            exact ih K9 (hw35 _ hK9)
          · skip
            obtain ⟨K, hz9⟩ : ∃ q, q = z9 := ⟨_, rfl⟩
            subst hz9
            try dsimp only at hinv ⊢
            refine mx_il5 d_Lr_readAtom_189 ?_
            refine mx_il2 d_Lr_readAtom_191 ?_
            refine mx_icN_ge 207 d_Lr_readAtom_192 (by decide) (by omega) (by omega) (fun c_192 => ?_) (fun c_192 => absurd c_192 (by omega))
            refine mx_il4 d_Lr_readAtom_207 ?_
            exact mx_zret d_Lr_readAtom_209 rfl (by first | exact Or.inl rfl | exact Or.inr rfl) (mx_sR_i (by rw [htl, gq_ok_wr, hok]; rfl) (by rw [htl]; rw [show 401 + e = 401 + (e - n) + n by omega]; exact hinv))
        · skip
          refine mx_il3 d_Lr_readAtom_96 ?_
          refine mx_bip 18 d_Lr_readAtom_97 (by decide) ?_
          refine mx_icN_ne 121 d_Lr_readAtom_99 (by decide) (by omega) (by omega) (fun c_99 => ?_) (fun c_99 => ?_)
          · skip
            have hnm : ¬ (tK f L (c + n) = 17 ∨ tK f L (c + n) = 18) := fun z => z.elim c_93 c_99
            refine mx_al0 d_Lr_readAtom_121 ?_
            refine mx_cV0iR d_Lr_readAtom_122 (c_Lr_readSum hLr hTe hs.self (by omega)) ok_Lr_readSum ml_Lr_88 (by assumption) ⟨rfl, rfl⟩ (by omega) (Nat.le_of_ble_eq_true rfl) (fun K2 hK2 => ?_)
            refine mx_is4 d_Lr_readAtom_125 ?_
            refine mx_al0 d_Lr_readAtom_127 ?_
            refine mx_getR d_Lr_readAtom_128 fl_Lr_24 (by assumption) (by assumption) ?_
            refine mx_getI d_Lr_readAtom_131 fl_Lr_49 (by assumption) ?_
            refine mx_bip 7 d_Lr_readAtom_134 (by decide) ?_
            refine mx_icmp_ne 144 d_Lr_readAtom_136 (by decide) (fun c_136 => ?_) (fun c_136 => ?_)
            · skip
              refine mx_bip 6 d_Lr_readAtom_144 (by decide) ?_
              refine mx_is5 d_Lr_readAtom_146 ?_
              refine mx_il4 d_Lr_readAtom_148 ?_
              refine mx_ifB_eq 176 d_Lr_readAtom_150 (by decide) (fun c_150 => ?_) (fun c_150 => ?_)
              · skip
                obtain ⟨b, hsum⟩ := gq_ok_f c_150
                rw [hsum] at hK2
                have hbad := hs.trb hK2
                obtain ⟨-, -, y, hy, hyz⟩ := id hbad
                refine mx_in_0 d_Lr_readAtom_176 ?_
                refine mx_is4 d_Lr_readAtom_177 ?_
                refine mx_al0 d_Lr_readAtom_179 ?_
                refine mx_il5 d_Lr_readAtom_180 ?_
                refine mx_ineg d_Lr_readAtom_182 ?_
                refine mx_cV1vR d_Lr_readAtom_183 (c_Lr_write hLr hy (by omega)) ok_Lr_write ml_Lr_84 (by assumption) ⟨rfl, rfl⟩ (by omega) (Nat.le_of_ble_eq_true rfl) (fun K5 hK5 => ?_)
                have er : r = .inl b := hr0.trans (hpl.trans (gq_pln_1 hnm hsum))
                have hr : lr_out I K5 lr te f L cs (401 + (e - n)) r := by rw [er]; exact (hbad.wr hy hyz hK5 hsep).le (by omega)
                have hok : gq_ok r = false := by rw [er]; rfl
                refine mx_il1 d_Lr_readAtom_186 ?_
                refine mx_is5 d_Lr_readAtom_187 ?_
                refine mx_lsc (congrArg (fun z9 => ([some (.ref (lr)), some (.int (nI (6 - e))), some (.int (nI (6 - e + n))), some (.int (nI (tq_k f L (tq_b f L (c + n))))), some (.int (nI (0))), some (.int (z9))] : List (Option Value))) ((show nI (6 - e) = nI (6 - e + 0) from rfl))) ?_
                refine mx_loopX (α := (mx_I)) (N := n) (a0 := K5) (fun k8 z9 => lr_out I z9 lr te f L cs (401 + (e - n) + k8) (gq_wr k8 r)) (ls := fun k8 z9 => [some (.ref (lr)), some (.int (nI (6 - e))), some (.int (nI (6 - e + n))), some (.int (nI (tq_k f L (tq_b f L (c + n))))), some (.int (nI (0))), some (.int (nI (6 - e + k8)))]) (X := fun k8 z9 => (t, S, z9, P, J)) ((by rw [gq_wr_0]; exact hr)) (fun k8 hk8 z9 hinv ih => ?_) (fun z9 hinv => ?_)
                · skip
                  obtain ⟨K, hz9⟩ : ∃ q, q = z9 := ⟨_, rfl⟩
                  subst hz9
                  try dsimp only at hinv ih ⊢
                  obtain ⟨y, hy, hy5, hw35⟩ := lr_out_35 hinv (fun q hq => by have := hgl q hq; simp only [List.length_append]; omega) (by omega) hsep
                  refine mx_il5 d_Lr_readAtom_189 ?_
                  refine mx_il2 d_Lr_readAtom_191 ?_
                  refine mx_icN_ge 207 d_Lr_readAtom_192 (by decide) (by omega) (by omega) (fun c_192 => absurd c_192 (by omega)) (fun c_192 => ?_)
                  refine mx_al0 d_Lr_readAtom_195 ?_
                  refine mx_bipush (v := -35) d_Lr_readAtom_196 (by decide) ?_
                  refine mx_cV1vR d_Lr_readAtom_198 (c_Lr_write hLr hy (by omega)) ok_Lr_write ml_Lr_84 (by assumption) ⟨rfl, rfl⟩ (by omega) (Nat.le_of_ble_eq_true rfl) (fun K9 hK9 => ?_)
                  refine mx_iN5 d_Lr_readAtom_201 ?_
                  refine mx_goto 189 d_Lr_readAtom_204 (by decide) ?_
                  have e5 : nI (6 - e + k8 + 1) = nI (6 - e + (k8 + 1)) := by rfl
                  refine mx_lsc (congrArg (fun z9 => ([some (.ref (lr)), some (.int (nI (6 - e))), some (.int (nI (6 - e + n))), some (.int (nI (tq_k f L (tq_b f L (c + n))))), some (.int (nI (0))), some (.int (z9))] : List (Option Value))) e5) ?_
                  exact ih K9 (hw35 _ hK9)
                · skip
                  obtain ⟨K, hz9⟩ : ∃ q, q = z9 := ⟨_, rfl⟩
                  subst hz9
                  try dsimp only at hinv ⊢
                  refine mx_il5 d_Lr_readAtom_189 ?_
                  refine mx_il2 d_Lr_readAtom_191 ?_
                  refine mx_icN_ge 207 d_Lr_readAtom_192 (by decide) (by omega) (by omega) (fun c_192 => ?_) (fun c_192 => absurd c_192 (by omega))
                  refine mx_il4 d_Lr_readAtom_207 ?_
                  exact mx_zret d_Lr_readAtom_209 rfl (by first | exact Or.inl rfl | exact Or.inr rfl) (mx_sR_i (by rw [htl, gq_ok_wr, hok]; rfl) (by rw [htl]; rw [show 401 + e = 401 + (e - n) + n by omega]; exact hinv))
              · skip
                obtain ⟨q, hsum⟩ := gq_ok_t c_150
                rw [hsum] at hK2
                have hs := hs.tr hK2
                have h29 := hs.cur.2.1
                have hg1 := (gq_go_sum (tK0 rfl)).2.1 _ _ hsum
                refine mx_al0 d_Lr_readAtom_153 ?_
                refine mx_getR d_Lr_readAtom_154 fl_Lr_24 (by assumption) (by assumption) ?_
                refine mx_il5 d_Lr_readAtom_157 ?_
                refine mx_cV1iR d_Lr_readAtom_159 (c_Te_takes hTe hs.tok hs.cur (w := 6) (by omega) (by omega)) ok_Te_takes ml_Lr_56 (by assumption) ⟨rfl, rfl⟩ (by omega) (Nat.le_of_ble_eq_true rfl) (fun K3 hK3 => ?_)
                refine mx_ifB_eq 176 d_Lr_readAtom_162 (by decide) (fun c_162 => ?_) (fun c_162 => ?_)
                · skip
                  have hk6 : ¬ tK f L q.2 = 6 := fun z => by rw [gq_tk_y z] at c_162; cases c_162
                  have hk67 : ¬ (tK f L q.2 = 6 ∨ tK f L q.2 = 7) := fun z => z.elim hk6 (fun z => c_136 (h29.trans (congrArg nI z)))
                  rw [gq_tk_n hk6] at hK3
                  have hbad := hs.bad hK3 hsep (z := 400) (by simp only [List.length_append]; omega)
                  obtain ⟨-, -, y, hy, hyz⟩ := id hbad
                  refine mx_in_0 d_Lr_readAtom_176 ?_
                  refine mx_is4 d_Lr_readAtom_177 ?_
                  refine mx_al0 d_Lr_readAtom_179 ?_
                  refine mx_il5 d_Lr_readAtom_180 ?_
                  refine mx_ineg d_Lr_readAtom_182 ?_
                  refine mx_cV1vR d_Lr_readAtom_183 (c_Lr_write hLr hy (by omega)) ok_Lr_write ml_Lr_84 (by assumption) ⟨rfl, rfl⟩ (by omega) (Nat.le_of_ble_eq_true rfl) (fun K5 hK5 => ?_)
                  have er : r = .inl q.2 := hr0.trans (hpl.trans (gq_pln_2 hnm hsum hk67))
                  have hr : lr_out I K5 lr te f L cs (401 + (e - n)) r := by rw [er]; exact (hbad.wr hy hyz hK5 hsep).le (by omega)
                  have hok : gq_ok r = false := by rw [er]; rfl
                  refine mx_il1 d_Lr_readAtom_186 ?_
                  refine mx_is5 d_Lr_readAtom_187 ?_
                  refine mx_lsc (congrArg (fun z9 => ([some (.ref (lr)), some (.int (nI (6 - e))), some (.int (nI (6 - e + n))), some (.int (nI (tq_k f L (tq_b f L (c + n))))), some (.int (nI (0))), some (.int (z9))] : List (Option Value))) ((show nI (6 - e) = nI (6 - e + 0) from rfl))) ?_
                  refine mx_loopX (α := (mx_I)) (N := n) (a0 := K5) (fun k8 z9 => lr_out I z9 lr te f L cs (401 + (e - n) + k8) (gq_wr k8 r)) (ls := fun k8 z9 => [some (.ref (lr)), some (.int (nI (6 - e))), some (.int (nI (6 - e + n))), some (.int (nI (tq_k f L (tq_b f L (c + n))))), some (.int (nI (0))), some (.int (nI (6 - e + k8)))]) (X := fun k8 z9 => (t, S, z9, P, J)) ((by rw [gq_wr_0]; exact hr)) (fun k8 hk8 z9 hinv ih => ?_) (fun z9 hinv => ?_)
                  · skip
                    obtain ⟨K, hz9⟩ : ∃ q, q = z9 := ⟨_, rfl⟩
                    subst hz9
                    try dsimp only at hinv ih ⊢
                    obtain ⟨y, hy, hy5, hw35⟩ := lr_out_35 hinv (fun q hq => by have := hgl q hq; simp only [List.length_append]; omega) (by omega) hsep
                    refine mx_il5 d_Lr_readAtom_189 ?_
                    refine mx_il2 d_Lr_readAtom_191 ?_
                    refine mx_icN_ge 207 d_Lr_readAtom_192 (by decide) (by omega) (by omega) (fun c_192 => absurd c_192 (by omega)) (fun c_192 => ?_)
                    refine mx_al0 d_Lr_readAtom_195 ?_
                    refine mx_bipush (v := -35) d_Lr_readAtom_196 (by decide) ?_
                    refine mx_cV1vR d_Lr_readAtom_198 (c_Lr_write hLr hy (by omega)) ok_Lr_write ml_Lr_84 (by assumption) ⟨rfl, rfl⟩ (by omega) (Nat.le_of_ble_eq_true rfl) (fun K9 hK9 => ?_)
                    refine mx_iN5 d_Lr_readAtom_201 ?_
                    refine mx_goto 189 d_Lr_readAtom_204 (by decide) ?_
                    have e5 : nI (6 - e + k8 + 1) = nI (6 - e + (k8 + 1)) := by rfl
                    refine mx_lsc (congrArg (fun z9 => ([some (.ref (lr)), some (.int (nI (6 - e))), some (.int (nI (6 - e + n))), some (.int (nI (tq_k f L (tq_b f L (c + n))))), some (.int (nI (0))), some (.int (z9))] : List (Option Value))) e5) ?_
                    exact ih K9 (hw35 _ hK9)
                  · skip
                    obtain ⟨K, hz9⟩ : ∃ q, q = z9 := ⟨_, rfl⟩
                    subst hz9
                    try dsimp only at hinv ⊢
                    refine mx_il5 d_Lr_readAtom_189 ?_
                    refine mx_il2 d_Lr_readAtom_191 ?_
                    refine mx_icN_ge 207 d_Lr_readAtom_192 (by decide) (by omega) (by omega) (fun c_192 => ?_) (fun c_192 => absurd c_192 (by omega))
                    refine mx_il4 d_Lr_readAtom_207 ?_
                    exact mx_zret d_Lr_readAtom_209 rfl (by first | exact Or.inl rfl | exact Or.inr rfl) (mx_sR_i (by rw [htl, gq_ok_wr, hok]; rfl) (by rw [htl]; rw [show 401 + e = 401 + (e - n) + n by omega]; exact hinv))
                · skip
                  have hk67 : tK f L q.2 = 6 := Decidable.byContradiction (fun z => by rw [gq_tk_n z] at c_162; cases c_162)
                  rw [gq_tk_y hk67] at hK3
                  have hs := hs.tk hK3 hsep
                  refine mx_al0 d_Lr_readAtom_165 ?_
                  refine mx_cV0iR d_Lr_readAtom_166 (c_Lr_readSum hLr hTe hs.self (by simp only [List.length_append] at *; omega)) ok_Lr_readSum ml_Lr_88 (by assumption) ⟨rfl, rfl⟩ (by omega) (Nat.le_of_ble_eq_true rfl) (fun K4 hK4 => ?_)
                  refine mx_ifB_eq 176 d_Lr_readAtom_169 (by decide) (fun c_169 => ?_) (fun c_169 => ?_)
                  · skip
                    obtain ⟨b, hsum2⟩ := gq_ok_f c_169
                    rw [hsum2] at hK4
                    have hbad := hs.trb hK4
                    obtain ⟨-, -, y, hy, hyz⟩ := id hbad
                    refine mx_in_0 d_Lr_readAtom_176 ?_
                    refine mx_is4 d_Lr_readAtom_177 ?_
                    refine mx_al0 d_Lr_readAtom_179 ?_
                    refine mx_il5 d_Lr_readAtom_180 ?_
                    refine mx_ineg d_Lr_readAtom_182 ?_
                    refine mx_cV1vR d_Lr_readAtom_183 (c_Lr_write hLr hy (by omega)) ok_Lr_write ml_Lr_84 (by assumption) ⟨rfl, rfl⟩ (by omega) (Nat.le_of_ble_eq_true rfl) (fun K5 hK5 => ?_)
                    have er : r = .inl b := hr0.trans (hpl.trans (gq_pln_3 hnm hsum (by omega) hsum2))
                    have hr : lr_out I K5 lr te f L cs (401 + (e - n)) r := by rw [er]; exact (hbad.wr hy hyz hK5 hsep).le (by omega)
                    have hok : gq_ok r = false := by rw [er]; rfl
                    refine mx_il1 d_Lr_readAtom_186 ?_
                    refine mx_is5 d_Lr_readAtom_187 ?_
                    refine mx_lsc (congrArg (fun z9 => ([some (.ref (lr)), some (.int (nI (6 - e))), some (.int (nI (6 - e + n))), some (.int (nI (tq_k f L (tq_b f L (c + n))))), some (.int (nI (0))), some (.int (z9))] : List (Option Value))) ((show nI (6 - e) = nI (6 - e + 0) from rfl))) ?_
                    refine mx_loopX (α := (mx_I)) (N := n) (a0 := K5) (fun k8 z9 => lr_out I z9 lr te f L cs (401 + (e - n) + k8) (gq_wr k8 r)) (ls := fun k8 z9 => [some (.ref (lr)), some (.int (nI (6 - e))), some (.int (nI (6 - e + n))), some (.int (nI (tq_k f L (tq_b f L (c + n))))), some (.int (nI (0))), some (.int (nI (6 - e + k8)))]) (X := fun k8 z9 => (t, S, z9, P, J)) ((by rw [gq_wr_0]; exact hr)) (fun k8 hk8 z9 hinv ih => ?_) (fun z9 hinv => ?_)
                    · skip
                      obtain ⟨K, hz9⟩ : ∃ q, q = z9 := ⟨_, rfl⟩
                      subst hz9
                      try dsimp only at hinv ih ⊢
                      obtain ⟨y, hy, hy5, hw35⟩ := lr_out_35 hinv (fun q hq => by have := hgl q hq; simp only [List.length_append]; omega) (by omega) hsep
                      refine mx_il5 d_Lr_readAtom_189 ?_
                      refine mx_il2 d_Lr_readAtom_191 ?_
                      refine mx_icN_ge 207 d_Lr_readAtom_192 (by decide) (by omega) (by omega) (fun c_192 => absurd c_192 (by omega)) (fun c_192 => ?_)
                      refine mx_al0 d_Lr_readAtom_195 ?_
                      refine mx_bipush (v := -35) d_Lr_readAtom_196 (by decide) ?_
                      refine mx_cV1vR d_Lr_readAtom_198 (c_Lr_write hLr hy (by omega)) ok_Lr_write ml_Lr_84 (by assumption) ⟨rfl, rfl⟩ (by omega) (Nat.le_of_ble_eq_true rfl) (fun K9 hK9 => ?_)
                      refine mx_iN5 d_Lr_readAtom_201 ?_
                      refine mx_goto 189 d_Lr_readAtom_204 (by decide) ?_
                      have e5 : nI (6 - e + k8 + 1) = nI (6 - e + (k8 + 1)) := by rfl
                      refine mx_lsc (congrArg (fun z9 => ([some (.ref (lr)), some (.int (nI (6 - e))), some (.int (nI (6 - e + n))), some (.int (nI (tq_k f L (tq_b f L (c + n))))), some (.int (nI (0))), some (.int (z9))] : List (Option Value))) e5) ?_
                      exact ih K9 (hw35 _ hK9)
                    · skip
                      obtain ⟨K, hz9⟩ : ∃ q, q = z9 := ⟨_, rfl⟩
                      subst hz9
                      try dsimp only at hinv ⊢
                      refine mx_il5 d_Lr_readAtom_189 ?_
                      refine mx_il2 d_Lr_readAtom_191 ?_
                      refine mx_icN_ge 207 d_Lr_readAtom_192 (by decide) (by omega) (by omega) (fun c_192 => ?_) (fun c_192 => absurd c_192 (by omega))
                      refine mx_il4 d_Lr_readAtom_207 ?_
                      exact mx_zret d_Lr_readAtom_209 rfl (by first | exact Or.inl rfl | exact Or.inr rfl) (mx_sR_i (by rw [htl, gq_ok_wr, hok]; rfl) (by rw [htl]; rw [show 401 + e = 401 + (e - n) + n by omega]; exact hinv))
                  · skip
                    obtain ⟨q2, hsum2⟩ := gq_ok_t c_169
                    rw [hsum2] at hK4
                    have hs := hs.tr hK4
                    have hg2 := (gq_go_sum (tK0 rfl)).2.1 _ _ hsum2
                    have hL5 : (cs ++ q.1 ++ q2.1).length < 400 := by simp only [List.length_append]; omega
                    refine mx_in_1 d_Lr_readAtom_172 ?_
                    refine mx_goto 177 d_Lr_readAtom_173 (by decide) ?_
                    refine mx_is4 d_Lr_readAtom_177 ?_
                    refine mx_al0 d_Lr_readAtom_179 ?_
                    refine mx_il5 d_Lr_readAtom_180 ?_
                    refine mx_ineg d_Lr_readAtom_182 ?_
                    refine mx_cV1vR d_Lr_readAtom_183 (c_Lr_write hLr hs.sz (by omega)) ok_Lr_write ml_Lr_84 (by assumption) ⟨rfl, rfl⟩ (by omega) (Nat.le_of_ble_eq_true rfl) (fun K5 hK5 => ?_)
                    have hs := hs.wr hK5 (by omega) hsep
                    have er : r = .inr (q.1 ++ q2.1 ++ [-nI (tK f L q.2)], q2.2) := hr0.trans (hpl.trans (gq_pln_4 hnm hsum (by omega) hsum2))
                    have hr : lr_out I K5 lr te f L cs (401 + (e - n)) r := by rw [er]; exact (by rw [hk67]; simp only [List.append_assoc] at hs ⊢; exact hs)
                    have hok : gq_ok r = true := by rw [er]; rfl
                    refine mx_il1 d_Lr_readAtom_186 ?_
                    refine mx_is5 d_Lr_readAtom_187 ?_
                    refine mx_lsc (congrArg (fun z9 => ([some (.ref (lr)), some (.int (nI (6 - e))), some (.int (nI (6 - e + n))), some (.int (nI (tq_k f L (tq_b f L (c + n))))), some (.int (nI (1))), some (.int (z9))] : List (Option Value))) ((show nI (6 - e) = nI (6 - e + 0) from rfl))) ?_
                    refine mx_loopX (α := (mx_I)) (N := n) (a0 := K5) (fun k8 z9 => lr_out I z9 lr te f L cs (401 + (e - n) + k8) (gq_wr k8 r)) (ls := fun k8 z9 => [some (.ref (lr)), some (.int (nI (6 - e))), some (.int (nI (6 - e + n))), some (.int (nI (tq_k f L (tq_b f L (c + n))))), some (.int (nI (1))), some (.int (nI (6 - e + k8)))]) (X := fun k8 z9 => (t, S, z9, P, J)) ((by rw [gq_wr_0]; exact hr)) (fun k8 hk8 z9 hinv ih => ?_) (fun z9 hinv => ?_)
                    · skip
                      obtain ⟨K, hz9⟩ : ∃ q, q = z9 := ⟨_, rfl⟩
                      subst hz9
                      try dsimp only at hinv ih ⊢
                      obtain ⟨y, hy, hy5, hw35⟩ := lr_out_35 hinv (fun q hq => by have := hgl q hq; simp only [List.length_append]; omega) (by omega) hsep
                      refine mx_il5 d_Lr_readAtom_189 ?_
                      refine mx_il2 d_Lr_readAtom_191 ?_
                      refine mx_icN_ge 207 d_Lr_readAtom_192 (by decide) (by omega) (by omega) (fun c_192 => absurd c_192 (by omega)) (fun c_192 => ?_)
                      refine mx_al0 d_Lr_readAtom_195 ?_
                      refine mx_bipush (v := -35) d_Lr_readAtom_196 (by decide) ?_
                      refine mx_cV1vR d_Lr_readAtom_198 (c_Lr_write hLr hy (by omega)) ok_Lr_write ml_Lr_84 (by assumption) ⟨rfl, rfl⟩ (by omega) (Nat.le_of_ble_eq_true rfl) (fun K9 hK9 => ?_)
                      refine mx_iN5 d_Lr_readAtom_201 ?_
                      refine mx_goto 189 d_Lr_readAtom_204 (by decide) ?_
                      have e5 : nI (6 - e + k8 + 1) = nI (6 - e + (k8 + 1)) := by rfl
                      refine mx_lsc (congrArg (fun z9 => ([some (.ref (lr)), some (.int (nI (6 - e))), some (.int (nI (6 - e + n))), some (.int (nI (tq_k f L (tq_b f L (c + n))))), some (.int (nI (1))), some (.int (z9))] : List (Option Value))) e5) ?_
                      exact ih K9 (hw35 _ hK9)
                    · skip
                      obtain ⟨K, hz9⟩ : ∃ q, q = z9 := ⟨_, rfl⟩
                      subst hz9
                      try dsimp only at hinv ⊢
                      refine mx_il5 d_Lr_readAtom_189 ?_
                      refine mx_il2 d_Lr_readAtom_191 ?_
                      refine mx_icN_ge 207 d_Lr_readAtom_192 (by decide) (by omega) (by omega) (fun c_192 => ?_) (fun c_192 => absurd c_192 (by omega))
                      refine mx_il4 d_Lr_readAtom_207 ?_
                      exact mx_zret d_Lr_readAtom_209 rfl (by first | exact Or.inl rfl | exact Or.inr rfl) (mx_sR_i (by rw [htl, gq_ok_wr, hok]; rfl) (by rw [htl]; rw [show 401 + e = 401 + (e - n) + n by omega]; exact hinv))
            · skip
              refine mx_bip 7 d_Lr_readAtom_139 (by decide) ?_
              refine mx_goto 146 d_Lr_readAtom_141 (by decide) ?_
              refine mx_is5 d_Lr_readAtom_146 ?_
              refine mx_il4 d_Lr_readAtom_148 ?_
              refine mx_ifB_eq 176 d_Lr_readAtom_150 (by decide) (fun c_150 => ?_) (fun c_150 => ?_)
              · skip
                obtain ⟨b, hsum⟩ := gq_ok_f c_150
                rw [hsum] at hK2
                have hbad := hs.trb hK2
                obtain ⟨-, -, y, hy, hyz⟩ := id hbad
                refine mx_in_0 d_Lr_readAtom_176 ?_
                refine mx_is4 d_Lr_readAtom_177 ?_
                refine mx_al0 d_Lr_readAtom_179 ?_
                refine mx_il5 d_Lr_readAtom_180 ?_
                refine mx_ineg d_Lr_readAtom_182 ?_
                refine mx_cV1vR d_Lr_readAtom_183 (c_Lr_write hLr hy (by omega)) ok_Lr_write ml_Lr_84 (by assumption) ⟨rfl, rfl⟩ (by omega) (Nat.le_of_ble_eq_true rfl) (fun K5 hK5 => ?_)
                have er : r = .inl b := hr0.trans (hpl.trans (gq_pln_1 hnm hsum))
                have hr : lr_out I K5 lr te f L cs (401 + (e - n)) r := by rw [er]; exact (hbad.wr hy hyz hK5 hsep).le (by omega)
                have hok : gq_ok r = false := by rw [er]; rfl
                refine mx_il1 d_Lr_readAtom_186 ?_
                refine mx_is5 d_Lr_readAtom_187 ?_
                refine mx_lsc (congrArg (fun z9 => ([some (.ref (lr)), some (.int (nI (6 - e))), some (.int (nI (6 - e + n))), some (.int (nI (tq_k f L (tq_b f L (c + n))))), some (.int (nI (0))), some (.int (z9))] : List (Option Value))) ((show nI (6 - e) = nI (6 - e + 0) from rfl))) ?_
                refine mx_loopX (α := (mx_I)) (N := n) (a0 := K5) (fun k8 z9 => lr_out I z9 lr te f L cs (401 + (e - n) + k8) (gq_wr k8 r)) (ls := fun k8 z9 => [some (.ref (lr)), some (.int (nI (6 - e))), some (.int (nI (6 - e + n))), some (.int (nI (tq_k f L (tq_b f L (c + n))))), some (.int (nI (0))), some (.int (nI (6 - e + k8)))]) (X := fun k8 z9 => (t, S, z9, P, J)) ((by rw [gq_wr_0]; exact hr)) (fun k8 hk8 z9 hinv ih => ?_) (fun z9 hinv => ?_)
                · skip
                  obtain ⟨K, hz9⟩ : ∃ q, q = z9 := ⟨_, rfl⟩
                  subst hz9
                  try dsimp only at hinv ih ⊢
                  obtain ⟨y, hy, hy5, hw35⟩ := lr_out_35 hinv (fun q hq => by have := hgl q hq; simp only [List.length_append]; omega) (by omega) hsep
                  refine mx_il5 d_Lr_readAtom_189 ?_
                  refine mx_il2 d_Lr_readAtom_191 ?_
                  refine mx_icN_ge 207 d_Lr_readAtom_192 (by decide) (by omega) (by omega) (fun c_192 => absurd c_192 (by omega)) (fun c_192 => ?_)
                  refine mx_al0 d_Lr_readAtom_195 ?_
                  refine mx_bipush (v := -35) d_Lr_readAtom_196 (by decide) ?_
                  refine mx_cV1vR d_Lr_readAtom_198 (c_Lr_write hLr hy (by omega)) ok_Lr_write ml_Lr_84 (by assumption) ⟨rfl, rfl⟩ (by omega) (Nat.le_of_ble_eq_true rfl) (fun K9 hK9 => ?_)
                  refine mx_iN5 d_Lr_readAtom_201 ?_
                  refine mx_goto 189 d_Lr_readAtom_204 (by decide) ?_
                  have e5 : nI (6 - e + k8 + 1) = nI (6 - e + (k8 + 1)) := by rfl
                  refine mx_lsc (congrArg (fun z9 => ([some (.ref (lr)), some (.int (nI (6 - e))), some (.int (nI (6 - e + n))), some (.int (nI (tq_k f L (tq_b f L (c + n))))), some (.int (nI (0))), some (.int (z9))] : List (Option Value))) e5) ?_
                  exact ih K9 (hw35 _ hK9)
                · skip
                  obtain ⟨K, hz9⟩ : ∃ q, q = z9 := ⟨_, rfl⟩
                  subst hz9
                  try dsimp only at hinv ⊢
                  refine mx_il5 d_Lr_readAtom_189 ?_
                  refine mx_il2 d_Lr_readAtom_191 ?_
                  refine mx_icN_ge 207 d_Lr_readAtom_192 (by decide) (by omega) (by omega) (fun c_192 => ?_) (fun c_192 => absurd c_192 (by omega))
                  refine mx_il4 d_Lr_readAtom_207 ?_
                  exact mx_zret d_Lr_readAtom_209 rfl (by first | exact Or.inl rfl | exact Or.inr rfl) (mx_sR_i (by rw [htl, gq_ok_wr, hok]; rfl) (by rw [htl]; rw [show 401 + e = 401 + (e - n) + n by omega]; exact hinv))
              · skip
                obtain ⟨q, hsum⟩ := gq_ok_t c_150
                rw [hsum] at hK2
                have hs := hs.tr hK2
                have h29 := hs.cur.2.1
                have hg1 := (gq_go_sum (tK0 rfl)).2.1 _ _ hsum
                refine mx_al0 d_Lr_readAtom_153 ?_
                refine mx_getR d_Lr_readAtom_154 fl_Lr_24 (by assumption) (by assumption) ?_
                refine mx_il5 d_Lr_readAtom_157 ?_
                refine mx_cV1iR d_Lr_readAtom_159 (c_Te_takes hTe hs.tok hs.cur (w := 7) (by omega) (by omega)) ok_Te_takes ml_Lr_56 (by assumption) ⟨rfl, rfl⟩ (by omega) (Nat.le_of_ble_eq_true rfl) (fun K3 hK3 => ?_)
                refine mx_ifB_eq 176 d_Lr_readAtom_162 (by decide) (fun c_162 => ?_) (fun c_162 => ?_)
                · skip
                  have hk7 : ¬ tK f L q.2 = 7 := fun z => by rw [gq_tk_y z] at c_162; cases c_162
                  have e7 : nI (tq_k f L (tq_b f L q.2)) = nI 7 := h29.symm.trans c_136
                  exact absurd ((nI_eq (by have := tq_k_lt f L (tq_b f L q.2); omega) (by omega)).mp e7) hk7
                · skip
                  have hk67 : tK f L q.2 = 7 := Decidable.byContradiction (fun z => by rw [gq_tk_n z] at c_162; cases c_162)
                  rw [gq_tk_y hk67] at hK3
                  have hs := hs.tk hK3 hsep
                  refine mx_al0 d_Lr_readAtom_165 ?_
                  refine mx_cV0iR d_Lr_readAtom_166 (c_Lr_readSum hLr hTe hs.self (by simp only [List.length_append] at *; omega)) ok_Lr_readSum ml_Lr_88 (by assumption) ⟨rfl, rfl⟩ (by omega) (Nat.le_of_ble_eq_true rfl) (fun K4 hK4 => ?_)
                  refine mx_ifB_eq 176 d_Lr_readAtom_169 (by decide) (fun c_169 => ?_) (fun c_169 => ?_)
                  · skip
                    obtain ⟨b, hsum2⟩ := gq_ok_f c_169
                    rw [hsum2] at hK4
                    have hbad := hs.trb hK4
                    obtain ⟨-, -, y, hy, hyz⟩ := id hbad
                    refine mx_in_0 d_Lr_readAtom_176 ?_
                    refine mx_is4 d_Lr_readAtom_177 ?_
                    refine mx_al0 d_Lr_readAtom_179 ?_
                    refine mx_il5 d_Lr_readAtom_180 ?_
                    refine mx_ineg d_Lr_readAtom_182 ?_
                    refine mx_cV1vR d_Lr_readAtom_183 (c_Lr_write hLr hy (by omega)) ok_Lr_write ml_Lr_84 (by assumption) ⟨rfl, rfl⟩ (by omega) (Nat.le_of_ble_eq_true rfl) (fun K5 hK5 => ?_)
                    have er : r = .inl b := hr0.trans (hpl.trans (gq_pln_3 hnm hsum (by omega) hsum2))
                    have hr : lr_out I K5 lr te f L cs (401 + (e - n)) r := by rw [er]; exact (hbad.wr hy hyz hK5 hsep).le (by omega)
                    have hok : gq_ok r = false := by rw [er]; rfl
                    refine mx_il1 d_Lr_readAtom_186 ?_
                    refine mx_is5 d_Lr_readAtom_187 ?_
                    refine mx_lsc (congrArg (fun z9 => ([some (.ref (lr)), some (.int (nI (6 - e))), some (.int (nI (6 - e + n))), some (.int (nI (tq_k f L (tq_b f L (c + n))))), some (.int (nI (0))), some (.int (z9))] : List (Option Value))) ((show nI (6 - e) = nI (6 - e + 0) from rfl))) ?_
                    refine mx_loopX (α := (mx_I)) (N := n) (a0 := K5) (fun k8 z9 => lr_out I z9 lr te f L cs (401 + (e - n) + k8) (gq_wr k8 r)) (ls := fun k8 z9 => [some (.ref (lr)), some (.int (nI (6 - e))), some (.int (nI (6 - e + n))), some (.int (nI (tq_k f L (tq_b f L (c + n))))), some (.int (nI (0))), some (.int (nI (6 - e + k8)))]) (X := fun k8 z9 => (t, S, z9, P, J)) ((by rw [gq_wr_0]; exact hr)) (fun k8 hk8 z9 hinv ih => ?_) (fun z9 hinv => ?_)
                    · skip
                      obtain ⟨K, hz9⟩ : ∃ q, q = z9 := ⟨_, rfl⟩
                      subst hz9
                      try dsimp only at hinv ih ⊢
                      obtain ⟨y, hy, hy5, hw35⟩ := lr_out_35 hinv (fun q hq => by have := hgl q hq; simp only [List.length_append]; omega) (by omega) hsep
                      refine mx_il5 d_Lr_readAtom_189 ?_
                      refine mx_il2 d_Lr_readAtom_191 ?_
                      refine mx_icN_ge 207 d_Lr_readAtom_192 (by decide) (by omega) (by omega) (fun c_192 => absurd c_192 (by omega)) (fun c_192 => ?_)
                      refine mx_al0 d_Lr_readAtom_195 ?_
                      refine mx_bipush (v := -35) d_Lr_readAtom_196 (by decide) ?_
                      refine mx_cV1vR d_Lr_readAtom_198 (c_Lr_write hLr hy (by omega)) ok_Lr_write ml_Lr_84 (by assumption) ⟨rfl, rfl⟩ (by omega) (Nat.le_of_ble_eq_true rfl) (fun K9 hK9 => ?_)
                      refine mx_iN5 d_Lr_readAtom_201 ?_
                      refine mx_goto 189 d_Lr_readAtom_204 (by decide) ?_
                      have e5 : nI (6 - e + k8 + 1) = nI (6 - e + (k8 + 1)) := by rfl
                      refine mx_lsc (congrArg (fun z9 => ([some (.ref (lr)), some (.int (nI (6 - e))), some (.int (nI (6 - e + n))), some (.int (nI (tq_k f L (tq_b f L (c + n))))), some (.int (nI (0))), some (.int (z9))] : List (Option Value))) e5) ?_
                      exact ih K9 (hw35 _ hK9)
                    · skip
                      obtain ⟨K, hz9⟩ : ∃ q, q = z9 := ⟨_, rfl⟩
                      subst hz9
                      try dsimp only at hinv ⊢
                      refine mx_il5 d_Lr_readAtom_189 ?_
                      refine mx_il2 d_Lr_readAtom_191 ?_
                      refine mx_icN_ge 207 d_Lr_readAtom_192 (by decide) (by omega) (by omega) (fun c_192 => ?_) (fun c_192 => absurd c_192 (by omega))
                      refine mx_il4 d_Lr_readAtom_207 ?_
                      exact mx_zret d_Lr_readAtom_209 rfl (by first | exact Or.inl rfl | exact Or.inr rfl) (mx_sR_i (by rw [htl, gq_ok_wr, hok]; rfl) (by rw [htl]; rw [show 401 + e = 401 + (e - n) + n by omega]; exact hinv))
                  · skip
                    obtain ⟨q2, hsum2⟩ := gq_ok_t c_169
                    rw [hsum2] at hK4
                    have hs := hs.tr hK4
                    have hg2 := (gq_go_sum (tK0 rfl)).2.1 _ _ hsum2
                    have hL5 : (cs ++ q.1 ++ q2.1).length < 400 := by simp only [List.length_append]; omega
                    refine mx_in_1 d_Lr_readAtom_172 ?_
                    refine mx_goto 177 d_Lr_readAtom_173 (by decide) ?_
                    refine mx_is4 d_Lr_readAtom_177 ?_
                    refine mx_al0 d_Lr_readAtom_179 ?_
                    refine mx_il5 d_Lr_readAtom_180 ?_
                    refine mx_ineg d_Lr_readAtom_182 ?_
                    refine mx_cV1vR d_Lr_readAtom_183 (c_Lr_write hLr hs.sz (by omega)) ok_Lr_write ml_Lr_84 (by assumption) ⟨rfl, rfl⟩ (by omega) (Nat.le_of_ble_eq_true rfl) (fun K5 hK5 => ?_)
                    have hs := hs.wr hK5 (by omega) hsep
                    have er : r = .inr (q.1 ++ q2.1 ++ [-nI (tK f L q.2)], q2.2) := hr0.trans (hpl.trans (gq_pln_4 hnm hsum (by omega) hsum2))
                    have hr : lr_out I K5 lr te f L cs (401 + (e - n)) r := by rw [er]; exact (by rw [hk67]; simp only [List.append_assoc] at hs ⊢; exact hs)
                    have hok : gq_ok r = true := by rw [er]; rfl
                    refine mx_il1 d_Lr_readAtom_186 ?_
                    refine mx_is5 d_Lr_readAtom_187 ?_
                    refine mx_lsc (congrArg (fun z9 => ([some (.ref (lr)), some (.int (nI (6 - e))), some (.int (nI (6 - e + n))), some (.int (nI (tq_k f L (tq_b f L (c + n))))), some (.int (nI (1))), some (.int (z9))] : List (Option Value))) ((show nI (6 - e) = nI (6 - e + 0) from rfl))) ?_
                    refine mx_loopX (α := (mx_I)) (N := n) (a0 := K5) (fun k8 z9 => lr_out I z9 lr te f L cs (401 + (e - n) + k8) (gq_wr k8 r)) (ls := fun k8 z9 => [some (.ref (lr)), some (.int (nI (6 - e))), some (.int (nI (6 - e + n))), some (.int (nI (tq_k f L (tq_b f L (c + n))))), some (.int (nI (1))), some (.int (nI (6 - e + k8)))]) (X := fun k8 z9 => (t, S, z9, P, J)) ((by rw [gq_wr_0]; exact hr)) (fun k8 hk8 z9 hinv ih => ?_) (fun z9 hinv => ?_)
                    · skip
                      obtain ⟨K, hz9⟩ : ∃ q, q = z9 := ⟨_, rfl⟩
                      subst hz9
                      try dsimp only at hinv ih ⊢
                      obtain ⟨y, hy, hy5, hw35⟩ := lr_out_35 hinv (fun q hq => by have := hgl q hq; simp only [List.length_append]; omega) (by omega) hsep
                      refine mx_il5 d_Lr_readAtom_189 ?_
                      refine mx_il2 d_Lr_readAtom_191 ?_
                      refine mx_icN_ge 207 d_Lr_readAtom_192 (by decide) (by omega) (by omega) (fun c_192 => absurd c_192 (by omega)) (fun c_192 => ?_)
                      refine mx_al0 d_Lr_readAtom_195 ?_
                      refine mx_bipush (v := -35) d_Lr_readAtom_196 (by decide) ?_
                      refine mx_cV1vR d_Lr_readAtom_198 (c_Lr_write hLr hy (by omega)) ok_Lr_write ml_Lr_84 (by assumption) ⟨rfl, rfl⟩ (by omega) (Nat.le_of_ble_eq_true rfl) (fun K9 hK9 => ?_)
                      refine mx_iN5 d_Lr_readAtom_201 ?_
                      refine mx_goto 189 d_Lr_readAtom_204 (by decide) ?_
                      have e5 : nI (6 - e + k8 + 1) = nI (6 - e + (k8 + 1)) := by rfl
                      refine mx_lsc (congrArg (fun z9 => ([some (.ref (lr)), some (.int (nI (6 - e))), some (.int (nI (6 - e + n))), some (.int (nI (tq_k f L (tq_b f L (c + n))))), some (.int (nI (1))), some (.int (z9))] : List (Option Value))) e5) ?_
                      exact ih K9 (hw35 _ hK9)
                    · skip
                      obtain ⟨K, hz9⟩ : ∃ q, q = z9 := ⟨_, rfl⟩
                      subst hz9
                      try dsimp only at hinv ⊢
                      refine mx_il5 d_Lr_readAtom_189 ?_
                      refine mx_il2 d_Lr_readAtom_191 ?_
                      refine mx_icN_ge 207 d_Lr_readAtom_192 (by decide) (by omega) (by omega) (fun c_192 => ?_) (fun c_192 => absurd c_192 (by omega))
                      refine mx_il4 d_Lr_readAtom_207 ?_
                      exact mx_zret d_Lr_readAtom_209 rfl (by first | exact Or.inl rfl | exact Or.inr rfl) (mx_sR_i (by rw [htl, gq_ok_wr, hok]; rfl) (by rw [htl]; rw [show 401 + e = 401 + (e - n) + n by omega]; exact hinv))
          · skip
            have hm : tK f L (c + n) = 17 ∨ tK f L (c + n) = 18 := Or.inr c_99
            refine mx_al0 d_Lr_readAtom_102 ?_
            refine mx_getR d_Lr_readAtom_103 fl_Lr_24 (by assumption) (by assumption) ?_
            refine mx_cV0vR d_Lr_readAtom_106 (c_Te_nextR hTe hs.tok hs.cur (tK_T (by show ¬ tq_k f L (tq_b f L (c + n)) = 0; omega))) ok_Te_next ml_Lr_63 (by assumption) ⟨rfl, rfl⟩ (by omega) (Nat.le_of_ble_eq_true rfl) (fun K1 hK1 => ?_)
            have hs := hs.tk hK1 hsep
            refine mx_al0 d_Lr_readAtom_109 ?_
            refine mx_il3 d_Lr_readAtom_110 ?_
            refine mx_ineg d_Lr_readAtom_111 ?_
            refine mx_cV1vR d_Lr_readAtom_112 (c_Lr_write hLr hs.sz (by omega)) ok_Lr_write ml_Lr_84 (by assumption) ⟨rfl, rfl⟩ (by omega) (Nat.le_of_ble_eq_true rfl) (fun K2 hK2 => ?_)
            have hs := hs.wr hK2 (by have := hs.cur.2.2; omega) hsep
            have er : r = .inr ([-nI (tK f L (c + n))], c + n + 1) := hr0.trans (hpl.trans (gq_pln_0 hm))
            have hr : lr_out I K2 lr te f L cs (401 + (e - n)) r := by rw [er]; exact hs
            have hok : gq_ok r = true := by rw [er]; rfl
            refine mx_in_1 d_Lr_readAtom_115 ?_
            refine mx_is4 d_Lr_readAtom_116 ?_
            refine mx_goto 186 d_Lr_readAtom_118 (by decide) ?_
            refine mx_il1 d_Lr_readAtom_186 ?_
            refine mx_is5 d_Lr_readAtom_187 ?_
            refine mx_lsc (congrArg (fun z9 => ([some (.ref (lr)), some (.int (nI (6 - e))), some (.int (nI (6 - e + n))), some (.int (nI (tq_k f L (tq_b f L (c + n))))), some (.int (nI (1))), some (.int (z9))] : List (Option Value))) ((show nI (6 - e) = nI (6 - e + 0) from rfl))) ?_
            refine mx_loopX (α := (mx_I)) (N := n) (a0 := K2) (fun k8 z9 => lr_out I z9 lr te f L cs (401 + (e - n) + k8) (gq_wr k8 r)) (ls := fun k8 z9 => [some (.ref (lr)), some (.int (nI (6 - e))), some (.int (nI (6 - e + n))), some (.int (nI (tq_k f L (tq_b f L (c + n))))), some (.int (nI (1))), some (.int (nI (6 - e + k8)))]) (X := fun k8 z9 => (t, S, z9, P, J)) ((by rw [gq_wr_0]; exact hr)) (fun k8 hk8 z9 hinv ih => ?_) (fun z9 hinv => ?_)
            · skip
              obtain ⟨K, hz9⟩ : ∃ q, q = z9 := ⟨_, rfl⟩
              subst hz9
              try dsimp only at hinv ih ⊢
              obtain ⟨y, hy, hy5, hw35⟩ := lr_out_35 hinv (fun q hq => by have := hgl q hq; simp only [List.length_append]; omega) (by omega) hsep
              refine mx_il5 d_Lr_readAtom_189 ?_
              refine mx_il2 d_Lr_readAtom_191 ?_
              refine mx_icN_ge 207 d_Lr_readAtom_192 (by decide) (by omega) (by omega) (fun c_192 => absurd c_192 (by omega)) (fun c_192 => ?_)
              refine mx_al0 d_Lr_readAtom_195 ?_
              refine mx_bipush (v := -35) d_Lr_readAtom_196 (by decide) ?_
              refine mx_cV1vR d_Lr_readAtom_198 (c_Lr_write hLr hy (by omega)) ok_Lr_write ml_Lr_84 (by assumption) ⟨rfl, rfl⟩ (by omega) (Nat.le_of_ble_eq_true rfl) (fun K9 hK9 => ?_)
              refine mx_iN5 d_Lr_readAtom_201 ?_
              refine mx_goto 189 d_Lr_readAtom_204 (by decide) ?_
              have e5 : nI (6 - e + k8 + 1) = nI (6 - e + (k8 + 1)) := by rfl
              refine mx_lsc (congrArg (fun z9 => ([some (.ref (lr)), some (.int (nI (6 - e))), some (.int (nI (6 - e + n))), some (.int (nI (tq_k f L (tq_b f L (c + n))))), some (.int (nI (1))), some (.int (z9))] : List (Option Value))) e5) ?_
              exact ih K9 (hw35 _ hK9)
            · skip
              obtain ⟨K, hz9⟩ : ∃ q, q = z9 := ⟨_, rfl⟩
              subst hz9
              try dsimp only at hinv ⊢
              refine mx_il5 d_Lr_readAtom_189 ?_
              refine mx_il2 d_Lr_readAtom_191 ?_
              refine mx_icN_ge 207 d_Lr_readAtom_192 (by decide) (by omega) (by omega) (fun c_192 => ?_) (fun c_192 => absurd c_192 (by omega))
              refine mx_il4 d_Lr_readAtom_207 ?_
              exact mx_zret d_Lr_readAtom_209 rfl (by first | exact Or.inl rfl | exact Or.inr rfl) (mx_sR_i (by rw [htl, gq_ok_wr, hok]; rfl) (by rw [htl]; rw [show 401 + e = 401 + (e - n) + n by omega]; exact hinv))
      · skip
        refine mx_il2 d_Lr_readAtom_46 ?_
        refine mx_bip 6 d_Lr_readAtom_47 (by decide) ?_
        refine mx_icN_ge 90 d_Lr_readAtom_49 (by decide) (by omega) (by omega) (fun c_49 => ?_) (fun c_49 => ?_)
        · skip
          have hpl : gq_tl (tK f L) (tV f L) (e - n) (c + n) = gq_pln (tK f L) (tV f L) (c + n) := gq_tl_4 (fun z => by have z1 : tq_k f L (tq_b f L (c + n)) = 4 := z.1; omega)
          refine mx_il3 d_Lr_readAtom_90 ?_
          refine mx_bip 17 d_Lr_readAtom_91 (by decide) ?_
          refine mx_icN_eq 102 d_Lr_readAtom_93 (by decide) (by omega) (by omega) (fun c_93 => ?_) (fun c_93 => ?_)
          · skip
            have hm : tK f L (c + n) = 17 ∨ tK f L (c + n) = 18 := Or.inl c_93
            refine mx_al0 d_Lr_readAtom_102 ?_
            refine mx_getR d_Lr_readAtom_103 fl_Lr_24 (by assumption) (by assumption) ?_
            refine mx_cV0vR d_Lr_readAtom_106 (c_Te_nextR hTe hs.tok hs.cur (tK_T (by show ¬ tq_k f L (tq_b f L (c + n)) = 0; omega))) ok_Te_next ml_Lr_63 (by assumption) ⟨rfl, rfl⟩ (by omega) (Nat.le_of_ble_eq_true rfl) (fun K1 hK1 => ?_)
            have hs := hs.tk hK1 hsep
            refine mx_al0 d_Lr_readAtom_109 ?_
            refine mx_il3 d_Lr_readAtom_110 ?_
            refine mx_ineg d_Lr_readAtom_111 ?_
            refine mx_cV1vR d_Lr_readAtom_112 (c_Lr_write hLr hs.sz (by omega)) ok_Lr_write ml_Lr_84 (by assumption) ⟨rfl, rfl⟩ (by omega) (Nat.le_of_ble_eq_true rfl) (fun K2 hK2 => ?_)
            have hs := hs.wr hK2 (by have := hs.cur.2.2; omega) hsep
            have er : r = .inr ([-nI (tK f L (c + n))], c + n + 1) := hr0.trans (hpl.trans (gq_pln_0 hm))
            have hr : lr_out I K2 lr te f L cs (401 + (e - n)) r := by rw [er]; exact hs
            have hok : gq_ok r = true := by rw [er]; rfl
            refine mx_in_1 d_Lr_readAtom_115 ?_
            refine mx_is4 d_Lr_readAtom_116 ?_
            refine mx_goto 186 d_Lr_readAtom_118 (by decide) ?_
            refine mx_il1 d_Lr_readAtom_186 ?_
            refine mx_is5 d_Lr_readAtom_187 ?_
            refine mx_lsc (congrArg (fun z9 => ([some (.ref (lr)), some (.int (nI (6 - e))), some (.int (nI (6 - e + n))), some (.int (nI (tq_k f L (tq_b f L (c + n))))), some (.int (nI (1))), some (.int (z9))] : List (Option Value))) ((show nI (6 - e) = nI (6 - e + 0) from rfl))) ?_
            refine mx_loopX (α := (mx_I)) (N := n) (a0 := K2) (fun k8 z9 => lr_out I z9 lr te f L cs (401 + (e - n) + k8) (gq_wr k8 r)) (ls := fun k8 z9 => [some (.ref (lr)), some (.int (nI (6 - e))), some (.int (nI (6 - e + n))), some (.int (nI (tq_k f L (tq_b f L (c + n))))), some (.int (nI (1))), some (.int (nI (6 - e + k8)))]) (X := fun k8 z9 => (t, S, z9, P, J)) ((by rw [gq_wr_0]; exact hr)) (fun k8 hk8 z9 hinv ih => ?_) (fun z9 hinv => ?_)
            · skip
              obtain ⟨K, hz9⟩ : ∃ q, q = z9 := ⟨_, rfl⟩
              subst hz9
              try dsimp only at hinv ih ⊢
              obtain ⟨y, hy, hy5, hw35⟩ := lr_out_35 hinv (fun q hq => by have := hgl q hq; simp only [List.length_append]; omega) (by omega) hsep
              refine mx_il5 d_Lr_readAtom_189 ?_
              refine mx_il2 d_Lr_readAtom_191 ?_
              refine mx_icN_ge 207 d_Lr_readAtom_192 (by decide) (by omega) (by omega) (fun c_192 => absurd c_192 (by omega)) (fun c_192 => ?_)
              refine mx_al0 d_Lr_readAtom_195 ?_
              refine mx_bipush (v := -35) d_Lr_readAtom_196 (by decide) ?_
              refine mx_cV1vR d_Lr_readAtom_198 (c_Lr_write hLr hy (by omega)) ok_Lr_write ml_Lr_84 (by assumption) ⟨rfl, rfl⟩ (by omega) (Nat.le_of_ble_eq_true rfl) (fun K9 hK9 => ?_)
              refine mx_iN5 d_Lr_readAtom_201 ?_
              refine mx_goto 189 d_Lr_readAtom_204 (by decide) ?_
              have e5 : nI (6 - e + k8 + 1) = nI (6 - e + (k8 + 1)) := by rfl
              refine mx_lsc (congrArg (fun z9 => ([some (.ref (lr)), some (.int (nI (6 - e))), some (.int (nI (6 - e + n))), some (.int (nI (tq_k f L (tq_b f L (c + n))))), some (.int (nI (1))), some (.int (z9))] : List (Option Value))) e5) ?_
              exact ih K9 (hw35 _ hK9)
            · skip
              obtain ⟨K, hz9⟩ : ∃ q, q = z9 := ⟨_, rfl⟩
              subst hz9
              try dsimp only at hinv ⊢
              refine mx_il5 d_Lr_readAtom_189 ?_
              refine mx_il2 d_Lr_readAtom_191 ?_
              refine mx_icN_ge 207 d_Lr_readAtom_192 (by decide) (by omega) (by omega) (fun c_192 => ?_) (fun c_192 => absurd c_192 (by omega))
              refine mx_il4 d_Lr_readAtom_207 ?_
              exact mx_zret d_Lr_readAtom_209 rfl (by first | exact Or.inl rfl | exact Or.inr rfl) (mx_sR_i (by rw [htl, gq_ok_wr, hok]; rfl) (by rw [htl]; rw [show 401 + e = 401 + (e - n) + n by omega]; exact hinv))
          · skip
            refine mx_il3 d_Lr_readAtom_96 ?_
            refine mx_bip 18 d_Lr_readAtom_97 (by decide) ?_
            refine mx_icN_ne 121 d_Lr_readAtom_99 (by decide) (by omega) (by omega) (fun c_99 => ?_) (fun c_99 => ?_)
            · skip
              have hnm : ¬ (tK f L (c + n) = 17 ∨ tK f L (c + n) = 18) := fun z => z.elim c_93 c_99
              refine mx_al0 d_Lr_readAtom_121 ?_
              refine mx_cV0iR d_Lr_readAtom_122 (c_Lr_readSum hLr hTe hs.self (by omega)) ok_Lr_readSum ml_Lr_88 (by assumption) ⟨rfl, rfl⟩ (by omega) (Nat.le_of_ble_eq_true rfl) (fun K2 hK2 => ?_)
              refine mx_is4 d_Lr_readAtom_125 ?_
              refine mx_al0 d_Lr_readAtom_127 ?_
              refine mx_getR d_Lr_readAtom_128 fl_Lr_24 (by assumption) (by assumption) ?_
              refine mx_getI d_Lr_readAtom_131 fl_Lr_49 (by assumption) ?_
              refine mx_bip 7 d_Lr_readAtom_134 (by decide) ?_
              refine mx_icmp_ne 144 d_Lr_readAtom_136 (by decide) (fun c_136 => ?_) (fun c_136 => ?_)
              · skip
                refine mx_bip 6 d_Lr_readAtom_144 (by decide) ?_
                refine mx_is5 d_Lr_readAtom_146 ?_
                refine mx_il4 d_Lr_readAtom_148 ?_
                refine mx_ifB_eq 176 d_Lr_readAtom_150 (by decide) (fun c_150 => ?_) (fun c_150 => ?_)
                · skip
                  obtain ⟨b, hsum⟩ := gq_ok_f c_150
                  rw [hsum] at hK2
                  have hbad := hs.trb hK2
                  obtain ⟨-, -, y, hy, hyz⟩ := id hbad
                  refine mx_in_0 d_Lr_readAtom_176 ?_
                  refine mx_is4 d_Lr_readAtom_177 ?_
                  refine mx_al0 d_Lr_readAtom_179 ?_
                  refine mx_il5 d_Lr_readAtom_180 ?_
                  refine mx_ineg d_Lr_readAtom_182 ?_
                  refine mx_cV1vR d_Lr_readAtom_183 (c_Lr_write hLr hy (by omega)) ok_Lr_write ml_Lr_84 (by assumption) ⟨rfl, rfl⟩ (by omega) (Nat.le_of_ble_eq_true rfl) (fun K5 hK5 => ?_)
                  have er : r = .inl b := hr0.trans (hpl.trans (gq_pln_1 hnm hsum))
                  have hr : lr_out I K5 lr te f L cs (401 + (e - n)) r := by rw [er]; exact (hbad.wr hy hyz hK5 hsep).le (by omega)
                  have hok : gq_ok r = false := by rw [er]; rfl
                  refine mx_il1 d_Lr_readAtom_186 ?_
                  refine mx_is5 d_Lr_readAtom_187 ?_
                  refine mx_lsc (congrArg (fun z9 => ([some (.ref (lr)), some (.int (nI (6 - e))), some (.int (nI (6 - e + n))), some (.int (nI (tq_k f L (tq_b f L (c + n))))), some (.int (nI (0))), some (.int (z9))] : List (Option Value))) ((show nI (6 - e) = nI (6 - e + 0) from rfl))) ?_
                  refine mx_loopX (α := (mx_I)) (N := n) (a0 := K5) (fun k8 z9 => lr_out I z9 lr te f L cs (401 + (e - n) + k8) (gq_wr k8 r)) (ls := fun k8 z9 => [some (.ref (lr)), some (.int (nI (6 - e))), some (.int (nI (6 - e + n))), some (.int (nI (tq_k f L (tq_b f L (c + n))))), some (.int (nI (0))), some (.int (nI (6 - e + k8)))]) (X := fun k8 z9 => (t, S, z9, P, J)) ((by rw [gq_wr_0]; exact hr)) (fun k8 hk8 z9 hinv ih => ?_) (fun z9 hinv => ?_)
                  · skip
                    obtain ⟨K, hz9⟩ : ∃ q, q = z9 := ⟨_, rfl⟩
                    subst hz9
                    try dsimp only at hinv ih ⊢
                    obtain ⟨y, hy, hy5, hw35⟩ := lr_out_35 hinv (fun q hq => by have := hgl q hq; simp only [List.length_append]; omega) (by omega) hsep
                    refine mx_il5 d_Lr_readAtom_189 ?_
                    refine mx_il2 d_Lr_readAtom_191 ?_
                    refine mx_icN_ge 207 d_Lr_readAtom_192 (by decide) (by omega) (by omega) (fun c_192 => absurd c_192 (by omega)) (fun c_192 => ?_)
                    refine mx_al0 d_Lr_readAtom_195 ?_
                    refine mx_bipush (v := -35) d_Lr_readAtom_196 (by decide) ?_
                    refine mx_cV1vR d_Lr_readAtom_198 (c_Lr_write hLr hy (by omega)) ok_Lr_write ml_Lr_84 (by assumption) ⟨rfl, rfl⟩ (by omega) (Nat.le_of_ble_eq_true rfl) (fun K9 hK9 => ?_)
                    refine mx_iN5 d_Lr_readAtom_201 ?_
                    refine mx_goto 189 d_Lr_readAtom_204 (by decide) ?_
                    have e5 : nI (6 - e + k8 + 1) = nI (6 - e + (k8 + 1)) := by rfl
                    refine mx_lsc (congrArg (fun z9 => ([some (.ref (lr)), some (.int (nI (6 - e))), some (.int (nI (6 - e + n))), some (.int (nI (tq_k f L (tq_b f L (c + n))))), some (.int (nI (0))), some (.int (z9))] : List (Option Value))) e5) ?_
                    exact ih K9 (hw35 _ hK9)
                  · skip
                    obtain ⟨K, hz9⟩ : ∃ q, q = z9 := ⟨_, rfl⟩
                    subst hz9
                    try dsimp only at hinv ⊢
                    refine mx_il5 d_Lr_readAtom_189 ?_
                    refine mx_il2 d_Lr_readAtom_191 ?_
                    refine mx_icN_ge 207 d_Lr_readAtom_192 (by decide) (by omega) (by omega) (fun c_192 => ?_) (fun c_192 => absurd c_192 (by omega))
                    refine mx_il4 d_Lr_readAtom_207 ?_
                    exact mx_zret d_Lr_readAtom_209 rfl (by first | exact Or.inl rfl | exact Or.inr rfl) (mx_sR_i (by rw [htl, gq_ok_wr, hok]; rfl) (by rw [htl]; rw [show 401 + e = 401 + (e - n) + n by omega]; exact hinv))
                · skip
                  obtain ⟨q, hsum⟩ := gq_ok_t c_150
                  rw [hsum] at hK2
                  have hs := hs.tr hK2
                  have h29 := hs.cur.2.1
                  have hg1 := (gq_go_sum (tK0 rfl)).2.1 _ _ hsum
                  refine mx_al0 d_Lr_readAtom_153 ?_
                  refine mx_getR d_Lr_readAtom_154 fl_Lr_24 (by assumption) (by assumption) ?_
                  refine mx_il5 d_Lr_readAtom_157 ?_
                  refine mx_cV1iR d_Lr_readAtom_159 (c_Te_takes hTe hs.tok hs.cur (w := 6) (by omega) (by omega)) ok_Te_takes ml_Lr_56 (by assumption) ⟨rfl, rfl⟩ (by omega) (Nat.le_of_ble_eq_true rfl) (fun K3 hK3 => ?_)
                  refine mx_ifB_eq 176 d_Lr_readAtom_162 (by decide) (fun c_162 => ?_) (fun c_162 => ?_)
                  · skip
                    have hk6 : ¬ tK f L q.2 = 6 := fun z => by rw [gq_tk_y z] at c_162; cases c_162
                    have hk67 : ¬ (tK f L q.2 = 6 ∨ tK f L q.2 = 7) := fun z => z.elim hk6 (fun z => c_136 (h29.trans (congrArg nI z)))
                    rw [gq_tk_n hk6] at hK3
                    have hbad := hs.bad hK3 hsep (z := 400) (by simp only [List.length_append]; omega)
                    obtain ⟨-, -, y, hy, hyz⟩ := id hbad
                    refine mx_in_0 d_Lr_readAtom_176 ?_
                    refine mx_is4 d_Lr_readAtom_177 ?_
                    refine mx_al0 d_Lr_readAtom_179 ?_
                    refine mx_il5 d_Lr_readAtom_180 ?_
                    refine mx_ineg d_Lr_readAtom_182 ?_
                    refine mx_cV1vR d_Lr_readAtom_183 (c_Lr_write hLr hy (by omega)) ok_Lr_write ml_Lr_84 (by assumption) ⟨rfl, rfl⟩ (by omega) (Nat.le_of_ble_eq_true rfl) (fun K5 hK5 => ?_)
                    have er : r = .inl q.2 := hr0.trans (hpl.trans (gq_pln_2 hnm hsum hk67))
                    have hr : lr_out I K5 lr te f L cs (401 + (e - n)) r := by rw [er]; exact (hbad.wr hy hyz hK5 hsep).le (by omega)
                    have hok : gq_ok r = false := by rw [er]; rfl
                    refine mx_il1 d_Lr_readAtom_186 ?_
                    refine mx_is5 d_Lr_readAtom_187 ?_
                    refine mx_lsc (congrArg (fun z9 => ([some (.ref (lr)), some (.int (nI (6 - e))), some (.int (nI (6 - e + n))), some (.int (nI (tq_k f L (tq_b f L (c + n))))), some (.int (nI (0))), some (.int (z9))] : List (Option Value))) ((show nI (6 - e) = nI (6 - e + 0) from rfl))) ?_
                    refine mx_loopX (α := (mx_I)) (N := n) (a0 := K5) (fun k8 z9 => lr_out I z9 lr te f L cs (401 + (e - n) + k8) (gq_wr k8 r)) (ls := fun k8 z9 => [some (.ref (lr)), some (.int (nI (6 - e))), some (.int (nI (6 - e + n))), some (.int (nI (tq_k f L (tq_b f L (c + n))))), some (.int (nI (0))), some (.int (nI (6 - e + k8)))]) (X := fun k8 z9 => (t, S, z9, P, J)) ((by rw [gq_wr_0]; exact hr)) (fun k8 hk8 z9 hinv ih => ?_) (fun z9 hinv => ?_)
                    · skip
                      obtain ⟨K, hz9⟩ : ∃ q, q = z9 := ⟨_, rfl⟩
                      subst hz9
                      try dsimp only at hinv ih ⊢
                      obtain ⟨y, hy, hy5, hw35⟩ := lr_out_35 hinv (fun q hq => by have := hgl q hq; simp only [List.length_append]; omega) (by omega) hsep
                      refine mx_il5 d_Lr_readAtom_189 ?_
                      refine mx_il2 d_Lr_readAtom_191 ?_
                      refine mx_icN_ge 207 d_Lr_readAtom_192 (by decide) (by omega) (by omega) (fun c_192 => absurd c_192 (by omega)) (fun c_192 => ?_)
                      refine mx_al0 d_Lr_readAtom_195 ?_
                      refine mx_bipush (v := -35) d_Lr_readAtom_196 (by decide) ?_
                      refine mx_cV1vR d_Lr_readAtom_198 (c_Lr_write hLr hy (by omega)) ok_Lr_write ml_Lr_84 (by assumption) ⟨rfl, rfl⟩ (by omega) (Nat.le_of_ble_eq_true rfl) (fun K9 hK9 => ?_)
                      refine mx_iN5 d_Lr_readAtom_201 ?_
                      refine mx_goto 189 d_Lr_readAtom_204 (by decide) ?_
                      have e5 : nI (6 - e + k8 + 1) = nI (6 - e + (k8 + 1)) := by rfl
                      refine mx_lsc (congrArg (fun z9 => ([some (.ref (lr)), some (.int (nI (6 - e))), some (.int (nI (6 - e + n))), some (.int (nI (tq_k f L (tq_b f L (c + n))))), some (.int (nI (0))), some (.int (z9))] : List (Option Value))) e5) ?_
                      exact ih K9 (hw35 _ hK9)
                    · skip
                      obtain ⟨K, hz9⟩ : ∃ q, q = z9 := ⟨_, rfl⟩
                      subst hz9
                      try dsimp only at hinv ⊢
                      refine mx_il5 d_Lr_readAtom_189 ?_
                      refine mx_il2 d_Lr_readAtom_191 ?_
                      refine mx_icN_ge 207 d_Lr_readAtom_192 (by decide) (by omega) (by omega) (fun c_192 => ?_) (fun c_192 => absurd c_192 (by omega))
                      refine mx_il4 d_Lr_readAtom_207 ?_
                      exact mx_zret d_Lr_readAtom_209 rfl (by first | exact Or.inl rfl | exact Or.inr rfl) (mx_sR_i (by rw [htl, gq_ok_wr, hok]; rfl) (by rw [htl]; rw [show 401 + e = 401 + (e - n) + n by omega]; exact hinv))
                  · skip
                    have hk67 : tK f L q.2 = 6 := Decidable.byContradiction (fun z => by rw [gq_tk_n z] at c_162; cases c_162)
                    rw [gq_tk_y hk67] at hK3
                    have hs := hs.tk hK3 hsep
                    refine mx_al0 d_Lr_readAtom_165 ?_
                    refine mx_cV0iR d_Lr_readAtom_166 (c_Lr_readSum hLr hTe hs.self (by simp only [List.length_append] at *; omega)) ok_Lr_readSum ml_Lr_88 (by assumption) ⟨rfl, rfl⟩ (by omega) (Nat.le_of_ble_eq_true rfl) (fun K4 hK4 => ?_)
                    refine mx_ifB_eq 176 d_Lr_readAtom_169 (by decide) (fun c_169 => ?_) (fun c_169 => ?_)
                    · skip
                      obtain ⟨b, hsum2⟩ := gq_ok_f c_169
                      rw [hsum2] at hK4
                      have hbad := hs.trb hK4
                      obtain ⟨-, -, y, hy, hyz⟩ := id hbad
                      refine mx_in_0 d_Lr_readAtom_176 ?_
                      refine mx_is4 d_Lr_readAtom_177 ?_
                      refine mx_al0 d_Lr_readAtom_179 ?_
                      refine mx_il5 d_Lr_readAtom_180 ?_
                      refine mx_ineg d_Lr_readAtom_182 ?_
                      refine mx_cV1vR d_Lr_readAtom_183 (c_Lr_write hLr hy (by omega)) ok_Lr_write ml_Lr_84 (by assumption) ⟨rfl, rfl⟩ (by omega) (Nat.le_of_ble_eq_true rfl) (fun K5 hK5 => ?_)
                      have er : r = .inl b := hr0.trans (hpl.trans (gq_pln_3 hnm hsum (by omega) hsum2))
                      have hr : lr_out I K5 lr te f L cs (401 + (e - n)) r := by rw [er]; exact (hbad.wr hy hyz hK5 hsep).le (by omega)
                      have hok : gq_ok r = false := by rw [er]; rfl
                      refine mx_il1 d_Lr_readAtom_186 ?_
                      refine mx_is5 d_Lr_readAtom_187 ?_
                      refine mx_lsc (congrArg (fun z9 => ([some (.ref (lr)), some (.int (nI (6 - e))), some (.int (nI (6 - e + n))), some (.int (nI (tq_k f L (tq_b f L (c + n))))), some (.int (nI (0))), some (.int (z9))] : List (Option Value))) ((show nI (6 - e) = nI (6 - e + 0) from rfl))) ?_
                      refine mx_loopX (α := (mx_I)) (N := n) (a0 := K5) (fun k8 z9 => lr_out I z9 lr te f L cs (401 + (e - n) + k8) (gq_wr k8 r)) (ls := fun k8 z9 => [some (.ref (lr)), some (.int (nI (6 - e))), some (.int (nI (6 - e + n))), some (.int (nI (tq_k f L (tq_b f L (c + n))))), some (.int (nI (0))), some (.int (nI (6 - e + k8)))]) (X := fun k8 z9 => (t, S, z9, P, J)) ((by rw [gq_wr_0]; exact hr)) (fun k8 hk8 z9 hinv ih => ?_) (fun z9 hinv => ?_)
                      · skip
                        obtain ⟨K, hz9⟩ : ∃ q, q = z9 := ⟨_, rfl⟩
                        subst hz9
                        try dsimp only at hinv ih ⊢
                        obtain ⟨y, hy, hy5, hw35⟩ := lr_out_35 hinv (fun q hq => by have := hgl q hq; simp only [List.length_append]; omega) (by omega) hsep
                        refine mx_il5 d_Lr_readAtom_189 ?_
                        refine mx_il2 d_Lr_readAtom_191 ?_
                        refine mx_icN_ge 207 d_Lr_readAtom_192 (by decide) (by omega) (by omega) (fun c_192 => absurd c_192 (by omega)) (fun c_192 => ?_)
                        refine mx_al0 d_Lr_readAtom_195 ?_
                        refine mx_bipush (v := -35) d_Lr_readAtom_196 (by decide) ?_
                        refine mx_cV1vR d_Lr_readAtom_198 (c_Lr_write hLr hy (by omega)) ok_Lr_write ml_Lr_84 (by assumption) ⟨rfl, rfl⟩ (by omega) (Nat.le_of_ble_eq_true rfl) (fun K9 hK9 => ?_)
                        refine mx_iN5 d_Lr_readAtom_201 ?_
                        refine mx_goto 189 d_Lr_readAtom_204 (by decide) ?_
                        have e5 : nI (6 - e + k8 + 1) = nI (6 - e + (k8 + 1)) := by rfl
                        refine mx_lsc (congrArg (fun z9 => ([some (.ref (lr)), some (.int (nI (6 - e))), some (.int (nI (6 - e + n))), some (.int (nI (tq_k f L (tq_b f L (c + n))))), some (.int (nI (0))), some (.int (z9))] : List (Option Value))) e5) ?_
                        exact ih K9 (hw35 _ hK9)
                      · skip
                        obtain ⟨K, hz9⟩ : ∃ q, q = z9 := ⟨_, rfl⟩
                        subst hz9
                        try dsimp only at hinv ⊢
                        refine mx_il5 d_Lr_readAtom_189 ?_
                        refine mx_il2 d_Lr_readAtom_191 ?_
                        refine mx_icN_ge 207 d_Lr_readAtom_192 (by decide) (by omega) (by omega) (fun c_192 => ?_) (fun c_192 => absurd c_192 (by omega))
                        refine mx_il4 d_Lr_readAtom_207 ?_
                        exact mx_zret d_Lr_readAtom_209 rfl (by first | exact Or.inl rfl | exact Or.inr rfl) (mx_sR_i (by rw [htl, gq_ok_wr, hok]; rfl) (by rw [htl]; rw [show 401 + e = 401 + (e - n) + n by omega]; exact hinv))
                    · skip
                      obtain ⟨q2, hsum2⟩ := gq_ok_t c_169
                      rw [hsum2] at hK4
                      have hs := hs.tr hK4
                      have hg2 := (gq_go_sum (tK0 rfl)).2.1 _ _ hsum2
                      have hL5 : (cs ++ q.1 ++ q2.1).length < 400 := by simp only [List.length_append]; omega
                      refine mx_in_1 d_Lr_readAtom_172 ?_
                      refine mx_goto 177 d_Lr_readAtom_173 (by decide) ?_
                      refine mx_is4 d_Lr_readAtom_177 ?_
                      refine mx_al0 d_Lr_readAtom_179 ?_
                      refine mx_il5 d_Lr_readAtom_180 ?_
                      refine mx_ineg d_Lr_readAtom_182 ?_
                      refine mx_cV1vR d_Lr_readAtom_183 (c_Lr_write hLr hs.sz (by omega)) ok_Lr_write ml_Lr_84 (by assumption) ⟨rfl, rfl⟩ (by omega) (Nat.le_of_ble_eq_true rfl) (fun K5 hK5 => ?_)
                      have hs := hs.wr hK5 (by omega) hsep
                      have er : r = .inr (q.1 ++ q2.1 ++ [-nI (tK f L q.2)], q2.2) := hr0.trans (hpl.trans (gq_pln_4 hnm hsum (by omega) hsum2))
                      have hr : lr_out I K5 lr te f L cs (401 + (e - n)) r := by rw [er]; exact (by rw [hk67]; simp only [List.append_assoc] at hs ⊢; exact hs)
                      have hok : gq_ok r = true := by rw [er]; rfl
                      refine mx_il1 d_Lr_readAtom_186 ?_
                      refine mx_is5 d_Lr_readAtom_187 ?_
                      refine mx_lsc (congrArg (fun z9 => ([some (.ref (lr)), some (.int (nI (6 - e))), some (.int (nI (6 - e + n))), some (.int (nI (tq_k f L (tq_b f L (c + n))))), some (.int (nI (1))), some (.int (z9))] : List (Option Value))) ((show nI (6 - e) = nI (6 - e + 0) from rfl))) ?_
                      refine mx_loopX (α := (mx_I)) (N := n) (a0 := K5) (fun k8 z9 => lr_out I z9 lr te f L cs (401 + (e - n) + k8) (gq_wr k8 r)) (ls := fun k8 z9 => [some (.ref (lr)), some (.int (nI (6 - e))), some (.int (nI (6 - e + n))), some (.int (nI (tq_k f L (tq_b f L (c + n))))), some (.int (nI (1))), some (.int (nI (6 - e + k8)))]) (X := fun k8 z9 => (t, S, z9, P, J)) ((by rw [gq_wr_0]; exact hr)) (fun k8 hk8 z9 hinv ih => ?_) (fun z9 hinv => ?_)
                      · skip
                        obtain ⟨K, hz9⟩ : ∃ q, q = z9 := ⟨_, rfl⟩
                        subst hz9
                        try dsimp only at hinv ih ⊢
                        obtain ⟨y, hy, hy5, hw35⟩ := lr_out_35 hinv (fun q hq => by have := hgl q hq; simp only [List.length_append]; omega) (by omega) hsep
                        refine mx_il5 d_Lr_readAtom_189 ?_
                        refine mx_il2 d_Lr_readAtom_191 ?_
                        refine mx_icN_ge 207 d_Lr_readAtom_192 (by decide) (by omega) (by omega) (fun c_192 => absurd c_192 (by omega)) (fun c_192 => ?_)
                        refine mx_al0 d_Lr_readAtom_195 ?_
                        refine mx_bipush (v := -35) d_Lr_readAtom_196 (by decide) ?_
                        refine mx_cV1vR d_Lr_readAtom_198 (c_Lr_write hLr hy (by omega)) ok_Lr_write ml_Lr_84 (by assumption) ⟨rfl, rfl⟩ (by omega) (Nat.le_of_ble_eq_true rfl) (fun K9 hK9 => ?_)
                        refine mx_iN5 d_Lr_readAtom_201 ?_
                        refine mx_goto 189 d_Lr_readAtom_204 (by decide) ?_
                        have e5 : nI (6 - e + k8 + 1) = nI (6 - e + (k8 + 1)) := by rfl
                        refine mx_lsc (congrArg (fun z9 => ([some (.ref (lr)), some (.int (nI (6 - e))), some (.int (nI (6 - e + n))), some (.int (nI (tq_k f L (tq_b f L (c + n))))), some (.int (nI (1))), some (.int (z9))] : List (Option Value))) e5) ?_
                        exact ih K9 (hw35 _ hK9)
                      · skip
                        obtain ⟨K, hz9⟩ : ∃ q, q = z9 := ⟨_, rfl⟩
                        subst hz9
                        try dsimp only at hinv ⊢
                        refine mx_il5 d_Lr_readAtom_189 ?_
                        refine mx_il2 d_Lr_readAtom_191 ?_
                        refine mx_icN_ge 207 d_Lr_readAtom_192 (by decide) (by omega) (by omega) (fun c_192 => ?_) (fun c_192 => absurd c_192 (by omega))
                        refine mx_il4 d_Lr_readAtom_207 ?_
                        exact mx_zret d_Lr_readAtom_209 rfl (by first | exact Or.inl rfl | exact Or.inr rfl) (mx_sR_i (by rw [htl, gq_ok_wr, hok]; rfl) (by rw [htl]; rw [show 401 + e = 401 + (e - n) + n by omega]; exact hinv))
              · skip
                refine mx_bip 7 d_Lr_readAtom_139 (by decide) ?_
                refine mx_goto 146 d_Lr_readAtom_141 (by decide) ?_
                refine mx_is5 d_Lr_readAtom_146 ?_
                refine mx_il4 d_Lr_readAtom_148 ?_
                refine mx_ifB_eq 176 d_Lr_readAtom_150 (by decide) (fun c_150 => ?_) (fun c_150 => ?_)
                · skip
                  obtain ⟨b, hsum⟩ := gq_ok_f c_150
                  rw [hsum] at hK2
                  have hbad := hs.trb hK2
                  obtain ⟨-, -, y, hy, hyz⟩ := id hbad
                  refine mx_in_0 d_Lr_readAtom_176 ?_
                  refine mx_is4 d_Lr_readAtom_177 ?_
                  refine mx_al0 d_Lr_readAtom_179 ?_
                  refine mx_il5 d_Lr_readAtom_180 ?_
                  refine mx_ineg d_Lr_readAtom_182 ?_
                  refine mx_cV1vR d_Lr_readAtom_183 (c_Lr_write hLr hy (by omega)) ok_Lr_write ml_Lr_84 (by assumption) ⟨rfl, rfl⟩ (by omega) (Nat.le_of_ble_eq_true rfl) (fun K5 hK5 => ?_)
                  have er : r = .inl b := hr0.trans (hpl.trans (gq_pln_1 hnm hsum))
                  have hr : lr_out I K5 lr te f L cs (401 + (e - n)) r := by rw [er]; exact (hbad.wr hy hyz hK5 hsep).le (by omega)
                  have hok : gq_ok r = false := by rw [er]; rfl
                  refine mx_il1 d_Lr_readAtom_186 ?_
                  refine mx_is5 d_Lr_readAtom_187 ?_
                  refine mx_lsc (congrArg (fun z9 => ([some (.ref (lr)), some (.int (nI (6 - e))), some (.int (nI (6 - e + n))), some (.int (nI (tq_k f L (tq_b f L (c + n))))), some (.int (nI (0))), some (.int (z9))] : List (Option Value))) ((show nI (6 - e) = nI (6 - e + 0) from rfl))) ?_
                  refine mx_loopX (α := (mx_I)) (N := n) (a0 := K5) (fun k8 z9 => lr_out I z9 lr te f L cs (401 + (e - n) + k8) (gq_wr k8 r)) (ls := fun k8 z9 => [some (.ref (lr)), some (.int (nI (6 - e))), some (.int (nI (6 - e + n))), some (.int (nI (tq_k f L (tq_b f L (c + n))))), some (.int (nI (0))), some (.int (nI (6 - e + k8)))]) (X := fun k8 z9 => (t, S, z9, P, J)) ((by rw [gq_wr_0]; exact hr)) (fun k8 hk8 z9 hinv ih => ?_) (fun z9 hinv => ?_)
                  · skip
                    obtain ⟨K, hz9⟩ : ∃ q, q = z9 := ⟨_, rfl⟩
                    subst hz9
                    try dsimp only at hinv ih ⊢
                    obtain ⟨y, hy, hy5, hw35⟩ := lr_out_35 hinv (fun q hq => by have := hgl q hq; simp only [List.length_append]; omega) (by omega) hsep
                    refine mx_il5 d_Lr_readAtom_189 ?_
                    refine mx_il2 d_Lr_readAtom_191 ?_
                    refine mx_icN_ge 207 d_Lr_readAtom_192 (by decide) (by omega) (by omega) (fun c_192 => absurd c_192 (by omega)) (fun c_192 => ?_)
                    refine mx_al0 d_Lr_readAtom_195 ?_
                    refine mx_bipush (v := -35) d_Lr_readAtom_196 (by decide) ?_
                    refine mx_cV1vR d_Lr_readAtom_198 (c_Lr_write hLr hy (by omega)) ok_Lr_write ml_Lr_84 (by assumption) ⟨rfl, rfl⟩ (by omega) (Nat.le_of_ble_eq_true rfl) (fun K9 hK9 => ?_)
                    refine mx_iN5 d_Lr_readAtom_201 ?_
                    refine mx_goto 189 d_Lr_readAtom_204 (by decide) ?_
                    have e5 : nI (6 - e + k8 + 1) = nI (6 - e + (k8 + 1)) := by rfl
                    refine mx_lsc (congrArg (fun z9 => ([some (.ref (lr)), some (.int (nI (6 - e))), some (.int (nI (6 - e + n))), some (.int (nI (tq_k f L (tq_b f L (c + n))))), some (.int (nI (0))), some (.int (z9))] : List (Option Value))) e5) ?_
                    exact ih K9 (hw35 _ hK9)
                  · skip
                    obtain ⟨K, hz9⟩ : ∃ q, q = z9 := ⟨_, rfl⟩
                    subst hz9
                    try dsimp only at hinv ⊢
                    refine mx_il5 d_Lr_readAtom_189 ?_
                    refine mx_il2 d_Lr_readAtom_191 ?_
                    refine mx_icN_ge 207 d_Lr_readAtom_192 (by decide) (by omega) (by omega) (fun c_192 => ?_) (fun c_192 => absurd c_192 (by omega))
                    refine mx_il4 d_Lr_readAtom_207 ?_
                    exact mx_zret d_Lr_readAtom_209 rfl (by first | exact Or.inl rfl | exact Or.inr rfl) (mx_sR_i (by rw [htl, gq_ok_wr, hok]; rfl) (by rw [htl]; rw [show 401 + e = 401 + (e - n) + n by omega]; exact hinv))
                · skip
                  obtain ⟨q, hsum⟩ := gq_ok_t c_150
                  rw [hsum] at hK2
                  have hs := hs.tr hK2
                  have h29 := hs.cur.2.1
                  have hg1 := (gq_go_sum (tK0 rfl)).2.1 _ _ hsum
                  refine mx_al0 d_Lr_readAtom_153 ?_
                  refine mx_getR d_Lr_readAtom_154 fl_Lr_24 (by assumption) (by assumption) ?_
                  refine mx_il5 d_Lr_readAtom_157 ?_
                  refine mx_cV1iR d_Lr_readAtom_159 (c_Te_takes hTe hs.tok hs.cur (w := 7) (by omega) (by omega)) ok_Te_takes ml_Lr_56 (by assumption) ⟨rfl, rfl⟩ (by omega) (Nat.le_of_ble_eq_true rfl) (fun K3 hK3 => ?_)
                  refine mx_ifB_eq 176 d_Lr_readAtom_162 (by decide) (fun c_162 => ?_) (fun c_162 => ?_)
                  · skip
                    have hk7 : ¬ tK f L q.2 = 7 := fun z => by rw [gq_tk_y z] at c_162; cases c_162
                    have e7 : nI (tq_k f L (tq_b f L q.2)) = nI 7 := h29.symm.trans c_136
                    exact absurd ((nI_eq (by have := tq_k_lt f L (tq_b f L q.2); omega) (by omega)).mp e7) hk7
                  · skip
                    have hk67 : tK f L q.2 = 7 := Decidable.byContradiction (fun z => by rw [gq_tk_n z] at c_162; cases c_162)
                    rw [gq_tk_y hk67] at hK3
                    have hs := hs.tk hK3 hsep
                    refine mx_al0 d_Lr_readAtom_165 ?_
                    refine mx_cV0iR d_Lr_readAtom_166 (c_Lr_readSum hLr hTe hs.self (by simp only [List.length_append] at *; omega)) ok_Lr_readSum ml_Lr_88 (by assumption) ⟨rfl, rfl⟩ (by omega) (Nat.le_of_ble_eq_true rfl) (fun K4 hK4 => ?_)
                    refine mx_ifB_eq 176 d_Lr_readAtom_169 (by decide) (fun c_169 => ?_) (fun c_169 => ?_)
                    · skip
                      obtain ⟨b, hsum2⟩ := gq_ok_f c_169
                      rw [hsum2] at hK4
                      have hbad := hs.trb hK4
                      obtain ⟨-, -, y, hy, hyz⟩ := id hbad
                      refine mx_in_0 d_Lr_readAtom_176 ?_
                      refine mx_is4 d_Lr_readAtom_177 ?_
                      refine mx_al0 d_Lr_readAtom_179 ?_
                      refine mx_il5 d_Lr_readAtom_180 ?_
                      refine mx_ineg d_Lr_readAtom_182 ?_
                      refine mx_cV1vR d_Lr_readAtom_183 (c_Lr_write hLr hy (by omega)) ok_Lr_write ml_Lr_84 (by assumption) ⟨rfl, rfl⟩ (by omega) (Nat.le_of_ble_eq_true rfl) (fun K5 hK5 => ?_)
                      have er : r = .inl b := hr0.trans (hpl.trans (gq_pln_3 hnm hsum (by omega) hsum2))
                      have hr : lr_out I K5 lr te f L cs (401 + (e - n)) r := by rw [er]; exact (hbad.wr hy hyz hK5 hsep).le (by omega)
                      have hok : gq_ok r = false := by rw [er]; rfl
                      refine mx_il1 d_Lr_readAtom_186 ?_
                      refine mx_is5 d_Lr_readAtom_187 ?_
                      refine mx_lsc (congrArg (fun z9 => ([some (.ref (lr)), some (.int (nI (6 - e))), some (.int (nI (6 - e + n))), some (.int (nI (tq_k f L (tq_b f L (c + n))))), some (.int (nI (0))), some (.int (z9))] : List (Option Value))) ((show nI (6 - e) = nI (6 - e + 0) from rfl))) ?_
                      refine mx_loopX (α := (mx_I)) (N := n) (a0 := K5) (fun k8 z9 => lr_out I z9 lr te f L cs (401 + (e - n) + k8) (gq_wr k8 r)) (ls := fun k8 z9 => [some (.ref (lr)), some (.int (nI (6 - e))), some (.int (nI (6 - e + n))), some (.int (nI (tq_k f L (tq_b f L (c + n))))), some (.int (nI (0))), some (.int (nI (6 - e + k8)))]) (X := fun k8 z9 => (t, S, z9, P, J)) ((by rw [gq_wr_0]; exact hr)) (fun k8 hk8 z9 hinv ih => ?_) (fun z9 hinv => ?_)
                      · skip
                        obtain ⟨K, hz9⟩ : ∃ q, q = z9 := ⟨_, rfl⟩
                        subst hz9
                        try dsimp only at hinv ih ⊢
                        obtain ⟨y, hy, hy5, hw35⟩ := lr_out_35 hinv (fun q hq => by have := hgl q hq; simp only [List.length_append]; omega) (by omega) hsep
                        refine mx_il5 d_Lr_readAtom_189 ?_
                        refine mx_il2 d_Lr_readAtom_191 ?_
                        refine mx_icN_ge 207 d_Lr_readAtom_192 (by decide) (by omega) (by omega) (fun c_192 => absurd c_192 (by omega)) (fun c_192 => ?_)
                        refine mx_al0 d_Lr_readAtom_195 ?_
                        refine mx_bipush (v := -35) d_Lr_readAtom_196 (by decide) ?_
                        refine mx_cV1vR d_Lr_readAtom_198 (c_Lr_write hLr hy (by omega)) ok_Lr_write ml_Lr_84 (by assumption) ⟨rfl, rfl⟩ (by omega) (Nat.le_of_ble_eq_true rfl) (fun K9 hK9 => ?_)
                        refine mx_iN5 d_Lr_readAtom_201 ?_
                        refine mx_goto 189 d_Lr_readAtom_204 (by decide) ?_
                        have e5 : nI (6 - e + k8 + 1) = nI (6 - e + (k8 + 1)) := by rfl
                        refine mx_lsc (congrArg (fun z9 => ([some (.ref (lr)), some (.int (nI (6 - e))), some (.int (nI (6 - e + n))), some (.int (nI (tq_k f L (tq_b f L (c + n))))), some (.int (nI (0))), some (.int (z9))] : List (Option Value))) e5) ?_
                        exact ih K9 (hw35 _ hK9)
                      · skip
                        obtain ⟨K, hz9⟩ : ∃ q, q = z9 := ⟨_, rfl⟩
                        subst hz9
                        try dsimp only at hinv ⊢
                        refine mx_il5 d_Lr_readAtom_189 ?_
                        refine mx_il2 d_Lr_readAtom_191 ?_
                        refine mx_icN_ge 207 d_Lr_readAtom_192 (by decide) (by omega) (by omega) (fun c_192 => ?_) (fun c_192 => absurd c_192 (by omega))
                        refine mx_il4 d_Lr_readAtom_207 ?_
                        exact mx_zret d_Lr_readAtom_209 rfl (by first | exact Or.inl rfl | exact Or.inr rfl) (mx_sR_i (by rw [htl, gq_ok_wr, hok]; rfl) (by rw [htl]; rw [show 401 + e = 401 + (e - n) + n by omega]; exact hinv))
                    · skip
                      obtain ⟨q2, hsum2⟩ := gq_ok_t c_169
                      rw [hsum2] at hK4
                      have hs := hs.tr hK4
                      have hg2 := (gq_go_sum (tK0 rfl)).2.1 _ _ hsum2
                      have hL5 : (cs ++ q.1 ++ q2.1).length < 400 := by simp only [List.length_append]; omega
                      refine mx_in_1 d_Lr_readAtom_172 ?_
                      refine mx_goto 177 d_Lr_readAtom_173 (by decide) ?_
                      refine mx_is4 d_Lr_readAtom_177 ?_
                      refine mx_al0 d_Lr_readAtom_179 ?_
                      refine mx_il5 d_Lr_readAtom_180 ?_
                      refine mx_ineg d_Lr_readAtom_182 ?_
                      refine mx_cV1vR d_Lr_readAtom_183 (c_Lr_write hLr hs.sz (by omega)) ok_Lr_write ml_Lr_84 (by assumption) ⟨rfl, rfl⟩ (by omega) (Nat.le_of_ble_eq_true rfl) (fun K5 hK5 => ?_)
                      have hs := hs.wr hK5 (by omega) hsep
                      have er : r = .inr (q.1 ++ q2.1 ++ [-nI (tK f L q.2)], q2.2) := hr0.trans (hpl.trans (gq_pln_4 hnm hsum (by omega) hsum2))
                      have hr : lr_out I K5 lr te f L cs (401 + (e - n)) r := by rw [er]; exact (by rw [hk67]; simp only [List.append_assoc] at hs ⊢; exact hs)
                      have hok : gq_ok r = true := by rw [er]; rfl
                      refine mx_il1 d_Lr_readAtom_186 ?_
                      refine mx_is5 d_Lr_readAtom_187 ?_
                      refine mx_lsc (congrArg (fun z9 => ([some (.ref (lr)), some (.int (nI (6 - e))), some (.int (nI (6 - e + n))), some (.int (nI (tq_k f L (tq_b f L (c + n))))), some (.int (nI (1))), some (.int (z9))] : List (Option Value))) ((show nI (6 - e) = nI (6 - e + 0) from rfl))) ?_
                      refine mx_loopX (α := (mx_I)) (N := n) (a0 := K5) (fun k8 z9 => lr_out I z9 lr te f L cs (401 + (e - n) + k8) (gq_wr k8 r)) (ls := fun k8 z9 => [some (.ref (lr)), some (.int (nI (6 - e))), some (.int (nI (6 - e + n))), some (.int (nI (tq_k f L (tq_b f L (c + n))))), some (.int (nI (1))), some (.int (nI (6 - e + k8)))]) (X := fun k8 z9 => (t, S, z9, P, J)) ((by rw [gq_wr_0]; exact hr)) (fun k8 hk8 z9 hinv ih => ?_) (fun z9 hinv => ?_)
                      · skip
                        obtain ⟨K, hz9⟩ : ∃ q, q = z9 := ⟨_, rfl⟩
                        subst hz9
                        try dsimp only at hinv ih ⊢
                        obtain ⟨y, hy, hy5, hw35⟩ := lr_out_35 hinv (fun q hq => by have := hgl q hq; simp only [List.length_append]; omega) (by omega) hsep
                        refine mx_il5 d_Lr_readAtom_189 ?_
                        refine mx_il2 d_Lr_readAtom_191 ?_
                        refine mx_icN_ge 207 d_Lr_readAtom_192 (by decide) (by omega) (by omega) (fun c_192 => absurd c_192 (by omega)) (fun c_192 => ?_)
                        refine mx_al0 d_Lr_readAtom_195 ?_
                        refine mx_bipush (v := -35) d_Lr_readAtom_196 (by decide) ?_
                        refine mx_cV1vR d_Lr_readAtom_198 (c_Lr_write hLr hy (by omega)) ok_Lr_write ml_Lr_84 (by assumption) ⟨rfl, rfl⟩ (by omega) (Nat.le_of_ble_eq_true rfl) (fun K9 hK9 => ?_)
                        refine mx_iN5 d_Lr_readAtom_201 ?_
                        refine mx_goto 189 d_Lr_readAtom_204 (by decide) ?_
                        have e5 : nI (6 - e + k8 + 1) = nI (6 - e + (k8 + 1)) := by rfl
                        refine mx_lsc (congrArg (fun z9 => ([some (.ref (lr)), some (.int (nI (6 - e))), some (.int (nI (6 - e + n))), some (.int (nI (tq_k f L (tq_b f L (c + n))))), some (.int (nI (1))), some (.int (z9))] : List (Option Value))) e5) ?_
                        exact ih K9 (hw35 _ hK9)
                      · skip
                        obtain ⟨K, hz9⟩ : ∃ q, q = z9 := ⟨_, rfl⟩
                        subst hz9
                        try dsimp only at hinv ⊢
                        refine mx_il5 d_Lr_readAtom_189 ?_
                        refine mx_il2 d_Lr_readAtom_191 ?_
                        refine mx_icN_ge 207 d_Lr_readAtom_192 (by decide) (by omega) (by omega) (fun c_192 => ?_) (fun c_192 => absurd c_192 (by omega))
                        refine mx_il4 d_Lr_readAtom_207 ?_
                        exact mx_zret d_Lr_readAtom_209 rfl (by first | exact Or.inl rfl | exact Or.inr rfl) (mx_sR_i (by rw [htl, gq_ok_wr, hok]; rfl) (by rw [htl]; rw [show 401 + e = 401 + (e - n) + n by omega]; exact hinv))
            · skip
              have hm : tK f L (c + n) = 17 ∨ tK f L (c + n) = 18 := Or.inr c_99
              refine mx_al0 d_Lr_readAtom_102 ?_
              refine mx_getR d_Lr_readAtom_103 fl_Lr_24 (by assumption) (by assumption) ?_
              refine mx_cV0vR d_Lr_readAtom_106 (c_Te_nextR hTe hs.tok hs.cur (tK_T (by show ¬ tq_k f L (tq_b f L (c + n)) = 0; omega))) ok_Te_next ml_Lr_63 (by assumption) ⟨rfl, rfl⟩ (by omega) (Nat.le_of_ble_eq_true rfl) (fun K1 hK1 => ?_)
              have hs := hs.tk hK1 hsep
              refine mx_al0 d_Lr_readAtom_109 ?_
              refine mx_il3 d_Lr_readAtom_110 ?_
              refine mx_ineg d_Lr_readAtom_111 ?_
              refine mx_cV1vR d_Lr_readAtom_112 (c_Lr_write hLr hs.sz (by omega)) ok_Lr_write ml_Lr_84 (by assumption) ⟨rfl, rfl⟩ (by omega) (Nat.le_of_ble_eq_true rfl) (fun K2 hK2 => ?_)
              have hs := hs.wr hK2 (by have := hs.cur.2.2; omega) hsep
              have er : r = .inr ([-nI (tK f L (c + n))], c + n + 1) := hr0.trans (hpl.trans (gq_pln_0 hm))
              have hr : lr_out I K2 lr te f L cs (401 + (e - n)) r := by rw [er]; exact hs
              have hok : gq_ok r = true := by rw [er]; rfl
              refine mx_in_1 d_Lr_readAtom_115 ?_
              refine mx_is4 d_Lr_readAtom_116 ?_
              refine mx_goto 186 d_Lr_readAtom_118 (by decide) ?_
              refine mx_il1 d_Lr_readAtom_186 ?_
              refine mx_is5 d_Lr_readAtom_187 ?_
              refine mx_lsc (congrArg (fun z9 => ([some (.ref (lr)), some (.int (nI (6 - e))), some (.int (nI (6 - e + n))), some (.int (nI (tq_k f L (tq_b f L (c + n))))), some (.int (nI (1))), some (.int (z9))] : List (Option Value))) ((show nI (6 - e) = nI (6 - e + 0) from rfl))) ?_
              refine mx_loopX (α := (mx_I)) (N := n) (a0 := K2) (fun k8 z9 => lr_out I z9 lr te f L cs (401 + (e - n) + k8) (gq_wr k8 r)) (ls := fun k8 z9 => [some (.ref (lr)), some (.int (nI (6 - e))), some (.int (nI (6 - e + n))), some (.int (nI (tq_k f L (tq_b f L (c + n))))), some (.int (nI (1))), some (.int (nI (6 - e + k8)))]) (X := fun k8 z9 => (t, S, z9, P, J)) ((by rw [gq_wr_0]; exact hr)) (fun k8 hk8 z9 hinv ih => ?_) (fun z9 hinv => ?_)
              · skip
                obtain ⟨K, hz9⟩ : ∃ q, q = z9 := ⟨_, rfl⟩
                subst hz9
                try dsimp only at hinv ih ⊢
                obtain ⟨y, hy, hy5, hw35⟩ := lr_out_35 hinv (fun q hq => by have := hgl q hq; simp only [List.length_append]; omega) (by omega) hsep
                refine mx_il5 d_Lr_readAtom_189 ?_
                refine mx_il2 d_Lr_readAtom_191 ?_
                refine mx_icN_ge 207 d_Lr_readAtom_192 (by decide) (by omega) (by omega) (fun c_192 => absurd c_192 (by omega)) (fun c_192 => ?_)
                refine mx_al0 d_Lr_readAtom_195 ?_
                refine mx_bipush (v := -35) d_Lr_readAtom_196 (by decide) ?_
                refine mx_cV1vR d_Lr_readAtom_198 (c_Lr_write hLr hy (by omega)) ok_Lr_write ml_Lr_84 (by assumption) ⟨rfl, rfl⟩ (by omega) (Nat.le_of_ble_eq_true rfl) (fun K9 hK9 => ?_)
                refine mx_iN5 d_Lr_readAtom_201 ?_
                refine mx_goto 189 d_Lr_readAtom_204 (by decide) ?_
                have e5 : nI (6 - e + k8 + 1) = nI (6 - e + (k8 + 1)) := by rfl
                refine mx_lsc (congrArg (fun z9 => ([some (.ref (lr)), some (.int (nI (6 - e))), some (.int (nI (6 - e + n))), some (.int (nI (tq_k f L (tq_b f L (c + n))))), some (.int (nI (1))), some (.int (z9))] : List (Option Value))) e5) ?_
                exact ih K9 (hw35 _ hK9)
              · skip
                obtain ⟨K, hz9⟩ : ∃ q, q = z9 := ⟨_, rfl⟩
                subst hz9
                try dsimp only at hinv ⊢
                refine mx_il5 d_Lr_readAtom_189 ?_
                refine mx_il2 d_Lr_readAtom_191 ?_
                refine mx_icN_ge 207 d_Lr_readAtom_192 (by decide) (by omega) (by omega) (fun c_192 => ?_) (fun c_192 => absurd c_192 (by omega))
                refine mx_il4 d_Lr_readAtom_207 ?_
                exact mx_zret d_Lr_readAtom_209 rfl (by first | exact Or.inl rfl | exact Or.inr rfl) (mx_sR_i (by rw [htl, gq_ok_wr, hok]; rfl) (by rw [htl]; rw [show 401 + e = 401 + (e - n) + n by omega]; exact hinv))
        · skip
          refine mx_al0 d_Lr_readAtom_52 ?_
          refine mx_getR d_Lr_readAtom_53 fl_Lr_24 (by assumption) (by assumption) ?_
          refine mx_cV0vR d_Lr_readAtom_56 (c_Te_nextR hTe hs.tok hs.cur (tK_T (by show ¬ tq_k f L (tq_b f L (c + n)) = 0; omega))) ok_Te_next ml_Lr_63 (by assumption) ⟨rfl, rfl⟩ (by omega) (Nat.le_of_ble_eq_true rfl) (fun K1 hK1 => ?_)
          have hs := hs.tk hK1 hsep
          refine mx_al0 d_Lr_readAtom_59 ?_
          refine mx_il2 d_Lr_readAtom_60 ?_
          refine mx_in_1 d_Lr_readAtom_61 ?_
          refine mx_iaddN d_Lr_readAtom_62 ?_
          refine mx_ti (y := nI (6 - (e - n - 1))) (congrArg nI (by omega : 6 - e + n + 1 = 6 - (e - n - 1))) ?_
          refine mx_cV1iR d_Lr_readAtom_63 (hC (e - n - 1) (by omega) _ _ cs hs.self (by omega)) ok_Lr_readCondition ml_Lr_70 (by assumption) ⟨rfl, rfl⟩ (by omega) (Nat.le_of_ble_eq_true rfl) (fun K2 hK2 => ?_)
          refine mx_ifB_eq 84 d_Lr_readAtom_66 (by decide) (fun c_66 => ?_) (fun c_66 => ?_)
          · skip
            obtain ⟨b, hb⟩ := gq_ok_f c_66
            rw [hb] at hK2
            have er : r = .inl b := hr0.trans (gq_tl_1 c_43 (by omega) hb)
            have hr : lr_out I K2 lr te f L cs (401 + (e - n)) r := by rw [er]; exact (hs.trb hK2).le (by omega)
            have hok : gq_ok r = false := by rw [er]; rfl
            refine mx_in_0 d_Lr_readAtom_84 ?_
            refine mx_is4 d_Lr_readAtom_85 ?_
            refine mx_goto 186 d_Lr_readAtom_87 (by decide) ?_
            refine mx_il1 d_Lr_readAtom_186 ?_
            refine mx_is5 d_Lr_readAtom_187 ?_
            refine mx_lsc (congrArg (fun z9 => ([some (.ref (lr)), some (.int (nI (6 - e))), some (.int (nI (6 - e + n))), some (.int (nI (tq_k f L (tq_b f L (c + n))))), some (.int (nI (0))), some (.int (z9))] : List (Option Value))) ((show nI (6 - e) = nI (6 - e + 0) from rfl))) ?_
            refine mx_loopX (α := (mx_I)) (N := n) (a0 := K2) (fun k8 z9 => lr_out I z9 lr te f L cs (401 + (e - n) + k8) (gq_wr k8 r)) (ls := fun k8 z9 => [some (.ref (lr)), some (.int (nI (6 - e))), some (.int (nI (6 - e + n))), some (.int (nI (tq_k f L (tq_b f L (c + n))))), some (.int (nI (0))), some (.int (nI (6 - e + k8)))]) (X := fun k8 z9 => (t, S, z9, P, J)) ((by rw [gq_wr_0]; exact hr)) (fun k8 hk8 z9 hinv ih => ?_) (fun z9 hinv => ?_)
            · skip
              obtain ⟨K, hz9⟩ : ∃ q, q = z9 := ⟨_, rfl⟩
              subst hz9
              try dsimp only at hinv ih ⊢
              obtain ⟨y, hy, hy5, hw35⟩ := lr_out_35 hinv (fun q hq => by have := hgl q hq; simp only [List.length_append]; omega) (by omega) hsep
              refine mx_il5 d_Lr_readAtom_189 ?_
              refine mx_il2 d_Lr_readAtom_191 ?_
              refine mx_icN_ge 207 d_Lr_readAtom_192 (by decide) (by omega) (by omega) (fun c_192 => absurd c_192 (by omega)) (fun c_192 => ?_)
              refine mx_al0 d_Lr_readAtom_195 ?_
              refine mx_bipush (v := -35) d_Lr_readAtom_196 (by decide) ?_
              refine mx_cV1vR d_Lr_readAtom_198 (c_Lr_write hLr hy (by omega)) ok_Lr_write ml_Lr_84 (by assumption) ⟨rfl, rfl⟩ (by omega) (Nat.le_of_ble_eq_true rfl) (fun K9 hK9 => ?_)
              refine mx_iN5 d_Lr_readAtom_201 ?_
              refine mx_goto 189 d_Lr_readAtom_204 (by decide) ?_
              have e5 : nI (6 - e + k8 + 1) = nI (6 - e + (k8 + 1)) := by rfl
              refine mx_lsc (congrArg (fun z9 => ([some (.ref (lr)), some (.int (nI (6 - e))), some (.int (nI (6 - e + n))), some (.int (nI (tq_k f L (tq_b f L (c + n))))), some (.int (nI (0))), some (.int (z9))] : List (Option Value))) e5) ?_
              exact ih K9 (hw35 _ hK9)
            · skip
              obtain ⟨K, hz9⟩ : ∃ q, q = z9 := ⟨_, rfl⟩
              subst hz9
              try dsimp only at hinv ⊢
              refine mx_il5 d_Lr_readAtom_189 ?_
              refine mx_il2 d_Lr_readAtom_191 ?_
              refine mx_icN_ge 207 d_Lr_readAtom_192 (by decide) (by omega) (by omega) (fun c_192 => ?_) (fun c_192 => absurd c_192 (by omega))
              refine mx_il4 d_Lr_readAtom_207 ?_
              exact mx_zret d_Lr_readAtom_209 rfl (by first | exact Or.inl rfl | exact Or.inr rfl) (mx_sR_i (by rw [htl, gq_ok_wr, hok]; rfl) (by rw [htl]; rw [show 401 + e = 401 + (e - n) + n by omega]; exact hinv))
          · skip
            obtain ⟨q, hq⟩ := gq_ok_t c_66
            rw [hq] at hK2
            have hs := hs.tr hK2
            refine mx_al0 d_Lr_readAtom_69 ?_
            refine mx_getR d_Lr_readAtom_70 fl_Lr_24 (by assumption) (by assumption) ?_
            refine mx_in_5 d_Lr_readAtom_73 ?_
            refine mx_cV1iR d_Lr_readAtom_74 (c_Te_takes hTe hs.tok hs.cur (w := 5) (by omega) (by omega)) ok_Te_takes ml_Lr_56 (by assumption) ⟨rfl, rfl⟩ (by omega) (Nat.le_of_ble_eq_true rfl) (fun K3 hK3 => ?_)
            refine mx_ifB_eq 84 d_Lr_readAtom_77 (by decide) (fun c_77 => ?_) (fun c_77 => ?_)
            · skip
              have h5 : ¬ tK f L q.2 = 5 := fun z => by rw [gq_tk_y z] at c_77; cases c_77
              rw [gq_tk_n h5] at hK3
              have er : r = .inl q.2 := hr0.trans (gq_tl_2 c_43 (by omega) hq h5)
              have hr : lr_out I K3 lr te f L cs (401 + (e - n)) r := by rw [er]; exact hs.bad hK3 hsep (by have := (hgs _ _ hq); simp only [List.length_append]; omega)
              have hok : gq_ok r = false := by rw [er]; rfl
              refine mx_in_0 d_Lr_readAtom_84 ?_
              refine mx_is4 d_Lr_readAtom_85 ?_
              refine mx_goto 186 d_Lr_readAtom_87 (by decide) ?_
              refine mx_il1 d_Lr_readAtom_186 ?_
              refine mx_is5 d_Lr_readAtom_187 ?_
              refine mx_lsc (congrArg (fun z9 => ([some (.ref (lr)), some (.int (nI (6 - e))), some (.int (nI (6 - e + n))), some (.int (nI (tq_k f L (tq_b f L (c + n))))), some (.int (nI (0))), some (.int (z9))] : List (Option Value))) ((show nI (6 - e) = nI (6 - e + 0) from rfl))) ?_
              refine mx_loopX (α := (mx_I)) (N := n) (a0 := K3) (fun k8 z9 => lr_out I z9 lr te f L cs (401 + (e - n) + k8) (gq_wr k8 r)) (ls := fun k8 z9 => [some (.ref (lr)), some (.int (nI (6 - e))), some (.int (nI (6 - e + n))), some (.int (nI (tq_k f L (tq_b f L (c + n))))), some (.int (nI (0))), some (.int (nI (6 - e + k8)))]) (X := fun k8 z9 => (t, S, z9, P, J)) ((by rw [gq_wr_0]; exact hr)) (fun k8 hk8 z9 hinv ih => ?_) (fun z9 hinv => ?_)
              · skip
                obtain ⟨K, hz9⟩ : ∃ q, q = z9 := ⟨_, rfl⟩
                subst hz9
                try dsimp only at hinv ih ⊢
                obtain ⟨y, hy, hy5, hw35⟩ := lr_out_35 hinv (fun q hq => by have := hgl q hq; simp only [List.length_append]; omega) (by omega) hsep
                refine mx_il5 d_Lr_readAtom_189 ?_
                refine mx_il2 d_Lr_readAtom_191 ?_
                refine mx_icN_ge 207 d_Lr_readAtom_192 (by decide) (by omega) (by omega) (fun c_192 => absurd c_192 (by omega)) (fun c_192 => ?_)
                refine mx_al0 d_Lr_readAtom_195 ?_
                refine mx_bipush (v := -35) d_Lr_readAtom_196 (by decide) ?_
                refine mx_cV1vR d_Lr_readAtom_198 (c_Lr_write hLr hy (by omega)) ok_Lr_write ml_Lr_84 (by assumption) ⟨rfl, rfl⟩ (by omega) (Nat.le_of_ble_eq_true rfl) (fun K9 hK9 => ?_)
                refine mx_iN5 d_Lr_readAtom_201 ?_
                refine mx_goto 189 d_Lr_readAtom_204 (by decide) ?_
                have e5 : nI (6 - e + k8 + 1) = nI (6 - e + (k8 + 1)) := by rfl
                refine mx_lsc (congrArg (fun z9 => ([some (.ref (lr)), some (.int (nI (6 - e))), some (.int (nI (6 - e + n))), some (.int (nI (tq_k f L (tq_b f L (c + n))))), some (.int (nI (0))), some (.int (z9))] : List (Option Value))) e5) ?_
                exact ih K9 (hw35 _ hK9)
              · skip
                obtain ⟨K, hz9⟩ : ∃ q, q = z9 := ⟨_, rfl⟩
                subst hz9
                try dsimp only at hinv ⊢
                refine mx_il5 d_Lr_readAtom_189 ?_
                refine mx_il2 d_Lr_readAtom_191 ?_
                refine mx_icN_ge 207 d_Lr_readAtom_192 (by decide) (by omega) (by omega) (fun c_192 => ?_) (fun c_192 => absurd c_192 (by omega))
                refine mx_il4 d_Lr_readAtom_207 ?_
                exact mx_zret d_Lr_readAtom_209 rfl (by first | exact Or.inl rfl | exact Or.inr rfl) (mx_sR_i (by rw [htl, gq_ok_wr, hok]; rfl) (by rw [htl]; rw [show 401 + e = 401 + (e - n) + n by omega]; exact hinv))
            · skip
              have h5 : tK f L q.2 = 5 := Decidable.byContradiction (fun z => by rw [gq_tk_n z] at c_77; cases c_77)
              rw [gq_tk_y h5] at hK3
              have hs := hs.tk hK3 hsep
              have er : r = .inr (q.1, q.2 + 1) := hr0.trans (gq_tl_3 c_43 (by omega) hq h5)
              have hr : lr_out I K3 lr te f L cs (401 + (e - n)) r := by rw [er]; exact hs
              have hok : gq_ok r = true := by rw [er]; rfl
              refine mx_in_1 d_Lr_readAtom_80 ?_
              refine mx_goto 85 d_Lr_readAtom_81 (by decide) ?_
              refine mx_is4 d_Lr_readAtom_85 ?_
              refine mx_goto 186 d_Lr_readAtom_87 (by decide) ?_
              refine mx_il1 d_Lr_readAtom_186 ?_
              refine mx_is5 d_Lr_readAtom_187 ?_
              refine mx_lsc (congrArg (fun z9 => ([some (.ref (lr)), some (.int (nI (6 - e))), some (.int (nI (6 - e + n))), some (.int (nI (tq_k f L (tq_b f L (c + n))))), some (.int (nI (1))), some (.int (z9))] : List (Option Value))) ((show nI (6 - e) = nI (6 - e + 0) from rfl))) ?_
              refine mx_loopX (α := (mx_I)) (N := n) (a0 := K3) (fun k8 z9 => lr_out I z9 lr te f L cs (401 + (e - n) + k8) (gq_wr k8 r)) (ls := fun k8 z9 => [some (.ref (lr)), some (.int (nI (6 - e))), some (.int (nI (6 - e + n))), some (.int (nI (tq_k f L (tq_b f L (c + n))))), some (.int (nI (1))), some (.int (nI (6 - e + k8)))]) (X := fun k8 z9 => (t, S, z9, P, J)) ((by rw [gq_wr_0]; exact hr)) (fun k8 hk8 z9 hinv ih => ?_) (fun z9 hinv => ?_)
              · skip
                obtain ⟨K, hz9⟩ : ∃ q, q = z9 := ⟨_, rfl⟩
                subst hz9
                try dsimp only at hinv ih ⊢
                obtain ⟨y, hy, hy5, hw35⟩ := lr_out_35 hinv (fun q hq => by have := hgl q hq; simp only [List.length_append]; omega) (by omega) hsep
                refine mx_il5 d_Lr_readAtom_189 ?_
                refine mx_il2 d_Lr_readAtom_191 ?_
                refine mx_icN_ge 207 d_Lr_readAtom_192 (by decide) (by omega) (by omega) (fun c_192 => absurd c_192 (by omega)) (fun c_192 => ?_)
                refine mx_al0 d_Lr_readAtom_195 ?_
                refine mx_bipush (v := -35) d_Lr_readAtom_196 (by decide) ?_
                refine mx_cV1vR d_Lr_readAtom_198 (c_Lr_write hLr hy (by omega)) ok_Lr_write ml_Lr_84 (by assumption) ⟨rfl, rfl⟩ (by omega) (Nat.le_of_ble_eq_true rfl) (fun K9 hK9 => ?_)
                refine mx_iN5 d_Lr_readAtom_201 ?_
                refine mx_goto 189 d_Lr_readAtom_204 (by decide) ?_
                have e5 : nI (6 - e + k8 + 1) = nI (6 - e + (k8 + 1)) := by rfl
                refine mx_lsc (congrArg (fun z9 => ([some (.ref (lr)), some (.int (nI (6 - e))), some (.int (nI (6 - e + n))), some (.int (nI (tq_k f L (tq_b f L (c + n))))), some (.int (nI (1))), some (.int (z9))] : List (Option Value))) e5) ?_
                exact ih K9 (hw35 _ hK9)
              · skip
                obtain ⟨K, hz9⟩ : ∃ q, q = z9 := ⟨_, rfl⟩
                subst hz9
                try dsimp only at hinv ⊢
                refine mx_il5 d_Lr_readAtom_189 ?_
                refine mx_il2 d_Lr_readAtom_191 ?_
                refine mx_icN_ge 207 d_Lr_readAtom_192 (by decide) (by omega) (by omega) (fun c_192 => ?_) (fun c_192 => absurd c_192 (by omega))
                refine mx_il4 d_Lr_readAtom_207 ?_
                exact mx_zret d_Lr_readAtom_209 rfl (by first | exact Or.inl rfl | exact Or.inr rfl) (mx_sR_i (by rw [htl, gq_ok_wr, hok]; rfl) (by rw [htl]; rw [show 401 + e = 401 + (e - n) + n by omega]; exact hinv))
theorem c_Lr_wuT (hLr : lr_ok S P lr te)  : mx_C l E M_Lr_writeUnless 2 0 0 [.ref (lr), .int (nI (1)), .int (nI (n))] (t, S, I, P, J) (mx_sR none t S P J (fun K => K = I)) := by
  obtain ⟨hR0, hR1, hR2, hR3, hR4, hR5, hR6, hR7, hR8, hR9, hsep⟩ := id hLr
  refine mx_C_of (ls0 := [some (.ref (lr)), some (.int (nI (1))), some (.int (nI (n)))]) (by decide +kernel) rfl rfl (Nat.le_of_ble_eq_true rfl) rfl ?_
  refine mx_il1 d_Lr_writeUnless_0 ?_
  refine mx_if_ne 10 d_Lr_writeUnless_1 (by decide) (fun c_1 => ?_) (fun c_1 => absurd c_1 (by decide))
  exact mx_vret d_Lr_writeUnless_10 rfl (mx_sR_of rfl rfl)
theorem c_Lr_wuF (hLr : lr_ok S P lr te) (hz : I lr 6 = nI z) (hz5 : z < 1000)  : mx_C l E M_Lr_writeUnless 2 0 0 [.ref (lr), .int (nI (0)), .int (nI (n))] (t, S, I, P, J) (mx_sR none t S P J (fun K => lr_wr I K lr z (-nI n))) := by
  obtain ⟨hR0, hR1, hR2, hR3, hR4, hR5, hR6, hR7, hR8, hR9, hsep⟩ := id hLr
  refine mx_C_of (ls0 := [some (.ref (lr)), some (.int (nI (0))), some (.int (nI (n)))]) (by decide +kernel) rfl rfl (Nat.le_of_ble_eq_true rfl) rfl ?_
  refine mx_il1 d_Lr_writeUnless_0 ?_
  refine mx_if_ne 10 d_Lr_writeUnless_1 (by decide) (fun c_1 => absurd (by decide) c_1) (fun c_1 => ?_)
  refine mx_al0 d_Lr_writeUnless_4 ?_
  refine mx_il2 d_Lr_writeUnless_5 ?_
  refine mx_ineg d_Lr_writeUnless_6 ?_
  refine mx_cV1vR d_Lr_writeUnless_7 (c_Lr_write hLr hz hz5) ok_Lr_write ml_Lr_84 (by assumption) ⟨rfl, rfl⟩ (by decide) (Nat.le_of_ble_eq_true rfl) (fun K1 hK1 => ?_)
  exact mx_vret d_Lr_writeUnless_10 rfl (mx_sR_of rfl hK1)
theorem c_Lr_wu (hLr : lr_ok S P lr te) (hs : lr_s I I lr te f L tt cl) (hl : b = false → cl.length < 400) (hsep : te + 6 ≤ lr) : mx_C l E M_Lr_writeUnless 2 0 0 [.ref (lr), .int (bI (b)), .int (nI (n))] (t, S, I, P, J) (mx_sR none t S P J (fun K => lr_s I K lr te f L tt (cl ++ if b = true then [] else [-nI n]))) := by
  cases b
  · refine mx_C_mono (c_Lr_wuF hLr hs.sz (by have := hl rfl; omega)) (mx_sR_mono (fun K hK => ?_))
    rw [if_neg (by simp)]
    exact hs.wr hK (hl rfl) hsep
  · refine mx_C_mono (c_Lr_wuT hLr) (mx_sR_mono (fun K hK => ?_))
    rw [if_pos rfl, List.append_nil, hK]
    exact hs
/-- where the reader of a condition stands -/
def rc_inv (I K : mx_I) (lr te : Nat) (f : Nat → Nat) (L e : Nat) (cs : List Int32) (c k : Nat) (fa fl : Bool) : Prop := ∃ tt d, lr_s I K lr te f L tt (cs ++ d) ∧ (cs ++ d).length + (if fa = true then 0 else 1) + (if fl = true then 0 else 1) ≤ tt ∧ gq_som (tK f L) (gq_atm (tK f L) (tV f L) e) c = gq_cnd (tK f L) (gq_atm (tK f L) (tV f L) e) (400 - k) fa fl d tt
theorem rc_step {A : Nat → gq_R} {K : Nat → Nat} {k : Nat} {fa fl : Bool} {r : gq_R} (hk : k < 400) (he : r = gq_cnd K A (400 - k) fa fl d tt) : r = match A tt with
    | .inl e => .inl e
    | .inr q => if K q.2 = 34 then gq_cnd K A (400 - (k + 1)) false fl (d ++ (q.1 ++ if fa = true then [] else [-nI 34])) (q.2 + 1)
      else if K q.2 = 33 then gq_cnd K A (400 - (k + 1)) true false (d ++ (q.1 ++ if fa = true then [] else [-nI 34]) ++ if fl = true then [] else [-nI 33]) (q.2 + 1)
      else .inr (d ++ (q.1 ++ if fa = true then [] else [-nI 34]) ++ if fl = true then [] else [-nI 33], q.2) := by
  rw [he, show 400 - k = (400 - (k + 1)) + 1 by omega, gq_cnd_s]
  cases A tt <;> rfl
theorem if_len {b : Bool} {x : Int32} : (if b = true then [] else [x]).length = if b = true then 0 else 1 := by cases b <;> rfl
theorem c_Lr_condN (hLr : lr_ok S P lr te) (hTe : te_ok S P te) (hs0 : lr_s I I lr te f L c cs) (hcl : cs.length ≤ c) (he6 : e ≤ 6) (hA : ∀ (I : mx_I) (c : Nat) (cs : List Int32), lr_s I I lr te f L c cs → cs.length ≤ c → mx_C l E M_Lr_readAtom (2 * e + 3) 0 0 [.ref (lr), .int (nI (6 - e))] (t, S, I, P, J) (mx_sR (some (.int (bI (gq_ok (gq_atm (tK f L) (tV f L) e c))))) t S P J (fun K => lr_out I K lr te f L cs (401 + e) (gq_atm (tK f L) (tV f L) e c))))  : mx_C l E M_Lr_readCondition (2 * e + 4) 0 0 [.ref (lr), .int (nI (6 - e))] (t, S, I, P, J) (mx_sR (some (.int (bI (gq_ok (gq_som (tK f L) (gq_atm (tK f L) (tV f L) e) c))))) t S P J (fun K => lr_out I K lr te f L cs (401 + e) (gq_som (tK f L) (gq_atm (tK f L) (tV f L) e) c))) := by
  obtain ⟨hR0, hR1, hR2, hR3, hR4, hR5, hR6, hR7, hR8, hR9, hsep⟩ := id hLr
  obtain ⟨hT0, hT1, hT2, hT3, hT4, hT5, hT6, hT7, hT8, hT9, hT10⟩ := id hTe
  have hL9 := hs0.tok.1.2.2
  have hTL := tq_n_le f L
  have hgo : ∀ t q, gq_atm (tK f L) (tV f L) e t = .inr q → t < q.2 ∧ q.2 ≤ tq_n f L ∧ q.1.length + t ≤ q.2 := fun t q hq => (gq_go_atm (tK0 rfl) e).2.1 t q hq
  refine mx_C_of (ls0 := [some (.ref (lr)), some (.int (nI (6 - e))), none, none, none]) (by decide +kernel) rfl rfl (Nat.le_of_ble_eq_true rfl) rfl ?_
  refine mx_in_1 d_Lr_readCondition_0 ?_
  refine mx_is2 d_Lr_readCondition_1 ?_
  refine mx_in_1 d_Lr_readCondition_2 ?_
  refine mx_is3 d_Lr_readCondition_3 ?_
  refine mx_in_0 d_Lr_readCondition_4 ?_
  refine mx_is4 d_Lr_readCondition_5 ?_
  refine mx_lsc (congrArg (fun z9 => ([some (.ref (lr)), some (.int (nI (6 - e))), some (.int (z9)), some (.int (nI (1))), some (.int (nI (0)))] : List (Option Value))) ((show nI 1 = bI true from rfl))) ?_
  refine mx_lsc (congrArg (fun z9 => ([some (.ref (lr)), some (.int (nI (6 - e))), some (.int (bI (true))), some (.int (z9)), some (.int (nI (0)))] : List (Option Value))) ((show nI 1 = bI true from rfl))) ?_
  refine mx_loopX (α := (mx_I × Bool × Bool)) (N := 400) (a0 := (I, true, true)) (fun k9 z9 => rc_inv I z9.1 lr te f L e cs c k9 z9.2.1 z9.2.2) (ls := fun k9 z9 => [some (.ref (lr)), some (.int (nI (6 - e))), some (.int (bI (z9.2.1))), some (.int (bI (z9.2.2))), some (.int (nI (k9)))]) (X := fun k9 z9 => (t, S, z9.1, P, J)) (⟨c, [], by rw [List.append_nil]; exact hs0, by rw [List.append_nil]; exact hcl, (gq_C3 (gq_go_atm (tK0 rfl) e) (tK0 rfl) (by omega) c).symm⟩) (fun k9 hk9 z9 hinv ih => ?_) (fun z9 hinv => ?_)
  · skip
    obtain ⟨K, fa, fl⟩ := z9
    try dsimp only at hinv ih ⊢
    obtain ⟨tt, d, hs, hl0, he⟩ := hinv
    have hl : (cs ++ d).length ≤ tt := by omega
    have he2 := rc_step hk9 he
    have hTT := hs.cur.2.2
    refine mx_il4 d_Lr_readCondition_7 ?_
    refine mx_sip 400 d_Lr_readCondition_9 (by decide) ?_
    refine mx_icN_ge 90 d_Lr_readCondition_12 (by decide) (by omega) (by omega) (fun c_12 => absurd c_12 (by omega)) (fun c_12 => ?_)
    refine mx_al0 d_Lr_readCondition_15 ?_
    refine mx_il1 d_Lr_readCondition_16 ?_
    refine mx_cV1iR d_Lr_readCondition_17 (hA _ tt (cs ++ d) hs.self (by omega)) ok_Lr_readAtom ml_Lr_77 (by assumption) ⟨rfl, rfl⟩ (by omega) (Nat.le_of_ble_eq_true rfl) (fun K1 hK1 => ?_)
    refine mx_ifB_ne 25 d_Lr_readCondition_20 (by decide) (fun c_20 => ?_) (fun c_20 => ?_)
    · skip
      obtain ⟨q, hq⟩ := gq_ok_t c_20
      rw [hq] at hK1 he2
      have hs := hs.tr hK1
      have hg := hgo _ _ hq
      have hk36 := tq_k_lt f L (tq_b f L q.2)
      refine mx_al0 d_Lr_readCondition_25 ?_
      refine mx_il2 d_Lr_readCondition_26 ?_
      refine mx_bip 34 d_Lr_readCondition_27 (by decide) ?_
      refine mx_cV2vR d_Lr_readCondition_29 (c_Lr_wu hLr hs.self (b := fa) (by intro hb; rw [hb] at hl0; simp only [List.length_append, if_len] at hl0 ⊢; simp at hl0; omega) hsep) ok_Lr_writeUnless ml_Lr_80 (by assumption) ⟨rfl, rfl⟩ (by omega) (Nat.le_of_ble_eq_true rfl) (fun K2 hK2 => ?_)
      have hs := hs.tr hK2
      rw [List.append_assoc, List.append_assoc] at hs
      refine mx_al0 d_Lr_readCondition_32 ?_
      refine mx_getR d_Lr_readCondition_33 fl_Lr_24 (by assumption) (by assumption) ?_
      refine mx_getI d_Lr_readCondition_36 fl_Lr_49 (by assumption) ?_
      refine mx_ti (y := nI (tq_k f L (tq_b f L q.2))) (hs.cur.2.1) ?_
      refine mx_bip 34 d_Lr_readCondition_39 (by decide) ?_
      refine mx_icN_eq 48 d_Lr_readCondition_41 (by decide) (by omega) (by omega) (fun c_41 => ?_) (fun c_41 => ?_)
      · skip
        have he3 := he2.trans (if_pos c_41)
        refine mx_in_0 d_Lr_readCondition_48 ?_
        refine mx_is2 d_Lr_readCondition_49 ?_
        refine mx_il2 d_Lr_readCondition_50 ?_
        refine mx_if_eq 77 d_Lr_readCondition_51 (by decide) (fun c_51 => ?_) (fun c_51 => absurd (by decide) c_51)
        refine mx_lsc (congrArg (fun z9 => ([some (.ref (lr)), some (.int (nI (6 - e))), some (.int (z9)), some (.int (bI (fl))), some (.int (nI (k9)))] : List (Option Value))) ((show nI 0 = bI false from rfl))) ?_
        refine mx_al0 d_Lr_readCondition_77 ?_
        refine mx_getR d_Lr_readCondition_78 fl_Lr_24 (by assumption) (by assumption) ?_
        refine mx_cV0vR d_Lr_readCondition_81 (c_Te_nextR hTe hs.tok hs.cur (tK_T (by show ¬ tq_k f L (tq_b f L q.2) = 0; omega))) ok_Te_next ml_Lr_63 (by assumption) ⟨rfl, rfl⟩ (by omega) (Nat.le_of_ble_eq_true rfl) (fun K4 hK4 => ?_)
        have hs := hs.tk hK4 hsep
        refine mx_iN4 d_Lr_readCondition_84 ?_
        refine mx_goto 7 d_Lr_readCondition_87 (by decide) ?_
        exact ih (K4, false, fl) (⟨q.2 + 1, _, hs, by simp only [List.length_append, if_len] at hl0 ⊢; first | omega | (rw [if_neg (show ¬ false = true by simp), if_pos (show true = true by rfl)] at *; omega) | (simp; omega), he3⟩)
      · skip
        refine mx_in_1 d_Lr_readCondition_44 ?_
        refine mx_goto 49 d_Lr_readCondition_45 (by decide) ?_
        refine mx_is2 d_Lr_readCondition_49 ?_
        refine mx_il2 d_Lr_readCondition_50 ?_
        refine mx_if_eq 77 d_Lr_readCondition_51 (by decide) (fun c_51 => absurd c_51 (by decide)) (fun c_51 => ?_)
        refine mx_al0 d_Lr_readCondition_54 ?_
        refine mx_il3 d_Lr_readCondition_55 ?_
        refine mx_bip 33 d_Lr_readCondition_56 (by decide) ?_
        refine mx_cV2vR d_Lr_readCondition_58 (c_Lr_wu hLr hs.self (b := fl) (by intro hb; rw [hb] at hl0; simp only [List.length_append, if_len] at hl0 ⊢; simp at hl0; omega) hsep) ok_Lr_writeUnless ml_Lr_80 (by assumption) ⟨rfl, rfl⟩ (by omega) (Nat.le_of_ble_eq_true rfl) (fun K3 hK3 => ?_)
        have hs := hs.tr hK3
        rw [List.append_assoc] at hs
        refine mx_in_0 d_Lr_readCondition_61 ?_
        refine mx_is3 d_Lr_readCondition_62 ?_
        refine mx_al0 d_Lr_readCondition_63 ?_
        refine mx_getR d_Lr_readCondition_64 fl_Lr_24 (by assumption) (by assumption) ?_
        refine mx_getI d_Lr_readCondition_67 fl_Lr_49 (by assumption) ?_
        refine mx_ti (y := nI (tq_k f L (tq_b f L q.2))) (hs.cur.2.1) ?_
        refine mx_bip 33 d_Lr_readCondition_70 (by decide) ?_
        refine mx_icN_eq 77 d_Lr_readCondition_72 (by decide) (by omega) (by omega) (fun c_72 => ?_) (fun c_72 => ?_)
        · skip
          have he3 := (he2.trans (if_neg c_41)).trans (if_pos c_72)
          refine mx_lsc (congrArg (fun z9 => ([some (.ref (lr)), some (.int (nI (6 - e))), some (.int (z9)), some (.int (nI (0))), some (.int (nI (k9)))] : List (Option Value))) ((show nI 1 = bI true from rfl))) ?_
          refine mx_lsc (congrArg (fun z9 => ([some (.ref (lr)), some (.int (nI (6 - e))), some (.int (bI (true))), some (.int (z9)), some (.int (nI (k9)))] : List (Option Value))) ((show nI 0 = bI false from rfl))) ?_
          refine mx_al0 d_Lr_readCondition_77 ?_
          refine mx_getR d_Lr_readCondition_78 fl_Lr_24 (by assumption) (by assumption) ?_
          refine mx_cV0vR d_Lr_readCondition_81 (c_Te_nextR hTe hs.tok hs.cur (tK_T (by show ¬ tq_k f L (tq_b f L q.2) = 0; omega))) ok_Te_next ml_Lr_63 (by assumption) ⟨rfl, rfl⟩ (by omega) (Nat.le_of_ble_eq_true rfl) (fun K4 hK4 => ?_)
          have hs := hs.tk hK4 hsep
          refine mx_iN4 d_Lr_readCondition_84 ?_
          refine mx_goto 7 d_Lr_readCondition_87 (by decide) ?_
          exact ih (K4, true, false) (⟨q.2 + 1, _, hs, by simp only [List.length_append, if_len] at hl0 ⊢; first | omega | (rw [if_neg (show ¬ false = true by simp), if_pos (show true = true by rfl)] at *; omega) | (simp; omega), he3⟩)
        · skip
          have he3 := (he2.trans (if_neg c_41)).trans (if_neg c_72)
          refine mx_in_1 d_Lr_readCondition_75 ?_
          exact mx_zret d_Lr_readCondition_76 rfl (by first | exact Or.inl rfl | exact Or.inr rfl) (mx_sR_i (by rw [he3]; rfl) (by rw [he3]; exact hs))
    · skip
      obtain ⟨b, hb⟩ := gq_ok_f c_20
      rw [hb] at hK1 he2
      have hbad := hs.trb hK1
      refine mx_in_0 d_Lr_readCondition_23 ?_
      exact mx_zret d_Lr_readCondition_24 rfl (by first | exact Or.inl rfl | exact Or.inr rfl) (mx_sR_i (by rw [he2]; rfl) (by rw [he2]; exact hbad))
  · skip
    obtain ⟨K, fa, fl⟩ := z9
    try dsimp only at hinv ⊢
    obtain ⟨tt, d, hs, hl0, he⟩ := hinv
    have hl : (cs ++ d).length ≤ tt := by omega
    have he3 : gq_som (tK f L) (gq_atm (tK f L) (tV f L) e) c = .inl tt := he
    have hTT := hs.cur.2.2
    refine mx_il4 d_Lr_readCondition_7 ?_
    refine mx_sip 400 d_Lr_readCondition_9 (by decide) ?_
    refine mx_icN_ge 90 d_Lr_readCondition_12 (by decide) (by omega) (by omega) (fun c_12 => ?_) (fun c_12 => absurd c_12 (by omega))
    refine mx_al0 d_Lr_readCondition_90 ?_
    refine mx_getR d_Lr_readCondition_91 fl_Lr_24 (by assumption) (by assumption) ?_
    refine mx_cV0iR d_Lr_readCondition_94 (c_Te_refuseR hTe hs.tok hs.cur) ok_Te_refuse ml_Lr_60 (by assumption) ⟨rfl, rfl⟩ (by omega) (Nat.le_of_ble_eq_true rfl) (fun K1 hK1 => ?_)
    exact mx_zret d_Lr_readCondition_97 rfl (bI_01 _) (mx_sR_i (by rw [he3]; rfl) (by rw [he3]; exact hs.bad hK1 hsep (by omega)))
theorem c_Lr_cond (hLr : lr_ok S P lr te) (hTe : te_ok S P te) : ∀ e, e ≤ 6 → lc_C l E t S P J lr te f L e (2 * e + 4) := by
  intro e
  induction e using Nat.strongRecOn with
  | _ e ih =>
    intro he I c cs hs hcl
    exact c_Lr_condN hLr hTe hs hcl he (fun I c cs hs hcl => c_Lr_atomN hLr hTe hs hcl (n := nt (tK f L) e c) rfl he (fun e2 h2 => ih e2 h2 (by omega)))
end AS60
