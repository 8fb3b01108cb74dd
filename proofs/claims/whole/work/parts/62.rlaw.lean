/-! THE REFERENCE READS THE LAW: parts, sums -/
/-- an answer v and a memory of which R tells -/
def mx_vR (t : Nat) (S : mx_S) (P : mx_P) (J : mx_G) (R : Int32 → mx_I → Prop) : mx_R → mx_H → Prop := fun r X => ∃ v K, r = .inl (some (.int v)) ∧ X = (t, S, K, P, J) ∧ R v K
theorem mx_vR_i {t : Nat} {S : mx_S} {P : mx_P} {J : mx_G} {v : Int32} {K : mx_I} {R : Int32 → mx_I → Prop} (h : R v K) : mx_vR t S P J R (.inl (some (.int v))) (t, S, K, P, J) := ⟨v, K, rfl, rfl, h⟩
section MXY
variable {l : Launch} {E : mx_Env} {M M' : mx_M} {d d' k n pc nx idx c a : Nat} {ls : List (Option Value)} {st : List Value} {X : mx_H} {Q : mx_R → mx_H → Prop} {t : Nat} {S : mx_S} {P : mx_P} {J : mx_G} {R : Int32 → mx_I → Prop}
theorem mx_cV0y {q : vw_C} (hd : mx_d M pc (.invokevirtual idx) 3 nx) (hc : mx_C l E M' d' 0 0 [.ref a] X (mx_vR t S P J R)) (hM : mx_okM M' 0) (hw : Cond.methodLink (mx_own M) idx (mx_y M') ∈ mx_W ∧ Cond.instanceMethod (mx_y M') ∈ mx_W ∧ Cond.selects (mx_y M').cls (mx_y M') (mx_y M') ∈ mx_W) (hs : X.2.1 a = some (0, c)) (hq : mx_cl[c]? = some q ∧ q.1 = (mx_y M').cls) (hdd : d' + 1 ≤ d) (hcat : (st.map fun v => v.category).sum ≤ 8) (kk : ∀ v K, R v K → mx_E l E M d k n nx ls (.int v :: st) (t, S, K, P, J) Q) : mx_E l E M d k n pc ls (.ref a :: st) X Q :=
  mx_callV (k2 := k) (n2 := n) hd hc hM hw hs hq rfl rfl hcat hdd (by omega) (by omega) (fun w X9 h => by obtain ⟨v, K, h1, rfl, h2⟩ := h; cases h1; exact kk v K h2) (fun C X9 h => by obtain ⟨v, K, h1, -⟩ := h; cases h1)
end MXY
section AU62
variable {l : Launch} {E : mx_Env} {t : Nat} {S : mx_S} {I K K2 I0 : mx_I} {P : mx_P} {J : mx_G} {mo L a e c n i dp u u2 : Nat} {f : Nat → Nat} {w : List Nat} {b : Bool} {v : Int32} {fc : Nat → Int32}
def mc_off (I K : mx_I) (mo : Nat) : Prop := (∀ c, c ≠ mo → K c = I c) ∧ ∀ k, k ≠ 11 → k ≠ 12 → k ≠ 13 → K mo k = I mo k
theorem mc_off.rf : mc_off I I mo := ⟨fun _ _ => rfl, fun _ _ _ _ => rfl⟩
theorem mc_off.tr (h : mc_off I K mo) (h2 : mc_off K K2 mo) : mc_off I K2 mo := ⟨fun c hc => (h2.1 c hc).trans (h.1 c hc), fun k a b c => (h2.2 k a b c).trans (h.2 k a b c)⟩
theorem mc_off.uu {k : Nat} {x : Int32} (h : mc_off I K mo) (hk : k = 11 ∨ k = 12 ∨ k = 13) : mc_off I (mx_up K mo k x) mo := ⟨fun c hc => by rw [← h.1 c hc, mx_up_ne hc], fun j h1 h2 h3 => by rw [← h.2 j h1 h2 h3]; simp [mx_up, show j ≠ k by omega]⟩
theorem mt_off.mc (h : mt_off I K mo) : mc_off I K mo := ⟨h.1, fun k a b _ => h.2 k a b⟩
theorem mc_off.tx (h : mc_off I K mo) (hx : mt_tx I mo f L) : mt_tx K mo f L := hx.of (h.1 _ (by omega)) (h.1 _ (by omega)) (h.2 9 (by omega) (by omega) (by omega)) (h.2 10 (by omega) (by omega) (by omega))
/-- nothing is wrong, the token c comes next, so deep in not and ( -/
def mc_s (I K : mx_I) (mo : Nat) (f : Nat → Nat) (L c dp : Nat) : Prop := mc_off I K mo ∧ K mo 12 = -1 ∧ mt_cur K mo f L c ∧ K mo 13 = nI dp
def mc_bad (I K : mx_I) (mo : Nat) (f : Nat → Nat) (L e u : Nat) : Prop := mc_off I K mo ∧ K mo 12 = nI (tq_b f L e) ∧ ∃ a, K mo 11 = nI a ∧ a ≤ u
theorem mc_s.tx (h : mc_s I K mo f L c dp) (hx : mt_tx I mo f L) : mt_tx K mo f L := h.1.tx hx
theorem mc_s.f0 (h : mc_s I K mo f L c dp) : K mo 12 = -1 := h.2.1
theorem mc_s.cu (h : mc_s I K mo f L c dp) : mt_cur K mo f L c := h.2.2.1
theorem mc_s.tr {c2 d2 : Nat} (h : mc_s I K mo f L c dp) (h2 : mc_s K K2 mo f L c2 d2) : mc_s I K2 mo f L c2 d2 := ⟨h.1.tr h2.1, h2.2⟩
theorem mc_s.trb (h : mc_s I K mo f L c dp) (h2 : mc_bad K K2 mo f L e u) : mc_bad I K2 mo f L e u := ⟨h.1.tr h2.1, h2.2⟩
theorem mc_s.self (h : mc_s I K mo f L c dp) : mc_s K K mo f L c dp := ⟨mc_off.rf, h.2⟩
theorem mc_bad.f1 (h : mc_bad I K mo f L e u) (hL : L ≤ 400) : ¬ K mo 12 = -1 := by rw [h.2.1]; exact nI_m1b (by have := tq_bL f L e; omega)
theorem mc_bad.le (h : mc_bad I K mo f L e u) (hu : u ≤ u2) : mc_bad I K mo f L e u2 := by
  obtain ⟨h1, h2, a, h3, h4⟩ := h
  exact ⟨h1, h2, a, h3, by omega⟩
theorem mc_s.up (h : mc_s I K mo f L c dp) (hc : c < tq_n f L) (ha : a = tq_en f L (tq_b f L c)) : mc_s I (mx_up K mo 11 (nI a)) mo f L (c + 1) dp := by
  subst ha
  exact ⟨h.1.uu (by omega), by rw [← h.2.1]; simp [mx_up], mt_cur_en hc, by rw [← h.2.2.2]; simp [mx_up]⟩
theorem mc_s.wrong (h : mc_s I K mo f L c dp) (ha : K mo 11 = nI (tq_b f L c)) (hu : 400 ≤ u) (hL : L ≤ 400) : mc_bad I (mx_up K mo 12 (nI (tq_b f L c))) mo f L c u := ⟨h.1.uu (by omega), mu_e, tq_b f L c, by rw [← ha]; simp [mx_up], by have := tq_bL f L c; omega⟩
theorem mc_s.bb (h : mc_s I K mo f L c dp) : mc_s I (mx_up K mo 11 (nI (tq_b f L c))) mo f L c dp := ⟨h.1.uu (by omega), by rw [← h.2.1]; simp [mx_up], mt_cur_b h.2.2.1.choose_spec.2.2.2, by rw [← h.2.2.2]; simp [mx_up]⟩
theorem c_Mo_skipS (hM : mo_ok S P mo) (hx : mt_tx I mo f L) (hs : mc_s I0 I mo f L c dp) : mx_C l E M_Mo_skip 1 0 0 [.ref (mo)] (t, S, I, P, J) (mx_sR none t S P J (fun K => mc_s I0 K mo f L c dp ∧ K mo 11 = nI (tq_b f L c))) := by
  obtain ⟨a, h1, h2, h3, h4⟩ := hs.cu
  have hL := hx.2.1
  refine mx_C_mono (c_Mo_skip hM hx h1 (by omega)) (mx_rv_sR ?_)
  rw [h3]
  exact ⟨hs.bb, mu_e⟩
theorem c_Mo_hereS (hM : mo_ok S P mo) (hx : mt_tx I mo f L) (hs : mc_s I0 I mo f L c dp) : mx_C l E M_Mo_here 2 0 0 [.ref (mo)] (t, S, I, P, J) (mx_sR (some (.int (nI (tq_b f L c)))) t S P J (fun K => mc_s I0 K mo f L c dp ∧ K mo 11 = nI (tq_b f L c))) := by
  obtain ⟨a, h1, h2, h3, h4⟩ := hs.cu
  have hL := hx.2.1
  have h := c_Mo_here (l := l) (E := E) (t := t) (J := J) hM hx h1 (by omega)
  rw [h3] at h
  exact mx_C_mono h (fun r X hh => ⟨hh.1, _, hh.2, hs.bb, mu_e⟩)
theorem c_Mo_isSignS (hM : mo_ok S P mo) (hx : mt_tx I mo f L) (hs : mc_s I0 I mo f L c dp) {q : Nat × Nat} (hq : q ∈ tq_SL) : mx_C l E M_Mo_isSign 2 0 0 [.ref (mo), .int (nI q.1)] (t, S, I, P, J) (mx_sR (some (.int (bI (decide (tK f L c = q.2))))) t S P J (fun K => mc_s I0 K mo f L c dp ∧ K mo 11 = nI (tq_b f L c))) :=
  mx_C_mono (c_Mo_isSign hM hx hs.cu hq) (fun r X hh => ⟨hh.1, _, hh.2, hs.bb, mu_e⟩)
theorem c_Mo_hasS (hM : mo_ok S P mo) (hx : mt_tx I mo f L) (hs : mc_s I0 I mo f L c dp) {q : List Nat × Nat} (hq : q ∈ tq_WL) (hi : i < 69) (hw : sx_w i q.1) : mx_C l E M_Mo_has 4 0 0 [.ref (mo), .ref (mx_aK E i)] (t, S, I, P, J) (mx_sR (some (.int (bI (decide (tK f L c = q.2))))) t S P J (fun K => mc_s I0 K mo f L (if tK f L c = q.2 then c + 1 else c) dp ∧ (¬ tK f L c = q.2 → K mo 11 = nI (tq_b f L c)))) :=
  mx_C_mono (c_Mo_has hM hx hs.cu hq hi hw) (fun r X hh => by
    refine ⟨hh.1, _, hh.2, ?_, fun hn => by rw [if_neg hn]; exact mu_e⟩
    by_cases d : tK f L c = q.2
    · rw [if_pos d, if_pos d]
      exact hs.up (tK_lt d (by have := tq_WL3 q hq; omega)) rfl
    · rw [if_neg d, if_neg d]
      exact hs.bb)
theorem c_Mo_figuresS (hM : mo_ok S P mo) (hx : mt_tx I mo f L) (hs : mc_s I0 I mo f L c dp) {lo hb : Nat} {hi : Int32} (hlo : lo < 10000) (hhi : ∀ v, v < 10000 → (nI v ≤ hi ↔ v < hb)) : mx_C l E M_Mo_figures 3 0 0 [.ref (mo), .int (nI (lo)), .int (hi)] (t, S, I, P, J) (mx_sR (some (.int (nI (fg_v f L (tq_b f L c))))) t S P J (fun K => match gq_num (tK f L) (tV f L) lo hb c with | .inl e => mc_bad I0 K mo f L e 500 | .inr q => mc_s I0 K mo f L q.2 dp)) :=
  mx_C_mono (c_Mo_figures0 hM hx hs.cu hs.f0 hlo hhi) (mx_sR_mono (fun K hK => by
    obtain ⟨h1, h2⟩ := hK
    cases hr : gq_num (tK f L) (tV f L) lo hb c with
    | inl e =>
      rw [hr] at h2
      exact ⟨hs.1.tr h1.mc, h2.1, h2.2⟩
    | inr q =>
      rw [hr] at h2
      exact ⟨hs.1.tr h1.mc, h2.1, h2.2, (h1.2 13 (by omega) (by omega)).trans hs.2.2.2⟩))
theorem c_Mo_wrongS (hM : mo_ok S P mo) (hs : mc_s I0 I mo f L c dp) (ha : I mo 11 = nI (tq_b f L c)) (hu : 400 ≤ u) (hL : L ≤ 400) : mx_C l E M_Mo_wrong 0 0 0 [.ref (mo), .int (nI (tq_b f L c))] (t, S, I, P, J) (mx_sR none t S P J (fun K => mc_bad I0 K mo f L c u)) :=
  mx_C_mono (c_Mo_wrong0 hM hs.f0) (mx_rv_sR (hs.wrong ha hu hL))
theorem fg_num {lo hb : Nat} {q : Nat × Nat} (h : gq_num (tK f L) (tV f L) lo hb c = .inr q) (hc : c ≤ tq_n f L) : q.1 = fg_v f L (tq_b f L c) := by
  by_cases z : fg_n f L (tq_b f L c) = 0 ∨ 3 < fg_n f L (tq_b f L c) ∨ fg_v f L (tq_b f L c) < lo ∨ hb ≤ fg_v f L (tq_b f L c)
  · rw [fg_bad z] at h; cases h
  · have := fg_good (f := f) (L := L) (c := c) (lo := lo) (hb := hb) (by omega) (by omega) (by omega) (by omega) hc
    rw [this.1] at h; cases h; rfl
theorem c_Mo_has_43 (hM : mo_ok S P mo) (hx : mt_tx I mo f L) (hs : mc_s I0 I mo f L c dp) : mx_C l E M_Mo_has 4 0 0 [.ref (mo), .ref (mx_aK E 43)] (t, S, I, P, J) (mx_sR (some (.int (bI (decide (tK f L c = 29))))) t S P J (fun K => mc_s I0 K mo f L (if tK f L c = 29 then c + 1 else c) dp ∧ (¬ tK f L c = 29 → K mo 11 = nI (tq_b f L c)))) := c_Mo_hasS hM hx hs (q := ([103, 108, 97, 100], 29)) (by decide +kernel) (by omega) (by decide +kernel)
theorem c_Mo_has_44 (hM : mo_ok S P mo) (hx : mt_tx I mo f L) (hs : mc_s I0 I mo f L c dp) : mx_C l E M_Mo_has 4 0 0 [.ref (mo), .ref (mx_aK E 44)] (t, S, I, P, J) (mx_sR (some (.int (bI (decide (tK f L c = 30))))) t S P J (fun K => mc_s I0 K mo f L (if tK f L c = 30 then c + 1 else c) dp ∧ (¬ tK f L c = 30 → K mo 11 = nI (tq_b f L c)))) := c_Mo_hasS hM hx hs (q := ([115, 111, 117, 114], 30)) (by decide +kernel) (by omega) (by decide +kernel)
theorem c_Mo_has_45 (hM : mo_ok S P mo) (hx : mt_tx I mo f L) (hs : mc_s I0 I mo f L c dp) : mx_C l E M_Mo_has 4 0 0 [.ref (mo), .ref (mx_aK E 45)] (t, S, I, P, J) (mx_sR (some (.int (bI (decide (tK f L c = 31))))) t S P J (fun K => mc_s I0 K mo f L (if tK f L c = 31 then c + 1 else c) dp ∧ (¬ tK f L c = 31 → K mo 11 = nI (tq_b f L c)))) := c_Mo_hasS hM hx hs (q := ([97, 100, 109, 105, 116], 31)) (by decide +kernel) (by omega) (by decide +kernel)
theorem c_Mo_has_46 (hM : mo_ok S P mo) (hx : mt_tx I mo f L) (hs : mc_s I0 I mo f L c dp) : mx_C l E M_Mo_has 4 0 0 [.ref (mo), .ref (mx_aK E 46)] (t, S, I, P, J) (mx_sR (some (.int (bI (decide (tK f L c = 32))))) t S P J (fun K => mc_s I0 K mo f L (if tK f L c = 32 then c + 1 else c) dp ∧ (¬ tK f L c = 32 → K mo 11 = nI (tq_b f L c)))) := c_Mo_hasS hM hx hs (q := ([105, 102], 32)) (by decide +kernel) (by omega) (by decide +kernel)
theorem c_Mo_has_47 (hM : mo_ok S P mo) (hx : mt_tx I mo f L) (hs : mc_s I0 I mo f L c dp) : mx_C l E M_Mo_has 4 0 0 [.ref (mo), .ref (mx_aK E 47)] (t, S, I, P, J) (mx_sR (some (.int (bI (decide (tK f L c = 35))))) t S P J (fun K => mc_s I0 K mo f L (if tK f L c = 35 then c + 1 else c) dp ∧ (¬ tK f L c = 35 → K mo 11 = nI (tq_b f L c)))) := c_Mo_hasS hM hx hs (q := ([110, 111, 116], 35)) (by decide +kernel) (by omega) (by decide +kernel)
theorem c_Mo_has_48 (hM : mo_ok S P mo) (hx : mt_tx I mo f L) (hs : mc_s I0 I mo f L c dp) : mx_C l E M_Mo_has 4 0 0 [.ref (mo), .ref (mx_aK E 48)] (t, S, I, P, J) (mx_sR (some (.int (bI (decide (tK f L c = 17))))) t S P J (fun K => mc_s I0 K mo f L (if tK f L c = 17 then c + 1 else c) dp ∧ (¬ tK f L c = 17 → K mo 11 = nI (tq_b f L c)))) := c_Mo_hasS hM hx hs (q := ([109, 97, 114, 107, 101, 100], 17)) (by decide +kernel) (by omega) (by decide +kernel)
theorem c_Mo_has_49 (hM : mo_ok S P mo) (hx : mt_tx I mo f L) (hs : mc_s I0 I mo f L c dp) : mx_C l E M_Mo_has 4 0 0 [.ref (mo), .ref (mx_aK E 49)] (t, S, I, P, J) (mx_sR (some (.int (bI (decide (tK f L c = 18))))) t S P J (fun K => mc_s I0 K mo f L (if tK f L c = 18 then c + 1 else c) dp ∧ (¬ tK f L c = 18 → K mo 11 = nI (tq_b f L c)))) := c_Mo_hasS hM hx hs (q := ([101, 120, 112, 101, 99, 116, 101, 100], 18)) (by decide +kernel) (by omega) (by decide +kernel)
theorem c_Mo_has_50 (hM : mo_ok S P mo) (hx : mt_tx I mo f L) (hs : mc_s I0 I mo f L c dp) : mx_C l E M_Mo_has 4 0 0 [.ref (mo), .ref (mx_aK E 50)] (t, S, I, P, J) (mx_sR (some (.int (bI (decide (tK f L c = 10))))) t S P J (fun K => mc_s I0 K mo f L (if tK f L c = 10 then c + 1 else c) dp ∧ (¬ tK f L c = 10 → K mo 11 = nI (tq_b f L c)))) := c_Mo_hasS hM hx hs (q := ([104, 111, 115, 116], 10)) (by decide +kernel) (by omega) (by decide +kernel)
theorem c_Mo_has_51 (hM : mo_ok S P mo) (hx : mt_tx I mo f L) (hs : mc_s I0 I mo f L c dp) : mx_C l E M_Mo_has 4 0 0 [.ref (mo), .ref (mx_aK E 51)] (t, S, I, P, J) (mx_sR (some (.int (bI (decide (tK f L c = 11))))) t S P J (fun K => mc_s I0 K mo f L (if tK f L c = 11 then c + 1 else c) dp ∧ (¬ tK f L c = 11 → K mo 11 = nI (tq_b f L c)))) := c_Mo_hasS hM hx hs (q := ([103, 117, 101, 115, 116], 11)) (by decide +kernel) (by omega) (by decide +kernel)
theorem c_Mo_has_52 (hM : mo_ok S P mo) (hx : mt_tx I mo f L) (hs : mc_s I0 I mo f L c dp) : mx_C l E M_Mo_has 4 0 0 [.ref (mo), .ref (mx_aK E 52)] (t, S, I, P, J) (mx_sR (some (.int (bI (decide (tK f L c = 12))))) t S P J (fun K => mc_s I0 K mo f L (if tK f L c = 12 then c + 1 else c) dp ∧ (¬ tK f L c = 12 → K mo 11 = nI (tq_b f L c)))) := c_Mo_hasS hM hx hs (q := ([113, 117, 97, 114, 116, 101, 114], 12)) (by decide +kernel) (by omega) (by decide +kernel)
theorem c_Mo_has_53 (hM : mo_ok S P mo) (hx : mt_tx I mo f L) (hs : mc_s I0 I mo f L c dp) : mx_C l E M_Mo_has 4 0 0 [.ref (mo), .ref (mx_aK E 53)] (t, S, I, P, J) (mx_sR (some (.int (bI (decide (tK f L c = 13))))) t S P J (fun K => mc_s I0 K mo f L (if tK f L c = 13 then c + 1 else c) dp ∧ (¬ tK f L c = 13 → K mo 11 = nI (tq_b f L c)))) := c_Mo_hasS hM hx hs (q := ([108, 111, 110, 101, 108, 121], 13)) (by decide +kernel) (by omega) (by decide +kernel)
theorem c_Mo_has_54 (hM : mo_ok S P mo) (hx : mt_tx I mo f L) (hs : mc_s I0 I mo f L c dp) : mx_C l E M_Mo_has 4 0 0 [.ref (mo), .ref (mx_aK E 54)] (t, S, I, P, J) (mx_sR (some (.int (bI (decide (tK f L c = 14))))) t S P J (fun K => mc_s I0 K mo f L (if tK f L c = 14 then c + 1 else c) dp ∧ (¬ tK f L c = 14 → K mo 11 = nI (tq_b f L c)))) := c_Mo_hasS hM hx hs (q := ([114, 97, 110, 107], 14)) (by decide +kernel) (by omega) (by decide +kernel)
theorem c_Mo_has_55 (hM : mo_ok S P mo) (hx : mt_tx I mo f L) (hs : mc_s I0 I mo f L c dp) : mx_C l E M_Mo_has 4 0 0 [.ref (mo), .ref (mx_aK E 55)] (t, S, I, P, J) (mx_sR (some (.int (bI (decide (tK f L c = 15))))) t S P J (fun K => mc_s I0 K mo f L (if tK f L c = 15 then c + 1 else c) dp ∧ (¬ tK f L c = 15 → K mo 11 = nI (tq_b f L c)))) := c_Mo_hasS hM hx hs (q := ([108, 111, 118, 101, 100], 15)) (by decide +kernel) (by omega) (by decide +kernel)
theorem c_Mo_has_56 (hM : mo_ok S P mo) (hx : mt_tx I mo f L) (hs : mc_s I0 I mo f L c dp) : mx_C l E M_Mo_has 4 0 0 [.ref (mo), .ref (mx_aK E 56)] (t, S, I, P, J) (mx_sR (some (.int (bI (decide (tK f L c = 16))))) t S P J (fun K => mc_s I0 K mo f L (if tK f L c = 16 then c + 1 else c) dp ∧ (¬ tK f L c = 16 → K mo 11 = nI (tq_b f L c)))) := c_Mo_hasS hM hx hs (q := ([119, 101, 101, 107], 16)) (by decide +kernel) (by omega) (by decide +kernel)
theorem c_Mo_has_57 (hM : mo_ok S P mo) (hx : mt_tx I mo f L) (hs : mc_s I0 I mo f L c dp) : mx_C l E M_Mo_has 4 0 0 [.ref (mo), .ref (mx_aK E 57)] (t, S, I, P, J) (mx_sR (some (.int (bI (decide (tK f L c = 34))))) t S P J (fun K => mc_s I0 K mo f L (if tK f L c = 34 then c + 1 else c) dp ∧ (¬ tK f L c = 34 → K mo 11 = nI (tq_b f L c)))) := c_Mo_hasS hM hx hs (q := ([97, 110, 100], 34)) (by decide +kernel) (by omega) (by decide +kernel)
theorem c_Mo_has_58 (hM : mo_ok S P mo) (hx : mt_tx I mo f L) (hs : mc_s I0 I mo f L c dp) : mx_C l E M_Mo_has 4 0 0 [.ref (mo), .ref (mx_aK E 58)] (t, S, I, P, J) (mx_sR (some (.int (bI (decide (tK f L c = 33))))) t S P J (fun K => mc_s I0 K mo f L (if tK f L c = 33 then c + 1 else c) dp ∧ (¬ tK f L c = 33 → K mo 11 = nI (tq_b f L c)))) := c_Mo_hasS hM hx hs (q := ([111, 114], 33)) (by decide +kernel) (by omega) (by decide +kernel)
theorem c_Mo_has_59 (hM : mo_ok S P mo) (hx : mt_tx I mo f L) (hs : mc_s I0 I mo f L c dp) : mx_C l E M_Mo_has 4 0 0 [.ref (mo), .ref (mx_aK E 59)] (t, S, I, P, J) (mx_sR (some (.int (bI (decide (tK f L c = 19))))) t S P J (fun K => mc_s I0 K mo f L (if tK f L c = 19 then c + 1 else c) dp ∧ (¬ tK f L c = 19 → K mo 11 = nI (tq_b f L c)))) := c_Mo_hasS hM hx hs (q := ([112, 97, 116, 105, 101, 110, 99, 101], 19)) (by decide +kernel) (by omega) (by decide +kernel)
theorem c_Mo_has_60 (hM : mo_ok S P mo) (hx : mt_tx I mo f L) (hs : mc_s I0 I mo f L c dp) : mx_C l E M_Mo_has 4 0 0 [.ref (mo), .ref (mx_aK E 60)] (t, S, I, P, J) (mx_sR (some (.int (bI (decide (tK f L c = 20))))) t S P J (fun K => mc_s I0 K mo f L (if tK f L c = 20 then c + 1 else c) dp ∧ (¬ tK f L c = 20 → K mo 11 = nI (tq_b f L c)))) := c_Mo_hasS hM hx hs (q := ([102, 114, 111, 109], 20)) (by decide +kernel) (by omega) (by decide +kernel)
theorem c_Mo_has_61 (hM : mo_ok S P mo) (hx : mt_tx I mo f L) (hs : mc_s I0 I mo f L c dp) : mx_C l E M_Mo_has 4 0 0 [.ref (mo), .ref (mx_aK E 61)] (t, S, I, P, J) (mx_sR (some (.int (bI (decide (tK f L c = 21))))) t S P J (fun K => mc_s I0 K mo f L (if tK f L c = 21 then c + 1 else c) dp ∧ (¬ tK f L c = 21 → K mo 11 = nI (tq_b f L c)))) := c_Mo_hasS hM hx hs (q := ([116, 111], 21)) (by decide +kernel) (by omega) (by decide +kernel)
theorem c_Mo_has_62 (hM : mo_ok S P mo) (hx : mt_tx I mo f L) (hs : mc_s I0 I mo f L c dp) : mx_C l E M_Mo_has 4 0 0 [.ref (mo), .ref (mx_aK E 62)] (t, S, I, P, J) (mx_sR (some (.int (bI (decide (tK f L c = 22))))) t S P J (fun K => mc_s I0 K mo f L (if tK f L c = 22 then c + 1 else c) dp ∧ (¬ tK f L c = 22 → K mo 11 = nI (tq_b f L c)))) := c_Mo_hasS hM hx hs (q := ([115, 116, 97, 121], 22)) (by decide +kernel) (by omega) (by decide +kernel)
theorem c_Mo_has_63 (hM : mo_ok S P mo) (hx : mt_tx I mo f L) (hs : mc_s I0 I mo f L c dp) : mx_C l E M_Mo_has 4 0 0 [.ref (mo), .ref (mx_aK E 63)] (t, S, I, P, J) (mx_sR (some (.int (bI (decide (tK f L c = 23))))) t S P J (fun K => mc_s I0 K mo f L (if tK f L c = 23 then c + 1 else c) dp ∧ (¬ tK f L c = 23 → K mo 11 = nI (tq_b f L c)))) := c_Mo_hasS hM hx hs (q := ([109, 97, 114, 107, 115], 23)) (by decide +kernel) (by omega) (by decide +kernel)
theorem c_Mo_has_64 (hM : mo_ok S P mo) (hx : mt_tx I mo f L) (hs : mc_s I0 I mo f L c dp) : mx_C l E M_Mo_has 4 0 0 [.ref (mo), .ref (mx_aK E 64)] (t, S, I, P, J) (mx_sR (some (.int (bI (decide (tK f L c = 24))))) t S P J (fun K => mc_s I0 K mo f L (if tK f L c = 24 then c + 1 else c) dp ∧ (¬ tK f L c = 24 → K mo 11 = nI (tq_b f L c)))) := c_Mo_hasS hM hx hs (q := ([108, 105, 107, 101, 115], 24)) (by decide +kernel) (by omega) (by decide +kernel)
theorem c_Mo_has_65 (hM : mo_ok S P mo) (hx : mt_tx I mo f L) (hs : mc_s I0 I mo f L c dp) : mx_C l E M_Mo_has 4 0 0 [.ref (mo), .ref (mx_aK E 65)] (t, S, I, P, J) (mx_sR (some (.int (bI (decide (tK f L c = 25))))) t S P J (fun K => mc_s I0 K mo f L (if tK f L c = 25 then c + 1 else c) dp ∧ (¬ tK f L c = 25 → K mo 11 = nI (tq_b f L c)))) := c_Mo_hasS hM hx hs (q := ([108, 111, 118, 101, 115], 25)) (by decide +kernel) (by omega) (by decide +kernel)
theorem c_Mo_has_66 (hM : mo_ok S P mo) (hx : mt_tx I mo f L) (hs : mc_s I0 I mo f L c dp) : mx_C l E M_Mo_has 4 0 0 [.ref (mo), .ref (mx_aK E 66)] (t, S, I, P, J) (mx_sR (some (.int (bI (decide (tK f L c = 26))))) t S P J (fun K => mc_s I0 K mo f L (if tK f L c = 26 then c + 1 else c) dp ∧ (¬ tK f L c = 26 → K mo 11 = nI (tq_b f L c)))) := c_Mo_hasS hM hx hs (q := ([114, 97, 105, 110], 26)) (by decide +kernel) (by omega) (by decide +kernel)
theorem c_Mo_has_67 (hM : mo_ok S P mo) (hx : mt_tx I mo f L) (hs : mc_s I0 I mo f L c dp) : mx_C l E M_Mo_has 4 0 0 [.ref (mo), .ref (mx_aK E 67)] (t, S, I, P, J) (mx_sR (some (.int (bI (decide (tK f L c = 27))))) t S P J (fun K => mc_s I0 K mo f L (if tK f L c = 27 then c + 1 else c) dp ∧ (¬ tK f L c = 27 → K mo 11 = nI (tq_b f L c)))) := c_Mo_hasS hM hx hs (q := ([110, 101, 101, 100, 115], 27)) (by decide +kernel) (by omega) (by decide +kernel)
theorem c_Mo_has_68 (hM : mo_ok S P mo) (hx : mt_tx I mo f L) (hs : mc_s I0 I mo f L c dp) : mx_C l E M_Mo_has 4 0 0 [.ref (mo), .ref (mx_aK E 68)] (t, S, I, P, J) (mx_sR (some (.int (bI (decide (tK f L c = 28))))) t S P J (fun K => mc_s I0 K mo f L (if tK f L c = 28 then c + 1 else c) dp ∧ (¬ tK f L c = 28 → K mo 11 = nI (tq_b f L c)))) := c_Mo_hasS hM hx hs (q := ([98, 97, 114, 115], 28)) (by decide +kernel) (by omega) (by decide +kernel)
theorem c_Mo_sign_59 (hM : mo_ok S P mo) (hx : mt_tx I mo f L) (hs : mc_s I0 I mo f L c dp) : mx_C l E M_Mo_isSign 2 0 0 [.ref (mo), .int (nI 59)] (t, S, I, P, J) (mx_sR (some (.int (bI (decide (tK f L c = 3))))) t S P J (fun K => mc_s I0 K mo f L c dp ∧ K mo 11 = nI (tq_b f L c))) := c_Mo_isSignS hM hx hs (q := (59, 3)) (by decide)
theorem c_Mo_sign_40 (hM : mo_ok S P mo) (hx : mt_tx I mo f L) (hs : mc_s I0 I mo f L c dp) : mx_C l E M_Mo_isSign 2 0 0 [.ref (mo), .int (nI 40)] (t, S, I, P, J) (mx_sR (some (.int (bI (decide (tK f L c = 4))))) t S P J (fun K => mc_s I0 K mo f L c dp ∧ K mo 11 = nI (tq_b f L c))) := c_Mo_isSignS hM hx hs (q := (40, 4)) (by decide)
theorem c_Mo_sign_41 (hM : mo_ok S P mo) (hx : mt_tx I mo f L) (hs : mc_s I0 I mo f L c dp) : mx_C l E M_Mo_isSign 2 0 0 [.ref (mo), .int (nI 41)] (t, S, I, P, J) (mx_sR (some (.int (bI (decide (tK f L c = 5))))) t S P J (fun K => mc_s I0 K mo f L c dp ∧ K mo 11 = nI (tq_b f L c))) := c_Mo_isSignS hM hx hs (q := (41, 5)) (by decide)
theorem c_Mo_sign_60 (hM : mo_ok S P mo) (hx : mt_tx I mo f L) (hs : mc_s I0 I mo f L c dp) : mx_C l E M_Mo_isSign 2 0 0 [.ref (mo), .int (nI 60)] (t, S, I, P, J) (mx_sR (some (.int (bI (decide (tK f L c = 6))))) t S P J (fun K => mc_s I0 K mo f L c dp ∧ K mo 11 = nI (tq_b f L c))) := c_Mo_isSignS hM hx hs (q := (60, 6)) (by decide)
theorem c_Mo_sign_62 (hM : mo_ok S P mo) (hx : mt_tx I mo f L) (hs : mc_s I0 I mo f L c dp) : mx_C l E M_Mo_isSign 2 0 0 [.ref (mo), .int (nI 62)] (t, S, I, P, J) (mx_sR (some (.int (bI (decide (tK f L c = 7))))) t S P J (fun K => mc_s I0 K mo f L c dp ∧ K mo 11 = nI (tq_b f L c))) := c_Mo_isSignS hM hx hs (q := (62, 7)) (by decide)
theorem c_Mo_sign_43 (hM : mo_ok S P mo) (hx : mt_tx I mo f L) (hs : mc_s I0 I mo f L c dp) : mx_C l E M_Mo_isSign 2 0 0 [.ref (mo), .int (nI 43)] (t, S, I, P, J) (mx_sR (some (.int (bI (decide (tK f L c = 8))))) t S P J (fun K => mc_s I0 K mo f L c dp ∧ K mo 11 = nI (tq_b f L c))) := c_Mo_isSignS hM hx hs (q := (43, 8)) (by decide)
/-- the facts that are asked -/
def mf_ok (I : mx_I) (mo : Nat) (fc : Nat → Int32) : Prop := (∀ k, k < 7 → I (mo + 6) k = fc k) ∧ I mo 15 &&& 1 = fc 7 ∧ I mo 16 &&& 1 = fc 8
theorem mc_off.mf (h : mc_off I K mo) (hf : mf_ok I mo fc) : mf_ok K mo fc := ⟨fun k hk => by rw [h.1 _ (by omega)]; exact hf.1 k hk, by rw [h.2 15 (by omega) (by omega) (by omega)]; exact hf.2.1, by rw [h.2 16 (by omega) (by omega) (by omega)]; exact hf.2.2⟩
/-- what a reader of code leaves, and what it answers -/
def mc_out (I K : mx_I) (mo : Nat) (f : Nat → Nat) (L dp u : Nat) (fc : Nat → Int32) (v : Int32) (r : gq_R) : Prop := match r with
  | .inl e => mc_bad I K mo f L e u
  | .inr q => mc_s I K mo f L q.2 dp ∧ v = gr_v fc q.1
theorem pv_fact : gr_v fc [-nI 10] = fc 0 ∧ gr_v fc [-nI 11] = fc 1 ∧ gr_v fc [-nI 12] = fc 2 ∧ gr_v fc [-nI 13] = fc 3 ∧ gr_v fc [-nI 14] = fc 4 ∧ gr_v fc [-nI 15] = fc 5 ∧ gr_v fc [-nI 16] = fc 6 ∧ gr_v fc [-nI 17] = fc 7 ∧ gr_v fc [-nI 18] = fc 8 := by
  refine ⟨?_, ?_, ?_, ?_, ?_, ?_, ?_, ?_, ?_⟩ <;> (refine (gr_psh (fc := fc) (by decide) (by decide)).2.trans ?_; unfold lw_val; rw [if_neg (by decide)]; exact congrArg fc (by decide))
theorem pv_num {v : Nat} (hv : v < 1000) : gr_v fc [nI v] = nI v := by
  have hp : (0 : Int32) ≤ nI v := by rw [Int32.le_iff_toInt_le, nI_toInt (by omega)]; show (0 : Int) ≤ v; omega
  refine (gr_psh (fc := fc) (fun e => ?_) (Or.inl hp)).2.trans (if_pos hp)
  rw [e] at hp
  exact absurd hp (by decide)
theorem gq_part_w {k : Nat} (h : tK f L c = k) (h1 : 10 ≤ k) (h2 : k ≤ 16) : gq_part (tK f L) (tV f L) c = .inr ([-nI k], c + 1) := by
  have e := gq_part_a (f := f) (L := L) (t := c) (by omega) (by omega)
  rw [h] at e
  exact e
theorem part_fig {fcv : Nat → Int32} (h2 : tK f L c = 2) (hK : match gq_num (tK f L) (tV f L) 0 1000 c with | .inl e => mc_bad I K mo f L e 500 | .inr q => mc_s I K mo f L q.2 dp) (hc : c ≤ tq_n f L) : mc_out I K mo f L dp 500 fcv (nI (fg_v f L (tq_b f L c))) (gq_part (tK f L) (tV f L) c) := by
  have hnf : ¬ (10 ≤ tK f L c ∧ tK f L c ≤ 16) := by omega
  cases hr : gq_num (tK f L) (tV f L) 0 1000 c with
  | inl e =>
    obtain ⟨g1, g2⟩ := gq_part_n hnf hr
    rw [hr] at hK
    rw [g1]
    rw [g2] at hK
    exact hK
  | inr q =>
    obtain ⟨g1, g2⟩ := gq_part_b hnf hr
    have g3 := fg_num hr hc
    have g4 := ((gq_num_go (tK0 rfl)).1 q hr).2.2.1
    rw [hr] at hK
    rw [g1]
    have hK : mc_s I K mo f L q.2 dp := hK
    rw [g2] at hK
    exact ⟨hK, by rw [← g3]; exact (pv_num g4).symm⟩
theorem part_none (h : ¬ (tK f L c = 10 ∨ tK f L c = 11 ∨ tK f L c = 12 ∨ tK f L c = 13 ∨ tK f L c = 14 ∨ tK f L c = 15 ∨ tK f L c = 16)) (h2 : ¬ tK f L c = 2) : gq_part (tK f L) (tV f L) c = .inl c := by
  unfold gq_part
  rw [if_neg (by omega), if_neg h2]
theorem c_Mo_part (hM : mo_ok S P mo) (hx : mt_tx I mo f L) (hs0 : mc_s I I mo f L c dp) (hmf : mf_ok I mo fc)  : mx_C l E M_Mo_part 5 0 0 [.ref (mo)] (t, S, I, P, J) (mx_vR t S P J (fun v K => mc_out I K mo f L dp 500 fc v (gq_part (tK f L) (tV f L) c))) := by
  obtain ⟨hM0, hMp1, hMp2, hMp4, hMp5, hMp7, hMp14, hMp21, hMp22, hMp23, hMp24, hMp25, hMp26, hMp27, hMs1, hMs2, hMs3, hMs4, hMs5, hMs6, hMs7, hMs8, hMs9, hMs10, hMs11, hMs12, hMs13⟩ := id hM
  have hL := hx.2.1
  have hbL := tq_bL f L c
  refine mx_C_of (ls0 := [some (.ref (mo)), none]) (by decide +kernel) rfl rfl (Nat.le_of_ble_eq_true rfl) rfl ?_
  refine mx_al0 d_Mo_part_0 ?_
  refine mx_getI d_Mo_part_1 fl_Mo_25 (by assumption) ?_
  refine mx_ti (y := (-1)) (hs0.f0) ?_
  refine mx_ic_m1 d_Mo_part_4 ?_
  refine mx_icmp_eq 10 d_Mo_part_5 (by decide) (fun c_5 => ?_) (fun c_5 => absurd c_5 (fun z => z rfl))
  refine mx_al0 d_Mo_part_10 ?_
  refine mx_cV0vR d_Mo_part_11 (c_Mo_skipS hM hx hs0) ok_Mo_skip ml_Mo_97 (by assumption) ⟨rfl, rfl⟩ (by decide) (Nat.le_of_ble_eq_true rfl) (fun K0 hK0 => ?_)
  have hs := hK0.1
  have ha0 := hK0.2
  refine mx_al0 d_Mo_part_14 ?_
  refine mx_getI d_Mo_part_15 fl_Mo_87 (by assumption) ?_
  refine mx_ti (y := nI (tq_b f L c)) (ha0) ?_
  refine mx_al0 d_Mo_part_18 ?_
  refine mx_getI d_Mo_part_19 fl_Mo_90 (by assumption) ?_
  refine mx_ti (y := nI (L)) ((hs.tx hx).1) ?_
  refine mx_icN_ge 52 d_Mo_part_22 (by decide) (by omega) (by omega) (fun c_22 => ?_) (fun c_22 => ?_)
  · skip
    refine mx_al0 d_Mo_part_52 ?_
    refine mx_ldcS (i := 50) d_Mo_part_53 rfl rfl ?_
    refine mx_cV1iR d_Mo_part_55 (c_Mo_has_50 hM (hs.tx hx) hs) ok_Mo_has ml_Mo_117 (by assumption) ⟨rfl, rfl⟩ (by decide) (Nat.le_of_ble_eq_true rfl) (fun K1 hK1 => ?_)
    refine mx_ifB_eq 65 d_Mo_part_58 (by decide) (fun c_58 => ?_) (fun c_58 => ?_)
    · skip
      have hk10 : ¬ tK f L c = 10 := of_decide_eq_false c_58
      rw [if_neg hk10] at hK1
      have ha9 := hK1.2 hk10
      have hs := hK1.1
      refine mx_al0 d_Mo_part_65 ?_
      refine mx_ldcS (i := 51) d_Mo_part_66 rfl rfl ?_
      refine mx_cV1iR d_Mo_part_68 (c_Mo_has_51 hM (hs.tx hx) hs) ok_Mo_has ml_Mo_117 (by assumption) ⟨rfl, rfl⟩ (by decide) (Nat.le_of_ble_eq_true rfl) (fun K2 hK2 => ?_)
      refine mx_ifB_eq 78 d_Mo_part_71 (by decide) (fun c_71 => ?_) (fun c_71 => ?_)
      · skip
        have hk11 : ¬ tK f L c = 11 := of_decide_eq_false c_71
        rw [if_neg hk11] at hK2
        have ha9 := hK2.2 hk11
        have hs := hK2.1
        refine mx_al0 d_Mo_part_78 ?_
        refine mx_ldcS (i := 52) d_Mo_part_79 rfl rfl ?_
        refine mx_cV1iR d_Mo_part_81 (c_Mo_has_52 hM (hs.tx hx) hs) ok_Mo_has ml_Mo_117 (by assumption) ⟨rfl, rfl⟩ (by decide) (Nat.le_of_ble_eq_true rfl) (fun K3 hK3 => ?_)
        refine mx_ifB_eq 91 d_Mo_part_84 (by decide) (fun c_84 => ?_) (fun c_84 => ?_)
        · skip
          have hk12 : ¬ tK f L c = 12 := of_decide_eq_false c_84
          rw [if_neg hk12] at hK3
          have ha9 := hK3.2 hk12
          have hs := hK3.1
          refine mx_al0 d_Mo_part_91 ?_
          refine mx_ldcS (i := 53) d_Mo_part_92 rfl rfl ?_
          refine mx_cV1iR d_Mo_part_94 (c_Mo_has_53 hM (hs.tx hx) hs) ok_Mo_has ml_Mo_117 (by assumption) ⟨rfl, rfl⟩ (by decide) (Nat.le_of_ble_eq_true rfl) (fun K4 hK4 => ?_)
          refine mx_ifB_eq 104 d_Mo_part_97 (by decide) (fun c_97 => ?_) (fun c_97 => ?_)
          · skip
            have hk13 : ¬ tK f L c = 13 := of_decide_eq_false c_97
            rw [if_neg hk13] at hK4
            have ha9 := hK4.2 hk13
            have hs := hK4.1
            refine mx_al0 d_Mo_part_104 ?_
            refine mx_ldcS (i := 54) d_Mo_part_105 rfl rfl ?_
            refine mx_cV1iR d_Mo_part_107 (c_Mo_has_54 hM (hs.tx hx) hs) ok_Mo_has ml_Mo_117 (by assumption) ⟨rfl, rfl⟩ (by decide) (Nat.le_of_ble_eq_true rfl) (fun K5 hK5 => ?_)
            refine mx_ifB_eq 117 d_Mo_part_110 (by decide) (fun c_110 => ?_) (fun c_110 => ?_)
            · skip
              have hk14 : ¬ tK f L c = 14 := of_decide_eq_false c_110
              rw [if_neg hk14] at hK5
              have ha9 := hK5.2 hk14
              have hs := hK5.1
              refine mx_al0 d_Mo_part_117 ?_
              refine mx_ldcS (i := 55) d_Mo_part_118 rfl rfl ?_
              refine mx_cV1iR d_Mo_part_120 (c_Mo_has_55 hM (hs.tx hx) hs) ok_Mo_has ml_Mo_117 (by assumption) ⟨rfl, rfl⟩ (by decide) (Nat.le_of_ble_eq_true rfl) (fun K6 hK6 => ?_)
              refine mx_ifB_eq 130 d_Mo_part_123 (by decide) (fun c_123 => ?_) (fun c_123 => ?_)
              · skip
                have hk15 : ¬ tK f L c = 15 := of_decide_eq_false c_123
                rw [if_neg hk15] at hK6
                have ha9 := hK6.2 hk15
                have hs := hK6.1
                refine mx_al0 d_Mo_part_130 ?_
                refine mx_ldcS (i := 56) d_Mo_part_131 rfl rfl ?_
                refine mx_cV1iR d_Mo_part_133 (c_Mo_has_56 hM (hs.tx hx) hs) ok_Mo_has ml_Mo_117 (by assumption) ⟨rfl, rfl⟩ (by decide) (Nat.le_of_ble_eq_true rfl) (fun K7 hK7 => ?_)
                refine mx_ifB_eq 144 d_Mo_part_136 (by decide) (fun c_136 => ?_) (fun c_136 => ?_)
                · skip
                  have hk16 : ¬ tK f L c = 16 := of_decide_eq_false c_136
                  rw [if_neg hk16] at hK7
                  have ha9 := hK7.2 hk16
                  have hs := hK7.1
                  refine mx_ic_m1 d_Mo_part_144 ?_
                  refine mx_is1 d_Mo_part_145 ?_
                  refine mx_il1 d_Mo_part_146 ?_
                  refine mx_ic_m1 d_Mo_part_147 ?_
                  refine mx_icmp_ne 161 d_Mo_part_148 (by decide) (fun c_148 => absurd c_148 (fun z => z rfl)) (fun c_148 => ?_)
                  refine mx_al0 d_Mo_part_151 ?_
                  refine mx_al0 d_Mo_part_152 ?_
                  refine mx_getI d_Mo_part_153 fl_Mo_87 (by assumption) ?_
                  refine mx_ti (y := nI (tq_b f L c)) (ha9) ?_
                  refine mx_cV1vR d_Mo_part_156 (c_Mo_wrongS hM hs ha9 (u := 500) (by omega) hL) ok_Mo_wrong ml_Mo_113 (by assumption) ⟨rfl, rfl⟩ (by decide) (Nat.le_of_ble_eq_true rfl) (fun K9 hK9 => ?_)
                  refine mx_in_0 d_Mo_part_159 ?_
                  exact mx_iret d_Mo_part_160 rfl (mx_vR_i (by rw [part_none (by intro z; rcases z with z | z | z | z | z | z | z <;> first | exact hk10 z | exact hk11 z | exact hk12 z | exact hk13 z | exact hk14 z | exact hk15 z | exact hk16 z) (by first | exact fun z => by (have z2 := tq_k2.mp z; rw [z2.2] at c_40; cases c_40) | exact fun z => by (have z2 := (tq_k2.mp z).1; omega))]; exact hK9))
                · skip
                  have hk16 : tK f L c = 16 := of_decide_eq_true c_136
                  rw [if_pos hk16] at hK7
                  have hs := hK7.1
                  refine mx_bip 6 d_Mo_part_139 (by decide) ?_
                  refine mx_goto 145 d_Mo_part_141 (by decide) ?_
                  refine mx_is1 d_Mo_part_145 ?_
                  refine mx_il1 d_Mo_part_146 ?_
                  refine mx_ic_m1 d_Mo_part_147 ?_
                  refine mx_icmp_ne 161 d_Mo_part_148 (by decide) (fun c_148 => ?_) (fun c_148 => absurd c_148 (by decide))
                  refine mx_al0 d_Mo_part_161 ?_
                  refine mx_getR d_Mo_part_162 fl_Mo_29 (by assumption) (by assumption) ?_
                  refine mx_il1 d_Mo_part_165 ?_
                  refine mx_iald d_Mo_part_166 (by assumption) (nI_inb (by omega) (by omega)) ?_
                  refine mx_ti (y := K7 (mo + 6) (6)) (by rw [nI_clamp (by omega)]) ?_
                  exact mx_iret d_Mo_part_167 rfl (mx_vR_i (by rw [gq_part_w hk16 (by omega) (by omega)]; exact ⟨hs, ((hs.1.mf hmf).1 6 (by omega)).trans (pv_fact (fc := fc)).2.2.2.2.2.2.1.symm⟩))
              · skip
                have hk15 : tK f L c = 15 := of_decide_eq_true c_123
                rw [if_pos hk15] at hK6
                have hs := hK6.1
                refine mx_in_5 d_Mo_part_126 ?_
                refine mx_goto 145 d_Mo_part_127 (by decide) ?_
                refine mx_is1 d_Mo_part_145 ?_
                refine mx_il1 d_Mo_part_146 ?_
                refine mx_ic_m1 d_Mo_part_147 ?_
                refine mx_icmp_ne 161 d_Mo_part_148 (by decide) (fun c_148 => ?_) (fun c_148 => absurd c_148 (by decide))
                refine mx_al0 d_Mo_part_161 ?_
                refine mx_getR d_Mo_part_162 fl_Mo_29 (by assumption) (by assumption) ?_
                refine mx_il1 d_Mo_part_165 ?_
                refine mx_iald d_Mo_part_166 (by assumption) (nI_inb (by omega) (by omega)) ?_
                refine mx_ti (y := K6 (mo + 6) (5)) (by rw [nI_clamp (by omega)]) ?_
                exact mx_iret d_Mo_part_167 rfl (mx_vR_i (by rw [gq_part_w hk15 (by omega) (by omega)]; exact ⟨hs, ((hs.1.mf hmf).1 5 (by omega)).trans (pv_fact (fc := fc)).2.2.2.2.2.1.symm⟩))
            · skip
              have hk14 : tK f L c = 14 := of_decide_eq_true c_110
              rw [if_pos hk14] at hK5
              have hs := hK5.1
              refine mx_in_4 d_Mo_part_113 ?_
              refine mx_goto 145 d_Mo_part_114 (by decide) ?_
              refine mx_is1 d_Mo_part_145 ?_
              refine mx_il1 d_Mo_part_146 ?_
              refine mx_ic_m1 d_Mo_part_147 ?_
              refine mx_icmp_ne 161 d_Mo_part_148 (by decide) (fun c_148 => ?_) (fun c_148 => absurd c_148 (by decide))
              refine mx_al0 d_Mo_part_161 ?_
              refine mx_getR d_Mo_part_162 fl_Mo_29 (by assumption) (by assumption) ?_
              refine mx_il1 d_Mo_part_165 ?_
              refine mx_iald d_Mo_part_166 (by assumption) (nI_inb (by omega) (by omega)) ?_
              refine mx_ti (y := K5 (mo + 6) (4)) (by rw [nI_clamp (by omega)]) ?_
              exact mx_iret d_Mo_part_167 rfl (mx_vR_i (by rw [gq_part_w hk14 (by omega) (by omega)]; exact ⟨hs, ((hs.1.mf hmf).1 4 (by omega)).trans (pv_fact (fc := fc)).2.2.2.2.1.symm⟩))
          · skip
            have hk13 : tK f L c = 13 := of_decide_eq_true c_97
            rw [if_pos hk13] at hK4
            have hs := hK4.1
            refine mx_in_3 d_Mo_part_100 ?_
            refine mx_goto 145 d_Mo_part_101 (by decide) ?_
            refine mx_is1 d_Mo_part_145 ?_
            refine mx_il1 d_Mo_part_146 ?_
            refine mx_ic_m1 d_Mo_part_147 ?_
            refine mx_icmp_ne 161 d_Mo_part_148 (by decide) (fun c_148 => ?_) (fun c_148 => absurd c_148 (by decide))
            refine mx_al0 d_Mo_part_161 ?_
            refine mx_getR d_Mo_part_162 fl_Mo_29 (by assumption) (by assumption) ?_
            refine mx_il1 d_Mo_part_165 ?_
            refine mx_iald d_Mo_part_166 (by assumption) (nI_inb (by omega) (by omega)) ?_
            refine mx_ti (y := K4 (mo + 6) (3)) (by rw [nI_clamp (by omega)]) ?_
            exact mx_iret d_Mo_part_167 rfl (mx_vR_i (by rw [gq_part_w hk13 (by omega) (by omega)]; exact ⟨hs, ((hs.1.mf hmf).1 3 (by omega)).trans (pv_fact (fc := fc)).2.2.2.1.symm⟩))
        · skip
          have hk12 : tK f L c = 12 := of_decide_eq_true c_84
          rw [if_pos hk12] at hK3
          have hs := hK3.1
          refine mx_in_2 d_Mo_part_87 ?_
          refine mx_goto 145 d_Mo_part_88 (by decide) ?_
          refine mx_is1 d_Mo_part_145 ?_
          refine mx_il1 d_Mo_part_146 ?_
          refine mx_ic_m1 d_Mo_part_147 ?_
          refine mx_icmp_ne 161 d_Mo_part_148 (by decide) (fun c_148 => ?_) (fun c_148 => absurd c_148 (by decide))
          refine mx_al0 d_Mo_part_161 ?_
          refine mx_getR d_Mo_part_162 fl_Mo_29 (by assumption) (by assumption) ?_
          refine mx_il1 d_Mo_part_165 ?_
          refine mx_iald d_Mo_part_166 (by assumption) (nI_inb (by omega) (by omega)) ?_
          refine mx_ti (y := K3 (mo + 6) (2)) (by rw [nI_clamp (by omega)]) ?_
          exact mx_iret d_Mo_part_167 rfl (mx_vR_i (by rw [gq_part_w hk12 (by omega) (by omega)]; exact ⟨hs, ((hs.1.mf hmf).1 2 (by omega)).trans (pv_fact (fc := fc)).2.2.1.symm⟩))
      · skip
        have hk11 : tK f L c = 11 := of_decide_eq_true c_71
        rw [if_pos hk11] at hK2
        have hs := hK2.1
        refine mx_in_1 d_Mo_part_74 ?_
        refine mx_goto 145 d_Mo_part_75 (by decide) ?_
        refine mx_is1 d_Mo_part_145 ?_
        refine mx_il1 d_Mo_part_146 ?_
        refine mx_ic_m1 d_Mo_part_147 ?_
        refine mx_icmp_ne 161 d_Mo_part_148 (by decide) (fun c_148 => ?_) (fun c_148 => absurd c_148 (by decide))
        refine mx_al0 d_Mo_part_161 ?_
        refine mx_getR d_Mo_part_162 fl_Mo_29 (by assumption) (by assumption) ?_
        refine mx_il1 d_Mo_part_165 ?_
        refine mx_iald d_Mo_part_166 (by assumption) (nI_inb (by omega) (by omega)) ?_
        refine mx_ti (y := K2 (mo + 6) (1)) (by rw [nI_clamp (by omega)]) ?_
        exact mx_iret d_Mo_part_167 rfl (mx_vR_i (by rw [gq_part_w hk11 (by omega) (by omega)]; exact ⟨hs, ((hs.1.mf hmf).1 1 (by omega)).trans (pv_fact (fc := fc)).2.1.symm⟩))
    · skip
      have hk10 : tK f L c = 10 := of_decide_eq_true c_58
      rw [if_pos hk10] at hK1
      have hs := hK1.1
      refine mx_in_0 d_Mo_part_61 ?_
      refine mx_goto 145 d_Mo_part_62 (by decide) ?_
      refine mx_is1 d_Mo_part_145 ?_
      refine mx_il1 d_Mo_part_146 ?_
      refine mx_ic_m1 d_Mo_part_147 ?_
      refine mx_icmp_ne 161 d_Mo_part_148 (by decide) (fun c_148 => ?_) (fun c_148 => absurd c_148 (by decide))
      refine mx_al0 d_Mo_part_161 ?_
      refine mx_getR d_Mo_part_162 fl_Mo_29 (by assumption) (by assumption) ?_
      refine mx_il1 d_Mo_part_165 ?_
      refine mx_iald d_Mo_part_166 (by assumption) (nI_inb (by omega) (by omega)) ?_
      refine mx_ti (y := K1 (mo + 6) (0)) (by rw [nI_clamp (by omega)]) ?_
      exact mx_iret d_Mo_part_167 rfl (mx_vR_i (by rw [gq_part_w hk10 (by omega) (by omega)]; exact ⟨hs, ((hs.1.mf hmf).1 0 (by omega)).trans (pv_fact (fc := fc)).1.symm⟩))
  · skip
    have hf9 := (hs.tx hx).2.2.1 (tq_b f L c) (by omega)
    refine mx_al0 d_Mo_part_25 ?_
    refine mx_al0 d_Mo_part_26 ?_
    refine mx_getI d_Mo_part_27 fl_Mo_87 (by assumption) ?_
    refine mx_ti (y := nI (tq_b f L c)) (ha0) ?_
    refine mx_cV1i d_Mo_part_30 (c_Mo_letter hM (hs.tx hx) (by omega)) ok_Mo_letter ml_Mo_93 (by assumption) ⟨rfl, rfl⟩ (by decide) (Nat.le_of_ble_eq_true rfl) ?_
    refine mx_bip 48 d_Mo_part_33 (by decide) ?_
    refine mx_bip 57 d_Mo_part_35 (by decide) ?_
    refine mx_cS3i d_Mo_part_37 (c_Mo_isInF (by omega)) ok_Mo_isIn ml_Mo_57 (by decide) (Nat.le_of_ble_eq_true rfl) ?_
    refine mx_ifB_eq 52 d_Mo_part_40 (by decide) (fun c_40 => ?_) (fun c_40 => ?_)
    · skip
      refine mx_al0 d_Mo_part_52 ?_
      refine mx_ldcS (i := 50) d_Mo_part_53 rfl rfl ?_
      refine mx_cV1iR d_Mo_part_55 (c_Mo_has_50 hM (hs.tx hx) hs) ok_Mo_has ml_Mo_117 (by assumption) ⟨rfl, rfl⟩ (by decide) (Nat.le_of_ble_eq_true rfl) (fun K8 hK8 => ?_)
      refine mx_ifB_eq 65 d_Mo_part_58 (by decide) (fun c_58 => ?_) (fun c_58 => ?_)
      · skip
        have hk10 : ¬ tK f L c = 10 := of_decide_eq_false c_58
        rw [if_neg hk10] at hK8
        have ha9 := hK8.2 hk10
        have hs := hK8.1
        refine mx_al0 d_Mo_part_65 ?_
        refine mx_ldcS (i := 51) d_Mo_part_66 rfl rfl ?_
        refine mx_cV1iR d_Mo_part_68 (c_Mo_has_51 hM (hs.tx hx) hs) ok_Mo_has ml_Mo_117 (by assumption) ⟨rfl, rfl⟩ (by decide) (Nat.le_of_ble_eq_true rfl) (fun K9 hK9 => ?_)
        refine mx_ifB_eq 78 d_Mo_part_71 (by decide) (fun c_71 => ?_) (fun c_71 => ?_)
        · skip
          have hk11 : ¬ tK f L c = 11 := of_decide_eq_false c_71
          rw [if_neg hk11] at hK9
          have ha9 := hK9.2 hk11
          have hs := hK9.1
          refine mx_al0 d_Mo_part_78 ?_
          refine mx_ldcS (i := 52) d_Mo_part_79 rfl rfl ?_
          refine mx_cV1iR d_Mo_part_81 (c_Mo_has_52 hM (hs.tx hx) hs) ok_Mo_has ml_Mo_117 (by assumption) ⟨rfl, rfl⟩ (by decide) (Nat.le_of_ble_eq_true rfl) (fun K10 hK10 => ?_)
          refine mx_ifB_eq 91 d_Mo_part_84 (by decide) (fun c_84 => ?_) (fun c_84 => ?_)
          · skip
            have hk12 : ¬ tK f L c = 12 := of_decide_eq_false c_84
            rw [if_neg hk12] at hK10
            have ha9 := hK10.2 hk12
            have hs := hK10.1
            refine mx_al0 d_Mo_part_91 ?_
            refine mx_ldcS (i := 53) d_Mo_part_92 rfl rfl ?_
            refine mx_cV1iR d_Mo_part_94 (c_Mo_has_53 hM (hs.tx hx) hs) ok_Mo_has ml_Mo_117 (by assumption) ⟨rfl, rfl⟩ (by decide) (Nat.le_of_ble_eq_true rfl) (fun K11 hK11 => ?_)
            refine mx_ifB_eq 104 d_Mo_part_97 (by decide) (fun c_97 => ?_) (fun c_97 => ?_)
            · skip
              have hk13 : ¬ tK f L c = 13 := of_decide_eq_false c_97
              rw [if_neg hk13] at hK11
              have ha9 := hK11.2 hk13
              have hs := hK11.1
              refine mx_al0 d_Mo_part_104 ?_
              refine mx_ldcS (i := 54) d_Mo_part_105 rfl rfl ?_
              refine mx_cV1iR d_Mo_part_107 (c_Mo_has_54 hM (hs.tx hx) hs) ok_Mo_has ml_Mo_117 (by assumption) ⟨rfl, rfl⟩ (by decide) (Nat.le_of_ble_eq_true rfl) (fun K12 hK12 => ?_)
              refine mx_ifB_eq 117 d_Mo_part_110 (by decide) (fun c_110 => ?_) (fun c_110 => ?_)
              · skip
                have hk14 : ¬ tK f L c = 14 := of_decide_eq_false c_110
                rw [if_neg hk14] at hK12
                have ha9 := hK12.2 hk14
                have hs := hK12.1
                refine mx_al0 d_Mo_part_117 ?_
                refine mx_ldcS (i := 55) d_Mo_part_118 rfl rfl ?_
                refine mx_cV1iR d_Mo_part_120 (c_Mo_has_55 hM (hs.tx hx) hs) ok_Mo_has ml_Mo_117 (by assumption) ⟨rfl, rfl⟩ (by decide) (Nat.le_of_ble_eq_true rfl) (fun K13 hK13 => ?_)
                refine mx_ifB_eq 130 d_Mo_part_123 (by decide) (fun c_123 => ?_) (fun c_123 => ?_)
                · skip
                  have hk15 : ¬ tK f L c = 15 := of_decide_eq_false c_123
                  rw [if_neg hk15] at hK13
                  have ha9 := hK13.2 hk15
                  have hs := hK13.1
                  refine mx_al0 d_Mo_part_130 ?_
                  refine mx_ldcS (i := 56) d_Mo_part_131 rfl rfl ?_
                  refine mx_cV1iR d_Mo_part_133 (c_Mo_has_56 hM (hs.tx hx) hs) ok_Mo_has ml_Mo_117 (by assumption) ⟨rfl, rfl⟩ (by decide) (Nat.le_of_ble_eq_true rfl) (fun K14 hK14 => ?_)
                  refine mx_ifB_eq 144 d_Mo_part_136 (by decide) (fun c_136 => ?_) (fun c_136 => ?_)
                  · skip
                    have hk16 : ¬ tK f L c = 16 := of_decide_eq_false c_136
                    rw [if_neg hk16] at hK14
                    have ha9 := hK14.2 hk16
                    have hs := hK14.1
                    refine mx_ic_m1 d_Mo_part_144 ?_
                    refine mx_is1 d_Mo_part_145 ?_
                    refine mx_il1 d_Mo_part_146 ?_
                    refine mx_ic_m1 d_Mo_part_147 ?_
                    refine mx_icmp_ne 161 d_Mo_part_148 (by decide) (fun c_148 => absurd c_148 (fun z => z rfl)) (fun c_148 => ?_)
                    refine mx_al0 d_Mo_part_151 ?_
                    refine mx_al0 d_Mo_part_152 ?_
                    refine mx_getI d_Mo_part_153 fl_Mo_87 (by assumption) ?_
                    refine mx_ti (y := nI (tq_b f L c)) (ha9) ?_
                    refine mx_cV1vR d_Mo_part_156 (c_Mo_wrongS hM hs ha9 (u := 500) (by omega) hL) ok_Mo_wrong ml_Mo_113 (by assumption) ⟨rfl, rfl⟩ (by decide) (Nat.le_of_ble_eq_true rfl) (fun K9 hK9 => ?_)
                    refine mx_in_0 d_Mo_part_159 ?_
                    exact mx_iret d_Mo_part_160 rfl (mx_vR_i (by rw [part_none (by intro z; rcases z with z | z | z | z | z | z | z <;> first | exact hk10 z | exact hk11 z | exact hk12 z | exact hk13 z | exact hk14 z | exact hk15 z | exact hk16 z) (by first | exact fun z => by (have z2 := tq_k2.mp z; rw [z2.2] at c_40; cases c_40) | exact fun z => by (have z2 := (tq_k2.mp z).1; omega))]; exact hK9))
                  · skip
                    have hk16 : tK f L c = 16 := of_decide_eq_true c_136
                    rw [if_pos hk16] at hK14
                    have hs := hK14.1
                    refine mx_bip 6 d_Mo_part_139 (by decide) ?_
                    refine mx_goto 145 d_Mo_part_141 (by decide) ?_
                    refine mx_is1 d_Mo_part_145 ?_
                    refine mx_il1 d_Mo_part_146 ?_
                    refine mx_ic_m1 d_Mo_part_147 ?_
                    refine mx_icmp_ne 161 d_Mo_part_148 (by decide) (fun c_148 => ?_) (fun c_148 => absurd c_148 (by decide))
                    refine mx_al0 d_Mo_part_161 ?_
                    refine mx_getR d_Mo_part_162 fl_Mo_29 (by assumption) (by assumption) ?_
                    refine mx_il1 d_Mo_part_165 ?_
                    refine mx_iald d_Mo_part_166 (by assumption) (nI_inb (by omega) (by omega)) ?_
                    refine mx_ti (y := K14 (mo + 6) (6)) (by rw [nI_clamp (by omega)]) ?_
                    exact mx_iret d_Mo_part_167 rfl (mx_vR_i (by rw [gq_part_w hk16 (by omega) (by omega)]; exact ⟨hs, ((hs.1.mf hmf).1 6 (by omega)).trans (pv_fact (fc := fc)).2.2.2.2.2.2.1.symm⟩))
                · skip
                  have hk15 : tK f L c = 15 := of_decide_eq_true c_123
                  rw [if_pos hk15] at hK13
                  have hs := hK13.1
                  refine mx_in_5 d_Mo_part_126 ?_
                  refine mx_goto 145 d_Mo_part_127 (by decide) ?_
                  refine mx_is1 d_Mo_part_145 ?_
                  refine mx_il1 d_Mo_part_146 ?_
                  refine mx_ic_m1 d_Mo_part_147 ?_
                  refine mx_icmp_ne 161 d_Mo_part_148 (by decide) (fun c_148 => ?_) (fun c_148 => absurd c_148 (by decide))
                  refine mx_al0 d_Mo_part_161 ?_
                  refine mx_getR d_Mo_part_162 fl_Mo_29 (by assumption) (by assumption) ?_
                  refine mx_il1 d_Mo_part_165 ?_
                  refine mx_iald d_Mo_part_166 (by assumption) (nI_inb (by omega) (by omega)) ?_
                  refine mx_ti (y := K13 (mo + 6) (5)) (by rw [nI_clamp (by omega)]) ?_
                  exact mx_iret d_Mo_part_167 rfl (mx_vR_i (by rw [gq_part_w hk15 (by omega) (by omega)]; exact ⟨hs, ((hs.1.mf hmf).1 5 (by omega)).trans (pv_fact (fc := fc)).2.2.2.2.2.1.symm⟩))
              · skip
                have hk14 : tK f L c = 14 := of_decide_eq_true c_110
                rw [if_pos hk14] at hK12
                have hs := hK12.1
                refine mx_in_4 d_Mo_part_113 ?_
                refine mx_goto 145 d_Mo_part_114 (by decide) ?_
                refine mx_is1 d_Mo_part_145 ?_
                refine mx_il1 d_Mo_part_146 ?_
                refine mx_ic_m1 d_Mo_part_147 ?_
                refine mx_icmp_ne 161 d_Mo_part_148 (by decide) (fun c_148 => ?_) (fun c_148 => absurd c_148 (by decide))
                refine mx_al0 d_Mo_part_161 ?_
                refine mx_getR d_Mo_part_162 fl_Mo_29 (by assumption) (by assumption) ?_
                refine mx_il1 d_Mo_part_165 ?_
                refine mx_iald d_Mo_part_166 (by assumption) (nI_inb (by omega) (by omega)) ?_
                refine mx_ti (y := K12 (mo + 6) (4)) (by rw [nI_clamp (by omega)]) ?_
                exact mx_iret d_Mo_part_167 rfl (mx_vR_i (by rw [gq_part_w hk14 (by omega) (by omega)]; exact ⟨hs, ((hs.1.mf hmf).1 4 (by omega)).trans (pv_fact (fc := fc)).2.2.2.2.1.symm⟩))
            · skip
              have hk13 : tK f L c = 13 := of_decide_eq_true c_97
              rw [if_pos hk13] at hK11
              have hs := hK11.1
              refine mx_in_3 d_Mo_part_100 ?_
              refine mx_goto 145 d_Mo_part_101 (by decide) ?_
              refine mx_is1 d_Mo_part_145 ?_
              refine mx_il1 d_Mo_part_146 ?_
              refine mx_ic_m1 d_Mo_part_147 ?_
              refine mx_icmp_ne 161 d_Mo_part_148 (by decide) (fun c_148 => ?_) (fun c_148 => absurd c_148 (by decide))
              refine mx_al0 d_Mo_part_161 ?_
              refine mx_getR d_Mo_part_162 fl_Mo_29 (by assumption) (by assumption) ?_
              refine mx_il1 d_Mo_part_165 ?_
              refine mx_iald d_Mo_part_166 (by assumption) (nI_inb (by omega) (by omega)) ?_
              refine mx_ti (y := K11 (mo + 6) (3)) (by rw [nI_clamp (by omega)]) ?_
              exact mx_iret d_Mo_part_167 rfl (mx_vR_i (by rw [gq_part_w hk13 (by omega) (by omega)]; exact ⟨hs, ((hs.1.mf hmf).1 3 (by omega)).trans (pv_fact (fc := fc)).2.2.2.1.symm⟩))
          · skip
            have hk12 : tK f L c = 12 := of_decide_eq_true c_84
            rw [if_pos hk12] at hK10
            have hs := hK10.1
            refine mx_in_2 d_Mo_part_87 ?_
            refine mx_goto 145 d_Mo_part_88 (by decide) ?_
            refine mx_is1 d_Mo_part_145 ?_
            refine mx_il1 d_Mo_part_146 ?_
            refine mx_ic_m1 d_Mo_part_147 ?_
            refine mx_icmp_ne 161 d_Mo_part_148 (by decide) (fun c_148 => ?_) (fun c_148 => absurd c_148 (by decide))
            refine mx_al0 d_Mo_part_161 ?_
            refine mx_getR d_Mo_part_162 fl_Mo_29 (by assumption) (by assumption) ?_
            refine mx_il1 d_Mo_part_165 ?_
            refine mx_iald d_Mo_part_166 (by assumption) (nI_inb (by omega) (by omega)) ?_
            refine mx_ti (y := K10 (mo + 6) (2)) (by rw [nI_clamp (by omega)]) ?_
            exact mx_iret d_Mo_part_167 rfl (mx_vR_i (by rw [gq_part_w hk12 (by omega) (by omega)]; exact ⟨hs, ((hs.1.mf hmf).1 2 (by omega)).trans (pv_fact (fc := fc)).2.2.1.symm⟩))
        · skip
          have hk11 : tK f L c = 11 := of_decide_eq_true c_71
          rw [if_pos hk11] at hK9
          have hs := hK9.1
          refine mx_in_1 d_Mo_part_74 ?_
          refine mx_goto 145 d_Mo_part_75 (by decide) ?_
          refine mx_is1 d_Mo_part_145 ?_
          refine mx_il1 d_Mo_part_146 ?_
          refine mx_ic_m1 d_Mo_part_147 ?_
          refine mx_icmp_ne 161 d_Mo_part_148 (by decide) (fun c_148 => ?_) (fun c_148 => absurd c_148 (by decide))
          refine mx_al0 d_Mo_part_161 ?_
          refine mx_getR d_Mo_part_162 fl_Mo_29 (by assumption) (by assumption) ?_
          refine mx_il1 d_Mo_part_165 ?_
          refine mx_iald d_Mo_part_166 (by assumption) (nI_inb (by omega) (by omega)) ?_
          refine mx_ti (y := K9 (mo + 6) (1)) (by rw [nI_clamp (by omega)]) ?_
          exact mx_iret d_Mo_part_167 rfl (mx_vR_i (by rw [gq_part_w hk11 (by omega) (by omega)]; exact ⟨hs, ((hs.1.mf hmf).1 1 (by omega)).trans (pv_fact (fc := fc)).2.1.symm⟩))
      · skip
        have hk10 : tK f L c = 10 := of_decide_eq_true c_58
        rw [if_pos hk10] at hK8
        have hs := hK8.1
        refine mx_in_0 d_Mo_part_61 ?_
        refine mx_goto 145 d_Mo_part_62 (by decide) ?_
        refine mx_is1 d_Mo_part_145 ?_
        refine mx_il1 d_Mo_part_146 ?_
        refine mx_ic_m1 d_Mo_part_147 ?_
        refine mx_icmp_ne 161 d_Mo_part_148 (by decide) (fun c_148 => ?_) (fun c_148 => absurd c_148 (by decide))
        refine mx_al0 d_Mo_part_161 ?_
        refine mx_getR d_Mo_part_162 fl_Mo_29 (by assumption) (by assumption) ?_
        refine mx_il1 d_Mo_part_165 ?_
        refine mx_iald d_Mo_part_166 (by assumption) (nI_inb (by omega) (by omega)) ?_
        refine mx_ti (y := K8 (mo + 6) (0)) (by rw [nI_clamp (by omega)]) ?_
        exact mx_iret d_Mo_part_167 rfl (mx_vR_i (by rw [gq_part_w hk10 (by omega) (by omega)]; exact ⟨hs, ((hs.1.mf hmf).1 0 (by omega)).trans (pv_fact (fc := fc)).1.symm⟩))
    · skip
      have hk2 : tK f L c = 2 := tq_k2.mpr ⟨by omega, c_40⟩
      refine mx_al0 d_Mo_part_43 ?_
      refine mx_in_0 d_Mo_part_44 ?_
      refine mx_sip 999 d_Mo_part_45 (by decide) ?_
      refine mx_cV2iR d_Mo_part_48 (c_Mo_figuresS hM (hs.tx hx) hs (lo := 0) (hb := 1000) (by omega) h999) ok_Mo_figures ml_Mo_121 (by assumption) ⟨rfl, rfl⟩ (by decide) (Nat.le_of_ble_eq_true rfl) (fun K9 hK9 => ?_)
      exact mx_iret d_Mo_part_51 rfl (mx_vR_i (part_fig hk2 hK9 hs.cu.choose_spec.2.2.2))
end AU62
