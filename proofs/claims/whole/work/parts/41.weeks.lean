/-! A WEEK OF THE CLASS -/
def w_jv (D : lwD) (m : Nat → Int32) (h q : Nat) : Int32 := vs_jy D m h (m (195 + 8 * h + q)).toNatClampNeg q
def w_mt (D : lwD) (m : Nat → Int32) (h q : Nat) : Nat → Int32 := w_lg (updI m (11 + 4 * h + 2) (mn9 (m (11 + 4 * h + 2) + w_jv D m h q) (nI 999))) (nI h) (m (195 + 8 * h + q)) (nI q) (nI 0) (w_jv D m h q)
def w_nb (m : Nat → Int32) (h n : Nat) : Nat → Int32 := fun k => if 195 + 8 * h ≤ k ∧ k < 195 + 8 * h + n then -1 else m k
def w_sa (m : Nat → Int32) (h : Nat) : Nat → Int32 := w_lg (updI (w_nb m h 8) (11 + 4 * h + 3) (nI 0)) (nI h) (-1) (-1) (nI 1) (nI 0)
def w_lo (m : Nat → Int32) (h : Nat) (b : Bool) : Nat → Int32 := updI m (11 + 4 * h + 3) (if b = true then nI 0 else mn9 (m (11 + 4 * h + 3) + nI 1) (nI 99))
abbrev w_ov (m : Nat → Int32) (h : Nat) : Prop := m (11 + 4 * h + 0) < m (11 + 4 * h + 3)
def w_cl (z : (Nat → Int32) × Int32) (h : Nat) (b : Bool) : (Nat → Int32) × Int32 := if w_ov (w_lo z.1 h b) h then (w_sa (w_lo z.1 h b) h, z.2 ||| (nI 1 <<< (nI h &&& 31))) else (w_lo z.1 h b, z.2)
def w_en (z : (Nat → Int32) × Int32) (s : Int32) (n : Nat) : (Nat → Int32) × Int32 := vf n (fun h z => w_cl z h (bt s h)) z
theorem w_en_s (z : (Nat → Int32) × Int32) (s : Int32) (n : Nat) : w_en z s (n + 1) = w_cl (w_en z s n) n (bt s n) := rfl
def w_we (m : Nat → Int32) : Nat → Int32 := updI m 6 (mn9 (m 6 + nI 1) (nI 9999))
abbrev w_Y : Type := (Nat → Int32) × Int32 × Nat
def w_hq (D : lwD) (q n : Nat) (y : w_Y) : w_Y := vf n (fun h z => if vs_mt D z.1 h q = true then (w_mt D z.1 h q, z.2.1 ||| (nI 1 <<< (nI h &&& 31)), z.2.2 + 1) else z) y
theorem w_hq_s (D : lwD) (q n : Nat) (y : w_Y) : w_hq D q (n + 1) y = if vs_mt D (w_hq D q n y).1 n q = true then (w_mt D (w_hq D q n y).1 n q, (w_hq D q n y).2.1 ||| (nI 1 <<< (nI n &&& 31)), (w_hq D q n y).2.2 + 1) else w_hq D q n y := rfl
def w_dr (b : Bool) (m : Nat → Int32) : Nat → Int32 := if b = true then updI m 10 (w_sd (m 10)) else m
def w_wet (b : Bool) (m : Nat → Int32) : Bool := b && decide (w_pc (w_out (w_sd (m 10))) < m 5)
def w_qd (D : lwD) (b : Bool) (H q : Nat) (y : w_Y) : w_Y := if w_wet b y.1 = true then (w_dr b y.1, y.2) else w_hq D q H (w_dr b y.1, y.2)
def w_qs (D : lwD) (b : Bool) (H n : Nat) (y : w_Y) : w_Y := vf n (fun q y => w_qd D b H q y) y
theorem w_qs_s (D : lwD) (b : Bool) (H n : Nat) (y : w_Y) : w_qs D b H (n + 1) y = w_qd D b H n (w_qs D b H n y) := rfl
def w_wk (D : lwD) (b : Bool) (H : Nat) (z : (Nat → Int32) × Int32) : (Nat → Int32) × Int32 := (w_we (w_en ((w_qs D b H 8 (z.1, nI 0, 0)).1, z.2) (w_qs D b H 8 (z.1, nI 0, 0)).2.1 H).1, (w_en ((w_qs D b H 8 (z.1, nI 0, 0)).1, z.2) (w_qs D b H 8 (z.1, nI 0, 0)).2.1 H).2)
def w_met (D : lwD) (b : Bool) (H : Nat) (m : Nat → Int32) : Nat := (w_qs D b H 8 (m, nI 0, 0)).2.2
/-! the relation while the row changes -/
theorem updI_e (f : Nat → Int32) (k : Nat) (v : Int32) : updI f k v k = v := if_pos rfl
theorem updI_n {f : Nat → Int32} {k j : Nat} {v : Int32} (h : j ≠ k) : updI f k v j = f j := if_neg h
theorem pe_rel.cm {I : mx_I} {pe : Nat} {m m' : Nat → Int32} (h : pe_rel I pe m) (e : ∀ k, k = 3 ∨ k = 4 ∨ (11 ≤ k ∧ k < 43 ∧ (k - 11) % 4 < 2) ∨ (43 ≤ k ∧ k < 195) → m' k = m k) : pe_rel I pe m' := by
  obtain ⟨h0, h1, h2, h3, h4, h5, h6, h7, h8⟩ := h
  refine ⟨by rw [e 3 (by omega)]; exact h0, by rw [e 4 (by omega)]; exact h1, fun a ha => ?_, fun a ha => ?_, fun a ha => ?_, fun a ha => ?_, fun a ha => ?_, fun a b ha hb => ?_, fun a b ha hb => ?_⟩
  · rw [e _ (by omega)]; exact h2 a ha
  · rw [e _ (by omega)]; exact h3 a ha
  · rw [e _ (by omega)]; exact h4 a ha
  · rw [e _ (by omega)]; exact h5 a ha
  · rw [e _ (by omega)]; exact h6 a ha
  · rw [e _ (by omega)]; exact h7 a b ha hb
  · rw [e _ (by omega)]; exact h8 a b ha hb
theorem st_rel.cm {I : mx_I} {s : Nat} {m m' : Nat → Int32} (h : st_rel I s m) (e : ∀ k, k < 259 → k ≠ 9 → m' k = m k) : st_rel I s m' := by
  obtain ⟨h0, h1, h2, h3, h4, h5, h6, h7, h8, h9⟩ := h
  refine ⟨h0.cm (fun k hk => e k (by omega) (by omega)), by rw [e 0 (by omega) (by omega)]; exact h1, by rw [e 5 (by omega) (by omega)]; exact h2, by rw [e 6 (by omega) (by omega)]; exact h3, by rw [e 7 (by omega) (by omega)]; exact h4, by rw [e 8 (by omega) (by omega)]; exact h5, by rw [e 10 (by omega) (by omega)]; exact h6, fun a ha => ?_, fun a ha => ?_, fun a b ha hb => ?_⟩
  · rw [e _ (by omega) (by omega)]; exact h7 a ha
  · rw [e _ (by omega) (by omega)]; exact h8 a ha
  · rw [e _ (by omega) (by omega)]; exact h9 a b ha hb
theorem st_rel.cf {I K : mx_I} {m : Nat → Int32} {r : Nat} (h : st_rel I r m) (e : ∀ c, r ≤ c → c < r + 14 → c ≠ r + 9 → c ≠ r + 10 → K c = I c) : st_rel K r m := by
  obtain ⟨hp, h⟩ := h
  refine ⟨hp.congr (fun c h1 h2 => e c (by omega) (by omega) (by omega) (by omega)), ?_⟩
  rw [e r (by omega) (by omega) (by omega) (by omega), e (r + 11) (by omega) (by omega) (by omega) (by omega), e (r + 12) (by omega) (by omega) (by omega) (by omega), e (r + 13) (by omega) (by omega) (by omega) (by omega)]
  exact h
theorem st_glad {I : mx_I} {s h : Nat} {m : Nat → Int32} {v : Int32} (hs : st_rel I s m) (hh : h < 8) : st_rel (mx_up I (s + 11) h v) s (updI m (11 + 4 * h + 2) v) := by
  obtain ⟨h0, h1, h2, h3, h4, h5, h6, h7, h8, h9⟩ := hs
  refine ⟨(h0.congr (fun c h1 h2 => mx_up_ne (by omega))).cm (fun k hk => updI_n (by omega)), ?_, ?_, ?_, ?_, ?_, ?_, fun a ha => ?_, fun a ha => ?_, fun a b ha hb => ?_⟩
  · rw [mx_up_ne (by omega), updI_n (by omega)]; exact h1
  · rw [mx_up_ne (by omega), updI_n (by omega)]; exact h2
  · rw [mx_up_ne (by omega), updI_n (by omega)]; exact h3
  · rw [mx_up_ne (by omega), updI_n (by omega)]; exact h4
  · rw [mx_up_ne (by omega), updI_n (by omega)]; exact h5
  · rw [mx_up_ne (by omega), updI_n (by omega)]; exact h6
  · by_cases e : a = h
    · subst e; rw [updI_e]; simp [mx_up]
    · rw [updI_n (by omega), ← h7 a ha]; simp [mx_up, e]
  · rw [mx_up_ne (by omega), updI_n (by omega)]; exact h8 a ha
  · rw [mx_up_ne (by omega), updI_n (by omega)]; exact h9 a b ha hb
theorem st_lone {I : mx_I} {s h : Nat} {m : Nat → Int32} {v : Int32} (hs : st_rel I s m) (hh : h < 8) : st_rel (mx_up I (s + 12) h v) s (updI m (11 + 4 * h + 3) v) := by
  obtain ⟨h0, h1, h2, h3, h4, h5, h6, h7, h8, h9⟩ := hs
  refine ⟨(h0.congr (fun c h1 h2 => mx_up_ne (by omega))).cm (fun k hk => updI_n (by omega)), ?_, ?_, ?_, ?_, ?_, ?_, fun a ha => ?_, fun a ha => ?_, fun a b ha hb => ?_⟩
  · rw [mx_up_ne (by omega), updI_n (by omega)]; exact h1
  · rw [mx_up_ne (by omega), updI_n (by omega)]; exact h2
  · rw [mx_up_ne (by omega), updI_n (by omega)]; exact h3
  · rw [mx_up_ne (by omega), updI_n (by omega)]; exact h4
  · rw [mx_up_ne (by omega), updI_n (by omega)]; exact h5
  · rw [mx_up_ne (by omega), updI_n (by omega)]; exact h6
  · rw [mx_up_ne (by omega), updI_n (by omega)]; exact h7 a ha
  · by_cases e : a = h
    · subst e; rw [updI_e]; simp [mx_up]
    · rw [updI_n (by omega), ← h8 a ha]; simp [mx_up, e]
  · rw [mx_up_ne (by omega), updI_n (by omega)]; exact h9 a b ha hb
theorem st_fld {I : mx_I} {s f k : Nat} {m : Nat → Int32} {v : Int32} (hs : st_rel I s m) (hf : f = 5 ∧ k = 6 ∨ f = 8 ∧ k = 10) : st_rel (mx_up I s f v) s (updI m k v) := by
  obtain ⟨h0, h1, h2, h3, h4, h5, h6, h7, h8, h9⟩ := hs
  have key : ∀ f' k', (f' = 3 ∧ k' = 0 ∨ f' = 4 ∧ k' = 5 ∨ f' = 5 ∧ k' = 6 ∨ f' = 6 ∧ k' = 7 ∨ f' = 7 ∧ k' = 8 ∨ f' = 8 ∧ k' = 10) → I s f' = m k' → mx_up I s f v s f' = updI m k v k' := fun f' k' hc he => by
    by_cases e : f' = f
    · have e2 : k' = k := by omega
      subst e; subst e2
      rw [updI_e]; simp [mx_up]
    · rw [updI_n (by omega), ← he]; simp [mx_up, e]
  refine ⟨(h0.congr (fun c h1 h2 => mx_up_ne (by omega))).cm (fun k' hk => updI_n (by omega)), key 3 0 (by omega) h1, key 4 5 (by omega) h2, key 5 6 (by omega) h3, key 6 7 (by omega) h4, key 7 8 (by omega) h5, key 8 10 (by omega) h6, fun a ha => ?_, fun a ha => ?_, fun a b ha hb => ?_⟩
  · rw [mx_up_ne (by omega), updI_n (by omega)]; exact h7 a ha
  · rw [mx_up_ne (by omega), updI_n (by omega)]; exact h8 a ha
  · rw [mx_up_ne (by omega), updI_n (by omega)]; exact h9 a b ha hb
theorem st_fld9 {I : mx_I} {s : Nat} {m : Nat → Int32} {v : Int32} (hs : st_rel I s m) : st_rel (mx_up I s 9 v) s m := by
  obtain ⟨h0, h1, h2, h3, h4, h5, h6, h7, h8, h9⟩ := hs
  refine ⟨h0.congr (fun c h1 h2 => mx_up_ne (by omega)), by simp [mx_up, h1], by simp [mx_up, h2], by simp [mx_up, h3], by simp [mx_up, h4], by simp [mx_up, h5], by simp [mx_up, h6], fun a ha => ?_, fun a ha => ?_, fun a b ha hb => ?_⟩
  · rw [mx_up_ne (by omega)]; exact h7 a ha
  · rw [mx_up_ne (by omega)]; exact h8 a ha
  · rw [mx_up_ne (by omega)]; exact h9 a b ha hb
theorem w_nb_s (m : Nat → Int32) (h n : Nat) : w_nb m h (n + 1) = updI (w_nb m h n) (195 + 8 * h + n) (-1) := by
  funext k
  unfold w_nb updI
  by_cases e : k = 195 + 8 * h + n
  · rw [if_pos e, if_pos (by omega)]
  · rw [if_neg e]
    dsimp only
    by_cases q : 195 + 8 * h ≤ k ∧ k < 195 + 8 * h + n
    · rw [if_pos q, if_pos (by omega)]
    · rw [if_neg q, if_neg (by omega)]
theorem st_list {I : mx_I} {s h q : Nat} {m : Nat → Int32} {v : Int32} (hs : st_rel I s m) (hh : h < 8) (hq : q < 8) : st_rel (mx_up I (s + 13) (8 * h + q) v) s (updI m (195 + 8 * h + q) v) := by
  obtain ⟨h0, h1, h2, h3, h4, h5, h6, h7, h8, h9⟩ := hs
  refine ⟨(h0.congr (fun c h1 h2 => mx_up_ne (by omega))).cm (fun k hk => updI_n (by omega)), ?_, ?_, ?_, ?_, ?_, ?_, fun a ha => ?_, fun a ha => ?_, fun a b ha hb => ?_⟩
  · rw [mx_up_ne (by omega), updI_n (by omega)]; exact h1
  · rw [mx_up_ne (by omega), updI_n (by omega)]; exact h2
  · rw [mx_up_ne (by omega), updI_n (by omega)]; exact h3
  · rw [mx_up_ne (by omega), updI_n (by omega)]; exact h4
  · rw [mx_up_ne (by omega), updI_n (by omega)]; exact h5
  · rw [mx_up_ne (by omega), updI_n (by omega)]; exact h6
  · rw [mx_up_ne (by omega), updI_n (by omega)]; exact h7 a ha
  · rw [mx_up_ne (by omega), updI_n (by omega)]; exact h8 a ha
  · by_cases e : 195 + 8 * a + b = 195 + 8 * h + q
    · have e2 : 8 * a + b = 8 * h + q := by omega
      rw [e, updI_e]; simp [mx_up, e2]
    · have e2 : ¬ 8 * a + b = 8 * h + q := by omega
      rw [updI_n e, ← h9 a b ha hb]; simp [mx_up, e2]
/-- the state of the class at s is that of the row -/
def WS (K : mx_I) (s : Nat) (m : Nat → Int32) : Prop := st_rel K s m ∧ ∃ N z, lo_rel K (s + 9) m N z
def wz (s la : Nat) : Nat → Prop := fun c => (s ≤ c ∧ c < s + 15) ∨ c = la + 5
/-- what the weeks need of the row, and keep -/
def wi (m : Nat → Int32) (H G : Nat) : Prop := m 3 = nI H ∧ rk9 m ∧ br_ok m G
theorem wi.cm {m m' : Nat → Int32} {H G : Nat} (h : wi m H G) (e3 : m' 3 = m 3) (e : ∀ k, 67 ≤ k → k < 195 → m' k = m k) (eb : ∀ k, 195 ≤ k → k < 259 → m' k = -1 ∨ m' k = m k) : wi m' H G := by
  obtain ⟨h1, h2, h3⟩ := h
  refine ⟨e3.trans h1, fun a b ha hb => ?_, fun a b ha hb => ?_⟩
  · rw [e _ (by omega) (by omega), e _ (by omega) (by omega)]; exact h2 a b ha hb
  · rcases eb (195 + 8 * a + b) (by omega) (by omega) with z | z
    · exact Or.inl z
    · rw [z]; exact h3 a b ha hb
theorem wi_mt {D : lwD} {m : Nat → Int32} {H G h q : Nat} (hw : wi m H G) (hh : h < 8) : wi (w_mt D m h q) H G := hw.cm (by unfold w_mt; rw [w_lg_o (by omega) (by omega), updI_n (by omega)]) (fun k h1 h2 => by unfold w_mt; rw [w_lg_o (by omega) (by omega), updI_n (by omega)]) (fun k h1 h2 => Or.inr (by unfold w_mt; rw [w_lg_o (by omega) (by omega), updI_n (by omega)]))
theorem wi_lo {m : Nat → Int32} {H G h : Nat} {b : Bool} (hw : wi m H G) (hh : h < 8) : wi (w_lo m h b) H G := hw.cm (by unfold w_lo; rw [updI_n (by omega)]) (fun k h1 h2 => by unfold w_lo; rw [updI_n (by omega)]) (fun k h1 h2 => Or.inr (by unfold w_lo; rw [updI_n (by omega)]))
theorem w_nb_o {m : Nat → Int32} {h n k : Nat} (hk : k < 195 + 8 * h ∨ 195 + 8 * h + n ≤ k) : w_nb m h n k = m k := by unfold w_nb; rw [if_neg (by omega)]
theorem wi_sa {m : Nat → Int32} {H G h : Nat} (hw : wi m H G) (hh : h < 8) : wi (w_sa m h) H G := hw.cm (by unfold w_sa; rw [w_lg_o (by omega) (by omega), updI_n (by omega), w_nb_o (by omega)]) (fun k h1 h2 => by unfold w_sa; rw [w_lg_o (by omega) (by omega), updI_n (by omega), w_nb_o (by omega)]) (fun k h1 h2 => by
  unfold w_sa
  rw [w_lg_o (by omega) (by omega), updI_n (by omega)]
  by_cases z : 195 + 8 * h ≤ k ∧ k < 195 + 8 * h + 8
  · exact Or.inl (by unfold w_nb; rw [if_pos z])
  · exact Or.inr (w_nb_o (by omega)))
theorem wi_cl {z : (Nat → Int32) × Int32} {H G h : Nat} {b : Bool} (hw : wi z.1 H G) (hh : h < 8) : wi (w_cl z h b).1 H G := by
  unfold w_cl
  split
  · exact wi_sa (wi_lo hw hh) hh
  · exact wi_lo hw hh
theorem wi_en {z : (Nat → Int32) × Int32} {H G n : Nat} {s : Int32} (hw : wi z.1 H G) (hn : n ≤ 8) : wi (w_en z s n).1 H G := by
  induction n with
  | zero => exact hw
  | succ n ih => rw [w_en_s]; exact wi_cl (ih (by omega)) (by omega)
theorem wi_we {m : Nat → Int32} {H G : Nat} (hw : wi m H G) : wi (w_we m) H G := hw.cm (updI_n (by omega)) (fun k h1 h2 => updI_n (by omega)) (fun k h1 h2 => Or.inr (updI_n (by omega)))
theorem wi_dr {m : Nat → Int32} {H G : Nat} {b : Bool} (hw : wi m H G) : wi (w_dr b m) H G := by
  unfold w_dr
  split
  · exact hw.cm (updI_n (by omega)) (fun k h1 h2 => updI_n (by omega)) (fun k h1 h2 => Or.inr (updI_n (by omega)))
  · exact hw
theorem wi_hq {D : lwD} {y : w_Y} {H G q n : Nat} (hw : wi y.1 H G) (hn : n ≤ 8) : wi (w_hq D q n y).1 H G := by
  induction n with
  | zero => exact hw
  | succ n ih =>
    rw [w_hq_s]
    split
    · exact wi_mt (ih (by omega)) (by omega)
    · exact ih (by omega)
theorem wi_qd {D : lwD} {y : w_Y} {H G q : Nat} {b : Bool} (hw : wi y.1 H G) (hH : H ≤ 8) : wi (w_qd D b H q y).1 H G := by
  unfold w_qd
  split
  · exact wi_dr hw
  · exact wi_hq (wi_dr hw) hH
theorem wi_qs {D : lwD} {y : w_Y} {H G n : Nat} {b : Bool} (hw : wi y.1 H G) (hH : H ≤ 8) : wi (w_qs D b H n y).1 H G := by
  induction n with
  | zero => exact hw
  | succ n ih => rw [w_qs_s]; exact wi_qd ih hH
theorem wi_wk {D : lwD} {z : (Nat → Int32) × Int32} {H G : Nat} {b : Bool} (hw : wi z.1 H G) (hH : H ≤ 8) : wi (w_wk D b H z).1 H G := wi_we (wi_en (wi_qs (y := (z.1, nI 0, 0)) hw hH) hH)
section AG41
variable {l : Launch} {E : mx_Env} {t : Nat} {S : mx_S} {I : mx_I} {P : mx_P} {J : mx_G} {m : Nat → Int32} {x mo H G n s la : Nat} {D : lwD}
theorem wz.off {I K : mx_I} {s la : Nat} (h : mx_off (zs s la) I K) : mx_off (wz s la) I K := fun c hc => h c (fun z => hc (by unfold zs at z; unfold wz; omega))
theorem lo_cg {I K : mx_I} {s N z : Nat} {m : Nat → Int32} (h : lo_rel I (s + 9) m N z) (e0 : K (s + 9) = I (s + 9)) (e1 : K (s + 9 + 1) = I (s + 9 + 1)) : lo_rel K (s + 9) m N z := h.cm e0 e1 rfl (fun _ _ _ => rfl)
theorem c_St_meet (hSt : st_ok S P s) (hSr : st_rel I s m) (hla : P s 2 = some la) (hLw : la_is S P I la D) (hd : la + 6 ≤ s ∨ s + 15 ≤ la) (hlr : ∃ N z, lo_rel I (s + 9) m N z) (hw : wi m H G) (hH8 : H ≤ 8) (hG8 : G ≤ 8) {h q : Nat} (hh : h < 8) (hq : q < 8) (hmt : vs_mt D m h q = true) : mx_C l E M_St_meet 5 0 0 [.ref (s), .int (nI (h)), .int (nI (q))] (t, S, I, P, J) (mx_sR none t S P J (fun K => mx_off (wz s la) I K ∧ WS K s (w_mt D m h q) ∧ K s 9 = I s 9)) := by
  obtain ⟨hC0, hC1, hC2, hC3, hC4, hC5, hC6, hD1, hD2, hD3, hD4, hPe, hLo⟩ := id hSt
  obtain ⟨w0, w1, w2, w3, w4, w5, w6, w7, w8, w9⟩ := id hSr
  have hPe0 := hPe.1
  obtain ⟨g, hgL, eg⟩ := (hw.2.2 h q hh hq).resolve_left (fun z => by rw [vs_mt_n z] at hmt; cases hmt)
  have hg8 : g < 8 := by omega
  have hLo0 := hLo.1
  refine mx_C_of (ls0 := [some (.ref (s)), some (.int (nI (h))), some (.int (nI (q))), none, none]) (by decide +kernel) rfl rfl (Nat.le_of_ble_eq_true rfl) rfl ?_
  refine mx_al0 d_St_meet_0 ?_
  refine mx_il1 d_St_meet_1 ?_
  refine mx_il2 d_St_meet_2 ?_
  refine mx_cV2i d_St_meet_3 (c_St_guestAt hSt hSr (h := h) (q := q) (by omega) (by omega)) ok_St_guestAt ml_St_86 (by assumption) ⟨rfl, rfl⟩ (by decide) (Nat.le_of_ble_eq_true rfl) ?_
  refine mx_ti (y := nI (g)) (eg) ?_
  refine mx_is3 d_St_meet_6 ?_
  refine mx_al0 d_St_meet_7 ?_
  refine mx_il1 d_St_meet_8 ?_
  refine mx_il3 d_St_meet_9 ?_
  refine mx_il2 d_St_meet_10 ?_
  refine mx_cV3iR d_St_meet_11 (c_St_joyOf hSt hSr hla hLw hd (h := h) (g := g) (q := q) (by omega) (by omega) (by omega)) ok_St_joyOf ml_St_141 (by assumption) ⟨rfl, rfl⟩ (by decide) (Nat.le_of_ble_eq_true rfl) (fun K1 hK1 => ?_)
  refine mx_is4 d_St_meet_14 ?_
  refine mx_al0 d_St_meet_16 ?_
  refine mx_getR d_St_meet_17 fl_St_47 (by assumption) (by assumption) ?_
  refine mx_il1 d_St_meet_20 ?_
  refine mx_al0 d_St_meet_21 ?_
  refine mx_getR d_St_meet_22 fl_St_47 (by assumption) (by assumption) ?_
  refine mx_il1 d_St_meet_25 ?_
  refine mx_cSN2i d_St_meet_26 (c_get (k := h) (by assumption) (by omega) (by omega)) ok_Vh_get ml_St_75 (by decide) (Nat.le_of_ble_eq_true rfl) ?_
  refine mx_ti (y := (m (11 + 4 * h + 2))) ((congrFun (hK1 (s + 11) (by unfold zs; omega)) h).trans (w7 h hh)) ?_
  refine mx_il4 d_St_meet_29 ?_
  refine mx_iadd d_St_meet_31 ?_
  refine mx_sip 999 d_St_meet_32 (by decide) ?_
  refine mx_mmin d_St_meet_35 ml_St_145 (by decide) (Nat.le_of_ble_eq_true rfl) ?_
  refine mx_ti (y := (mn9 (m (11 + 4 * h + 2) + (vs_jy D m h g q)) (nI 999))) (rfl) ?_
  refine mx_cSN3v d_St_meet_38 (c_put (k := h) (by assumption) (by omega) (by omega)) ok_Vh_put ml_St_79 (by decide) (Nat.le_of_ble_eq_true rfl) ?_
  obtain ⟨m1, hm1⟩ : ∃ m1, m1 = updI m (11 + 4 * h + 2) (mn9 (m (11 + 4 * h + 2) + (vs_jy D m h g q)) (nI 999)) := ⟨_, rfl⟩
  obtain ⟨N, z, hlr0⟩ := hlr
  have hlr1 : lo_rel (mx_up K1 (s + 11) h (mn9 (m (11 + 4 * h + 2) + (vs_jy D m h g q)) (nI 999))) (s + 9) m1 N z := hlr0.cm ((mx_up_ne (by omega)).trans (hK1 _ (by unfold zs; omega))) ((mx_up_ne (by omega)).trans (hK1 _ (by unfold zs; omega))) (by rw [hm1, updI_n (by omega)]) (fun k h1 h2 => by rw [hm1, updI_n (by omega)])
  have hst1 : st_rel (mx_up K1 (s + 11) h (mn9 (m (11 + 4 * h + 2) + (vs_jy D m h g q)) (nI 999))) s m1 := by rw [hm1]; exact st_glad (zs_st hd hK1 hSr) hh
  have hwm : w_mt D m h q = w_lg m1 (nI h) (nI g) (nI q) (nI 0) (vs_jy D m h g q) := by unfold w_mt w_jv; rw [eg, nI_clamp (by omega), hm1]
  refine mx_al0 d_St_meet_41 ?_
  refine mx_getR d_St_meet_42 fl_St_21 (by assumption) (by assumption) ?_
  refine mx_al0 d_St_meet_45 ?_
  refine mx_getI d_St_meet_46 fl_St_32 (by assumption) ?_
  refine mx_ti (y := (m1 6)) ((by rw [mx_up_ne (by omega), hK1 s (by unfold zs; omega), w3, hm1, updI_n (by omega)])) ?_
  refine mx_il1 d_St_meet_49 ?_
  refine mx_il3 d_St_meet_50 ?_
  refine mx_il2 d_St_meet_51 ?_
  refine mx_in_0 d_St_meet_52 ?_
  refine mx_il4 d_St_meet_53 ?_
  refine mx_cV6vR d_St_meet_55 (c_Lo_add (m := m1) hLo hlr1) ok_Lo_add ml_St_150 (by assumption) ⟨rfl, rfl⟩ (by decide) (Nat.le_of_ble_eq_true rfl) (fun K2 hK2 => ?_)
  exact mx_vret d_St_meet_58 rfl (mx_sR_of rfl ⟨fun c hc => by rw [hK2.1 c (fun z => hc (by unfold wz; omega)), mx_up_ne (fun z => hc (by unfold wz; omega)), hK1 c (fun z => hc (by unfold zs at z; unfold wz; omega))], by rw [hwm]; exact ⟨(hst1.cf (fun c h1 h2 h3 h4 => hK2.1 c (by omega))).cm (fun k h1 h2 => w_lg_o h2 (by omega)), hK2.2⟩, by rw [hK2.1 s (by omega), mx_up_ne (by omega), hK1 s (by unfold zs; omega)]⟩)
def ns_inv (I K : mx_I) (s : Nat) (m : Nat → Int32) (h q : Nat) : Prop := mx_off (fun c => c = s + 13) I K ∧ st_rel K s (w_nb m h q)
theorem ns_0 {h : Nat} (hs : st_rel I s m) : ns_inv I I s m h 0 := ⟨fun _ _ => rfl, hs.cm (fun k _ _ => w_nb_o (by omega))⟩
theorem ns_s {K : mx_I} {h q : Nat} (hi : ns_inv I K s m h q) (hh : h < 8) (hq : q < 8) : ns_inv I (mx_up K (s + 13) (8 * h + q) (-1)) s m h (q + 1) := ⟨fun c hc => (mx_up_ne hc).trans (hi.1 c hc), by rw [w_nb_s]; exact st_list hi.2 hh hq⟩
theorem c_St_strikeAll (hSt : st_ok S P s) (hSr : st_rel I s m) (hlr : ∃ N z, lo_rel I (s + 9) m N z) {h : Nat} (hh : h < 8) : mx_C l E M_St_strikeAll 3 0 0 [.ref (s), .int (nI (h))] (t, S, I, P, J) (mx_sR none t S P J (fun K => mx_off (fun c => s ≤ c ∧ c < s + 15) I K ∧ WS K s (w_sa m h) ∧ K s 9 = I s 9 ||| (nI 1 <<< (nI h &&& 31)))) := by
  obtain ⟨hC0, hC1, hC2, hC3, hC4, hC5, hC6, hD1, hD2, hD3, hD4, hPe, hLo⟩ := id hSt
  have hLo0 := hLo.1
  refine mx_C_of (ls0 := [some (.ref (s)), some (.int (nI (h))), none]) (by decide +kernel) rfl rfl (Nat.le_of_ble_eq_true rfl) rfl ?_
  refine mx_in_0 d_St_strikeAll_0 ?_
  refine mx_is2 d_St_strikeAll_1 ?_
  refine mx_loopX (α := (mx_I)) (N := 8) (a0 := I) (fun q z9 => ns_inv I z9 s m h q) (ls := fun q z9 => [some (.ref (s)), some (.int (nI (h))), some (.int (nI (q)))]) (X := fun q z9 => (t, S, z9, P, J)) (ns_0 hSr) (fun q hq z9 hinv ih => ?_) (fun z9 hinv => ?_)
  · skip
    obtain ⟨K, hz9⟩ : ∃ q, q = z9 := ⟨_, rfl⟩
    subst hz9
    try dsimp only at hinv ih ⊢
    refine mx_il2 d_St_strikeAll_2 ?_
    refine mx_bip 8 d_St_strikeAll_3 (by decide) ?_
    refine mx_icN_ge 21 d_St_strikeAll_5 (by decide) (by omega) (by omega) (fun c_5 => absurd c_5 (by omega)) (fun c_5 => ?_)
    refine mx_al0 d_St_strikeAll_8 ?_
    refine mx_il1 d_St_strikeAll_9 ?_
    refine mx_il2 d_St_strikeAll_10 ?_
    refine mx_ic_m1 d_St_strikeAll_11 ?_
    refine mx_cV3v d_St_strikeAll_12 (c_St_enter (by assumption) (by assumption) (by assumption) (h := h) (q := q) (by omega) (by omega)) ok_St_enter ml_St_163 (by assumption) ⟨rfl, rfl⟩ (by decide) (Nat.le_of_ble_eq_true rfl) ?_
    refine mx_iN2 d_St_strikeAll_15 ?_
    refine mx_goto 2 d_St_strikeAll_18 (by decide) ?_
    exact ih (mx_up K (s + 13) (8 * h + q) (-1)) (ns_s hinv hh hq)
  · skip
    obtain ⟨K, hz9⟩ : ∃ q, q = z9 := ⟨_, rfl⟩
    subst hz9
    try dsimp only at hinv ⊢
    refine mx_il2 d_St_strikeAll_2 ?_
    refine mx_bip 8 d_St_strikeAll_3 (by decide) ?_
    refine mx_icN_ge 21 d_St_strikeAll_5 (by decide) (by omega) (by omega) (fun c_5 => ?_) (fun c_5 => absurd c_5 (by omega))
    refine mx_al0 d_St_strikeAll_21 ?_
    refine mx_getR d_St_strikeAll_22 fl_St_51 (by assumption) (by assumption) ?_
    refine mx_il1 d_St_strikeAll_25 ?_
    refine mx_in_0 d_St_strikeAll_26 ?_
    refine mx_cSN3v d_St_strikeAll_27 (c_put (k := h) (by assumption) (by omega) (by omega)) ok_Vh_put ml_St_79 (by decide) (Nat.le_of_ble_eq_true rfl) ?_
    obtain ⟨m1, hm1⟩ : ∃ m1, m1 = updI (w_nb m h 8) (11 + 4 * h + 3) (nI 0) := ⟨_, rfl⟩
    have hst1 : st_rel (mx_up K (s + 12) h (nI 0)) s m1 := by rw [hm1]; exact st_lone hinv.2 hh
    refine mx_al0 d_St_strikeAll_30 ?_
    refine mx_dup d_St_strikeAll_31 rfl ?_
    refine mx_getI d_St_strikeAll_32 fl_St_44 (by assumption) ?_
    refine mx_ti (y := (I s 9)) ((by rw [mx_up_ne (by omega), hinv.1 s (by show ¬ s = s + 13; omega)])) ?_
    refine mx_in_1 d_St_strikeAll_35 ?_
    refine mx_il1 d_St_strikeAll_36 ?_
    refine mx_ishl d_St_strikeAll_37 ?_
    refine mx_ior d_St_strikeAll_38 ?_
    refine mx_putI d_St_strikeAll_39 fl_St_44 (by assumption) ?_
    obtain ⟨N, z, hlr0⟩ := hlr
    have hlr1 : lo_rel (mx_up (mx_up K (s + 12) h (nI 0)) s 9 (I s 9 ||| (nI 1 <<< (nI h &&& 31)))) (s + 9) m1 N z := hlr0.cm ((mx_up_ne (by omega)).trans ((mx_up_ne (by omega)).trans (hinv.1 _ (by show ¬ s + 9 = s + 13; omega)))) ((mx_up_ne (by omega)).trans ((mx_up_ne (by omega)).trans (hinv.1 _ (by show ¬ s + 9 + 1 = s + 13; omega)))) (by rw [hm1, updI_n (by omega), w_nb_o (by omega)]) (fun k h1 h2 => by rw [hm1, updI_n (by omega), w_nb_o (by omega)])
    refine mx_al0 d_St_strikeAll_42 ?_
    refine mx_getR d_St_strikeAll_43 fl_St_21 (by assumption) (by assumption) ?_
    refine mx_al0 d_St_strikeAll_46 ?_
    refine mx_getI d_St_strikeAll_47 fl_St_32 (by assumption) ?_
    refine mx_ti (y := (m1 6)) ((by rw [show (mx_up (mx_up K (s + 12) h (nI 0)) s 9 (I s 9 ||| (nI 1 <<< (nI h &&& 31)))) s 5 = mx_up K (s + 12) h (nI 0) s 5 from by simp [mx_up]]; exact hst1.2.2.2.1)) ?_
    refine mx_il1 d_St_strikeAll_50 ?_
    refine mx_ic_m1 d_St_strikeAll_51 ?_
    refine mx_ic_m1 d_St_strikeAll_52 ?_
    refine mx_in_1 d_St_strikeAll_53 ?_
    refine mx_in_0 d_St_strikeAll_54 ?_
    refine mx_cV6vR d_St_strikeAll_55 (c_Lo_add (m := m1) hLo hlr1) ok_Lo_add ml_St_150 (by assumption) ⟨rfl, rfl⟩ (by decide) (Nat.le_of_ble_eq_true rfl) (fun K2 hK2 => ?_)
    exact mx_vret d_St_strikeAll_58 rfl (mx_sR_of rfl ⟨fun c hc => by rw [hK2.1 c (fun z => hc (by omega)), mx_up_ne (fun z => hc (by omega)), mx_up_ne (fun z => hc (by omega)), hinv.1 c (fun z => hc (by have z : c = s + 13 := z; omega))], ⟨by unfold w_sa; rw [← hm1]; exact (((st_fld9 hst1).cf (fun c h1 h2 h3 h4 => hK2.1 c (by omega))).cm (fun k h1 h2 => w_lg_o h2 (by omega))), by unfold w_sa; rw [← hm1]; exact hK2.2⟩, by rw [hK2.1 s (by omega)]; simp [mx_up]⟩)
theorem w_cl_n {z : (Nat → Int32) × Int32} {h : Nat} {b : Bool} (hn : ¬ w_ov (w_lo z.1 h b) h) : w_cl z h b = (w_lo z.1 h b, z.2) := if_neg hn
theorem w_cl_y {z : (Nat → Int32) × Int32} {h : Nat} {b : Bool} (hn : w_ov (w_lo z.1 h b) h) : w_cl z h b = (w_sa (w_lo z.1 h b) h, z.2 ||| (nI 1 <<< (nI h &&& 31))) := if_pos hn
theorem WS.lo1 {K : mx_I} {m : Nat → Int32} {s h : Nat} {b : Bool} {v : Int32} (hw : WS K s m) (hh : h < 8) (hv : v = if b = true then nI 0 else mn9 (m (11 + 4 * h + 3) + nI 1) (nI 99)) : WS (mx_up K (s + 12) h v) s (w_lo m h b) := by
  obtain ⟨h1, N, z, h2⟩ := hw
  refine ⟨by unfold w_lo; rw [← hv]; exact st_lone h1 hh, N, z, h2.cm (mx_up_ne (by omega)) (mx_up_ne (by omega)) (by unfold w_lo; rw [updI_n (by omega)]) (fun k a b => by unfold w_lo; rw [updI_n (by omega)])⟩
def en_inv (I K : mx_I) (s : Nat) (z : (Nat → Int32) × Int32) : Prop := mx_off (fun c => s ≤ c ∧ c < s + 15) I K ∧ WS K s z.1 ∧ K s 9 = z.2
theorem c_St_endWeek (hSt : st_ok S P s) (hSr : st_rel I s m) (hlr : ∃ N z, lo_rel I (s + 9) m N z) (hw : wi m H G) (hH8 : H ≤ 8) (hG8 : G ≤ 8) {w : Int32} : mx_C l E M_St_endWeek 4 0 0 [.ref (s), .int (w)] (t, S, I, P, J) (mx_sR none t S P J (fun K => mx_off (fun c => s ≤ c ∧ c < s + 15) I K ∧ WS K s (w_we (w_en (m, I s 9) w H).1) ∧ K s 9 = (w_en (m, I s 9) w H).2)) := by
  obtain ⟨hC0, hC1, hC2, hC3, hC4, hC5, hC6, hD1, hD2, hD3, hD4, hPe, hLo⟩ := id hSt
  obtain ⟨w0, w1, w2, w3, w4, w5, w6, w7, w8, w9⟩ := id hSr
  have hPe0 := hPe.1
  obtain ⟨hA0, hA1, hA2, hA3, hA4, hA5, hA6, hA7, hB1, hB2, hB3, hB4, hB5, hB6, hB7⟩ := id hPe
  refine mx_C_of (ls0 := [some (.ref (s)), some (.int (w)), none]) (by decide +kernel) rfl rfl (Nat.le_of_ble_eq_true rfl) rfl ?_
  refine mx_in_0 d_St_endWeek_0 ?_
  refine mx_is2 d_St_endWeek_1 ?_
  refine mx_loopX (α := (mx_I)) (N := H) (a0 := I) (fun h z9 => en_inv I z9 s (w_en (m, I s 9) w h)) (ls := fun h z9 => [some (.ref (s)), some (.int (w)), some (.int (nI (h)))]) (X := fun h z9 => (t, S, z9, P, J)) (⟨mx_off.rf, ⟨hSr, hlr⟩, rfl⟩) (fun h hh z9 hinv ih => ?_) (fun z9 hinv => ?_)
  · skip
    obtain ⟨K, hz9⟩ : ∃ q, q = z9 := ⟨_, rfl⟩
    subst hz9
    try dsimp only at hinv ih ⊢
    have hwz := wi_en (z := (m, I s 9)) (s := w) hw (n := h) (by omega)
    refine mx_il2 d_St_endWeek_2 ?_
    refine mx_al0 d_St_endWeek_3 ?_
    refine mx_getR d_St_endWeek_4 fl_St_12 (by assumption) (by assumption) ?_
    refine mx_getI d_St_endWeek_7 fl_St_90 (by assumption) ?_
    refine mx_ti (y := nI (H)) (hinv.2.1.1.1.1.trans hwz.1) ?_
    refine mx_icN_ge 81 d_St_endWeek_10 (by decide) (by omega) (by omega) (fun c_10 => absurd c_10 (by omega)) (fun c_10 => ?_)
    refine mx_al0 d_St_endWeek_13 ?_
    refine mx_getR d_St_endWeek_14 fl_St_51 (by assumption) (by assumption) ?_
    refine mx_il2 d_St_endWeek_17 ?_
    refine mx_il1 d_St_endWeek_18 ?_
    refine mx_il2 d_St_endWeek_19 ?_
    refine mx_cSN2i d_St_endWeek_20 (c_has (j := h) (by omega)) ok_Vh_has ml_St_154 (by decide) (Nat.le_of_ble_eq_true rfl) ?_
    refine mx_ifB_eq 30 d_St_endWeek_23 (by decide) (fun c_23 => ?_) (fun c_23 => ?_)
    · skip
      rw [vs_has_bt (by omega)] at c_23
      refine mx_al0 d_St_endWeek_30 ?_
      refine mx_getR d_St_endWeek_31 fl_St_51 (by assumption) (by assumption) ?_
      refine mx_il2 d_St_endWeek_34 ?_
      refine mx_cSN2i d_St_endWeek_35 (c_get (k := h) (by assumption) (by omega) (by omega)) ok_Vh_get ml_St_75 (by decide) (Nat.le_of_ble_eq_true rfl) ?_
      refine mx_ti (y := ((w_en (m, I s 9) w h).1 (11 + 4 * h + 3))) (hinv.2.1.1.2.2.2.2.2.2.2.2.1 h (by omega)) ?_
      refine mx_in_1 d_St_endWeek_38 ?_
      refine mx_iadd d_St_endWeek_39 ?_
      refine mx_bip 99 d_St_endWeek_40 (by decide) ?_
      refine mx_mmin d_St_endWeek_42 ml_St_145 (by decide) (Nat.le_of_ble_eq_true rfl) ?_
      refine mx_ti (y := (if bt w h = true then nI 0 else mn9 ((w_en (m, I s 9) w h).1 (11 + 4 * h + 3) + nI 1) (nI 99))) ((by rw [c_23]; rfl)) ?_
      refine mx_cSN3v d_St_endWeek_45 (c_put (k := h) (by assumption) (by omega) (by omega)) ok_Vh_put ml_St_79 (by decide) (Nat.le_of_ble_eq_true rfl) ?_
      have hW1 := hinv.2.1.lo1 (b := bt w h) (show h < 8 by omega) rfl
      refine mx_al0 d_St_endWeek_48 ?_
      refine mx_getR d_St_endWeek_49 fl_St_51 (by assumption) (by assumption) ?_
      refine mx_il2 d_St_endWeek_52 ?_
      refine mx_cSN2i d_St_endWeek_53 (c_get (k := h) (by assumption) (by omega) (by omega)) ok_Vh_get ml_St_75 (by decide) (Nat.le_of_ble_eq_true rfl) ?_
      refine mx_ti (y := ((w_lo (w_en (m, I s 9) w h).1 h (bt w h)) (11 + 4 * h + 3))) (hW1.1.2.2.2.2.2.2.2.2.1 h (by omega)) ?_
      refine mx_al0 d_St_endWeek_56 ?_
      refine mx_getR d_St_endWeek_57 fl_St_12 (by assumption) (by assumption) ?_
      refine mx_getR d_St_endWeek_60 fl_St_157 (by assumption) (by assumption) ?_
      refine mx_il2 d_St_endWeek_63 ?_
      refine mx_cSN2i d_St_endWeek_64 (c_get (k := h) (by assumption) (by omega) (by omega)) ok_Vh_get ml_St_75 (by decide) (Nat.le_of_ble_eq_true rfl) ?_
      refine mx_ti (y := ((w_lo (w_en (m, I s 9) w h).1 h (bt w h)) (11 + 4 * h + 0))) (hW1.1.1.2.2.1 h (by omega)) ?_
      refine mx_icmp_le 75 d_St_endWeek_67 (by decide) (fun c_67 => ?_) (fun c_67 => ?_)
      · skip
        have k0 := w_cl_n (z := (w_en (m, I s 9) w h)) (h := h) (b := bt w h) (Int32.not_lt.mpr c_67)
        refine mx_iN2 d_St_endWeek_75 ?_
        refine mx_goto 2 d_St_endWeek_78 (by decide) ?_
        exact ih (mx_up K (s + 12) (h) ((if bt w h = true then nI 0 else mn9 ((w_en (m, I s 9) w h).1 (11 + 4 * h + 3) + nI 1) (nI 99)))) (by rw [w_en_s, k0]; exact ⟨fun c hc => (mx_up_ne (fun z => hc (by omega))).trans (hinv.1 c hc), hW1, by rw [mx_up_ne (by omega)]; exact hinv.2.2⟩)
      · skip
        have k0 := w_cl_y (z := (w_en (m, I s 9) w h)) (h := h) (b := bt w h) (Int32.not_le.mp c_67)
        refine mx_al0 d_St_endWeek_70 ?_
        refine mx_il2 d_St_endWeek_71 ?_
        refine mx_cV1vR d_St_endWeek_72 (c_St_strikeAll hSt hW1.1 hW1.2 (h := h) (by omega)) ok_St_strikeAll ml_St_160 (by assumption) ⟨rfl, rfl⟩ (by decide) (Nat.le_of_ble_eq_true rfl) (fun K2 hK2 => ?_)
        refine mx_iN2 d_St_endWeek_75 ?_
        refine mx_goto 2 d_St_endWeek_78 (by decide) ?_
        exact ih K2 (by rw [w_en_s, k0]; exact ⟨fun c hc => (hK2.1 c hc).trans ((mx_up_ne (fun z => hc (by omega))).trans (hinv.1 c hc)), hK2.2.1, by rw [hK2.2.2, mx_up_ne (by omega), hinv.2.2]⟩)
    · skip
      rw [vs_has_bt (by omega)] at c_23
      refine mx_in_0 d_St_endWeek_26 ?_
      refine mx_goto 45 d_St_endWeek_27 (by decide) ?_
      refine mx_ti (y := (if bt w h = true then nI 0 else mn9 ((w_en (m, I s 9) w h).1 (11 + 4 * h + 3) + nI 1) (nI 99))) ((by rw [c_23]; rfl)) ?_
      refine mx_cSN3v d_St_endWeek_45 (c_put (k := h) (by assumption) (by omega) (by omega)) ok_Vh_put ml_St_79 (by decide) (Nat.le_of_ble_eq_true rfl) ?_
      have hW1 := hinv.2.1.lo1 (b := bt w h) (show h < 8 by omega) rfl
      refine mx_al0 d_St_endWeek_48 ?_
      refine mx_getR d_St_endWeek_49 fl_St_51 (by assumption) (by assumption) ?_
      refine mx_il2 d_St_endWeek_52 ?_
      refine mx_cSN2i d_St_endWeek_53 (c_get (k := h) (by assumption) (by omega) (by omega)) ok_Vh_get ml_St_75 (by decide) (Nat.le_of_ble_eq_true rfl) ?_
      refine mx_ti (y := ((w_lo (w_en (m, I s 9) w h).1 h (bt w h)) (11 + 4 * h + 3))) (hW1.1.2.2.2.2.2.2.2.2.1 h (by omega)) ?_
      refine mx_al0 d_St_endWeek_56 ?_
      refine mx_getR d_St_endWeek_57 fl_St_12 (by assumption) (by assumption) ?_
      refine mx_getR d_St_endWeek_60 fl_St_157 (by assumption) (by assumption) ?_
      refine mx_il2 d_St_endWeek_63 ?_
      refine mx_cSN2i d_St_endWeek_64 (c_get (k := h) (by assumption) (by omega) (by omega)) ok_Vh_get ml_St_75 (by decide) (Nat.le_of_ble_eq_true rfl) ?_
      refine mx_ti (y := ((w_lo (w_en (m, I s 9) w h).1 h (bt w h)) (11 + 4 * h + 0))) (hW1.1.1.2.2.1 h (by omega)) ?_
      refine mx_icmp_le 75 d_St_endWeek_67 (by decide) (fun c_67 => ?_) (fun c_67 => ?_)
      · skip
        have k0 := w_cl_n (z := (w_en (m, I s 9) w h)) (h := h) (b := bt w h) (Int32.not_lt.mpr c_67)
        refine mx_iN2 d_St_endWeek_75 ?_
        refine mx_goto 2 d_St_endWeek_78 (by decide) ?_
        exact ih (mx_up K (s + 12) (h) ((if bt w h = true then nI 0 else mn9 ((w_en (m, I s 9) w h).1 (11 + 4 * h + 3) + nI 1) (nI 99)))) (by rw [w_en_s, k0]; exact ⟨fun c hc => (mx_up_ne (fun z => hc (by omega))).trans (hinv.1 c hc), hW1, by rw [mx_up_ne (by omega)]; exact hinv.2.2⟩)
      · skip
        have k0 := w_cl_y (z := (w_en (m, I s 9) w h)) (h := h) (b := bt w h) (Int32.not_le.mp c_67)
        refine mx_al0 d_St_endWeek_70 ?_
        refine mx_il2 d_St_endWeek_71 ?_
        refine mx_cV1vR d_St_endWeek_72 (c_St_strikeAll hSt hW1.1 hW1.2 (h := h) (by omega)) ok_St_strikeAll ml_St_160 (by assumption) ⟨rfl, rfl⟩ (by decide) (Nat.le_of_ble_eq_true rfl) (fun K2 hK2 => ?_)
        refine mx_iN2 d_St_endWeek_75 ?_
        refine mx_goto 2 d_St_endWeek_78 (by decide) ?_
        exact ih K2 (by rw [w_en_s, k0]; exact ⟨fun c hc => (hK2.1 c hc).trans ((mx_up_ne (fun z => hc (by omega))).trans (hinv.1 c hc)), hK2.2.1, by rw [hK2.2.2, mx_up_ne (by omega), hinv.2.2]⟩)
  · skip
    obtain ⟨K, hz9⟩ : ∃ q, q = z9 := ⟨_, rfl⟩
    subst hz9
    try dsimp only at hinv ⊢
    have hwz := wi_en (z := (m, I s 9)) (s := w) hw (n := H) hH8
    refine mx_il2 d_St_endWeek_2 ?_
    refine mx_al0 d_St_endWeek_3 ?_
    refine mx_getR d_St_endWeek_4 fl_St_12 (by assumption) (by assumption) ?_
    refine mx_getI d_St_endWeek_7 fl_St_90 (by assumption) ?_
    refine mx_ti (y := nI (H)) (hinv.2.1.1.1.1.trans hwz.1) ?_
    refine mx_icN_ge 81 d_St_endWeek_10 (by decide) (by omega) (by omega) (fun c_10 => ?_) (fun c_10 => absurd c_10 (by omega))
    refine mx_al0 d_St_endWeek_81 ?_
    refine mx_al0 d_St_endWeek_82 ?_
    refine mx_getI d_St_endWeek_83 fl_St_32 (by assumption) ?_
    refine mx_ti (y := ((w_en (m, I s 9) w H).1 6)) (hinv.2.1.1.2.2.2.1) ?_
    refine mx_in_1 d_St_endWeek_86 ?_
    refine mx_iadd d_St_endWeek_87 ?_
    refine mx_sip 9999 d_St_endWeek_88 (by decide) ?_
    refine mx_mmin d_St_endWeek_91 ml_St_145 (by decide) (Nat.le_of_ble_eq_true rfl) ?_
    refine mx_ti (y := (mn9 ((w_en (m, I s 9) w H).1 6 + nI 1) (nI 9999))) (rfl) ?_
    refine mx_putI d_St_endWeek_94 fl_St_32 (by assumption) ?_
    exact mx_vret d_St_endWeek_97 rfl (mx_sR_of rfl ⟨fun c hc => (mx_up_ne (fun z => hc (by omega))).trans (hinv.1 c hc), ⟨by unfold w_we; exact st_fld hinv.2.1.1 (Or.inl ⟨rfl, rfl⟩), by obtain ⟨N, z, h2⟩ := hinv.2.1.2; exact ⟨N, z, h2.cm (mx_up_ne (by omega)) (mx_up_ne (by omega)) (by unfold w_we; rw [updI_n (by omega)]) (fun k a b => by unfold w_we; rw [updI_n (by omega)])⟩⟩, by rw [← hinv.2.2]; simp [mx_up]⟩)
theorem w_wet_t {b : Bool} {m : Nat → Int32} {u v : Int32} (hb : b = true) (h10 : u = m 10) (h5 : v = m 5) (c : w_pc (w_out (w_sd u)) < v) : w_wet b m = true := by subst hb; subst h10; subst h5; unfold w_wet; rw [decide_eq_true c]; rfl
theorem w_wet_f {b : Bool} {m : Nat → Int32} {u v : Int32} (hb : b = true) (h10 : u = m 10) (h5 : v = m 5) (c : ¬ w_pc (w_out (w_sd u)) < v) : w_wet b m = false := by subst hb; subst h10; subst h5; unfold w_wet; rw [decide_eq_false c]; rfl
theorem w_wet_n {b : Bool} {m : Nat → Int32} (hb : b = false) : w_wet b m = false := by subst hb; rfl
theorem w_dr_n {b : Bool} {m : Nat → Int32} (hb : b = false) : w_dr b m = m := by subst hb; rfl
theorem w_dr_t {b : Bool} {m : Nat → Int32} (hb : b = true) : w_dr b m = w_dr true m := by subst hb; rfl
theorem wz_la {I K : mx_I} (hd : la + 6 ≤ s ∨ s + 15 ≤ la) (h : mx_off (wz s la) I K) (hl : la_is S P I la D) : la_is S P K la D := ⟨hl.1, hl.2.1.congr (fun c h1 h2 => h c (by unfold wz; omega)), hl.2.2⟩
theorem WS.sd {K : mx_I} {m : Nat → Int32} {s : Nat} (hw : WS K s m) : WS (mx_up K s 8 (w_sd (K s 8))) s (w_dr true m) := by
  obtain ⟨h1, N, z, h2⟩ := hw
  have e := h1.2.2.2.2.2.2.1
  refine ⟨by unfold w_dr; rw [if_pos rfl, ← e]; exact st_fld h1 (Or.inr ⟨rfl, rfl⟩), N, z, h2.cm (mx_up_ne (by omega)) (mx_up_ne (by omega)) (by unfold w_dr; rw [if_pos rfl, updI_n (by omega)]) (fun k a b => by unfold w_dr; rw [if_pos rfl, updI_n (by omega)])⟩
def pq_inv (I K : mx_I) (s la : Nat) (m : Nat → Int32) : Prop := mx_off (wz s la) I K ∧ WS K s m ∧ K s 9 = I s 9
theorem pq_mt {I K K2 : mx_I} {m m' : Nat → Int32} (h : pq_inv I K s la m) (h2 : mx_off (wz s la) K K2 ∧ WS K2 s m' ∧ K2 s 9 = K s 9) : pq_inv I K2 s la m' := ⟨h.1.tr h2.1, h2.2.1, h2.2.2.trans h.2.2⟩
theorem pq_zs {I K K2 : mx_I} {m : Nat → Int32} (hd : la + 6 ≤ s ∨ s + 15 ≤ la) (h : pq_inv I K s la m) (h2 : mx_off (zs s la) K K2) : pq_inv I K2 s la m := by
  refine ⟨h.1.tr (wz.off h2), ⟨zs_st hd h2 h.2.1.1, ?_⟩, by rw [h2 s (by unfold zs; omega)]; exact h.2.2⟩
  obtain ⟨N, z, q⟩ := h.2.1.2
  exact ⟨N, z, lo_cg q (h2 _ (by unfold zs; omega)) (h2 _ (by unfold zs; omega))⟩
theorem pq_out {I K : mx_I} {b : Bool} {q h : Nat} {y0 : w_Y} (hc : (w_wet b (w_qs D b H q y0).1 = true ∧ h = 0) ∨ (w_wet b (w_qs D b H q y0).1 = false ∧ h = H)) (hp : pq_inv I K s la (w_hq D q h (w_dr b (w_qs D b H q y0).1, (w_qs D b H q y0).2)).1) : w_qs D b H (q + 1) y0 = w_hq D q h (w_dr b (w_qs D b H q y0).1, (w_qs D b H q y0).2) ∧ pq_inv I K s la (w_qs D b H (q + 1) y0).1 := by
  have e : w_qs D b H (q + 1) y0 = w_hq D q h (w_dr b (w_qs D b H q y0).1, (w_qs D b H q y0).2) := by
    rw [w_qs_s]
    unfold w_qd
    rcases hc with ⟨h1, rfl⟩ | ⟨h1, rfl⟩
    · rw [if_pos h1]; rfl
    · rw [if_neg (by rw [h1]; decide)]
  exact ⟨e, by rw [e]; exact hp⟩
theorem c_St_passWeek (hSt : st_ok S P s) (hSr : st_rel I s m) (hla : P s 2 = some la) (hLw : la_is S P I la D) (hd : la + 6 ≤ s ∨ s + 15 ≤ la) (hlr : ∃ N z, lo_rel I (s + 9) m N z) (hw : wi m H G) (hH8 : H ≤ 8) (hG8 : G ≤ 8) {b : Bool} : mx_C l E M_St_passWeek 6 0 0 [.ref (s), .int (bI (b))] (t, S, I, P, J) (mx_sR (some (.int (nI (w_met D b H m)))) t S P J (fun K => mx_off (wz s la) I K ∧ WS K s (w_wk D b H (m, I s 9)).1 ∧ K s 9 = (w_wk D b H (m, I s 9)).2)) := by
  obtain ⟨hC0, hC1, hC2, hC3, hC4, hC5, hC6, hD1, hD2, hD3, hD4, hPe, hLo⟩ := id hSt
  obtain ⟨w0, w1, w2, w3, w4, w5, w6, w7, w8, w9⟩ := id hSr
  have hPe0 := hPe.1
  have hLwI := hLw
  refine mx_C_of (ls0 := [some (.ref (s)), some (.int (bI (b))), none, none, none, none, none]) (by decide +kernel) rfl rfl (Nat.le_of_ble_eq_true rfl) rfl ?_
  refine mx_in_0 d_St_passWeek_0 ?_
  refine mx_is2 d_St_passWeek_1 ?_
  refine mx_in_0 d_St_passWeek_2 ?_
  refine mx_is3 d_St_passWeek_3 ?_
  refine mx_in_0 d_St_passWeek_4 ?_
  refine mx_is4 d_St_passWeek_5 ?_
  refine mx_loopX (α := (mx_I)) (N := 8) (a0 := I) (fun q z9 => pq_inv I z9 s la (w_qs D b H q (m, nI 0, 0)).1) (ls := fun q z9 => [some (.ref (s)), some (.int (bI (b))), some (.int (nI ((w_qs D b H q (m, nI 0, 0)).2.2))), some (.int ((w_qs D b H q (m, nI 0, 0)).2.1)), some (.int (nI (q))), none, none]) (X := fun q z9 => (t, S, z9, P, J)) (⟨mx_off.rf, ⟨hSr, hlr⟩, rfl⟩) (fun q hq z9 hinv ih => ?_) (fun z9 hinv => ?_)
  · skip
    obtain ⟨K, hz9⟩ : ∃ q, q = z9 := ⟨_, rfl⟩
    subst hz9
    try dsimp only at hinv ih ⊢
    have hwy : wi (w_qs D b H q (m, nI 0, 0)).1 H G := wi_qs (y := (m, nI 0, 0)) hw hH8
    refine mx_il4 d_St_passWeek_7 ?_
    refine mx_bip 8 d_St_passWeek_9 (by decide) ?_
    refine mx_icN_ge 100 d_St_passWeek_11 (by decide) (by omega) (by omega) (fun c_11 => absurd c_11 (by omega)) (fun c_11 => ?_)
    refine mx_il1 d_St_passWeek_14 ?_
    refine mx_ifB_eq 36 d_St_passWeek_15 (by decide) (fun c_15 => ?_) (fun c_15 => ?_)
    · skip
      have hwet : w_wet b (w_qs D b H q (m, nI 0, 0)).1 = false := w_wet_n c_15
      have hpq : pq_inv I K s la (w_dr b (w_qs D b H q (m, nI 0, 0)).1) := by rw [w_dr_n c_15]; exact hinv
      refine mx_in_0 d_St_passWeek_36 ?_
      refine mx_is5 d_St_passWeek_37 ?_
      refine mx_in_0 d_St_passWeek_39 ?_
      refine mx_is6 d_St_passWeek_40 ?_
      have ih7 := ih
      have hinv7 := hinv
      refine mx_loopX (α := (mx_I)) (N := H) (a0 := K) (fun h z9 => pq_inv I z9 s la (w_hq D q h (w_dr b (w_qs D b H q (m, nI 0, 0)).1, (w_qs D b H q (m, nI 0, 0)).2)).1 ∧ (w_wet b (w_qs D b H q (m, nI 0, 0)).1 = true → h = 0)) (ls := fun h z9 => [some (.ref (s)), some (.int (bI (b))), some (.int (nI ((w_hq D q h (w_dr b (w_qs D b H q (m, nI 0, 0)).1, (w_qs D b H q (m, nI 0, 0)).2)).2.2))), some (.int ((w_hq D q h (w_dr b (w_qs D b H q (m, nI 0, 0)).1, (w_qs D b H q (m, nI 0, 0)).2)).2.1)), some (.int (nI (q))), some (.int (nI (0))), some (.int (nI (h)))]) (X := fun h z9 => (t, S, z9, P, J)) (⟨hpq, fun _ => rfl⟩) (fun h hh z9 hinv ih => ?_) (fun z9 hinv => ?_)
      · skip
        obtain ⟨K, hz9⟩ : ∃ q, q = z9 := ⟨_, rfl⟩
        subst hz9
        try dsimp only at hinv ih ⊢
        have hLw := wz_la hd hinv.1.1 hLwI
        have hwv : wi (w_hq D q h (w_dr b (w_qs D b H q (m, nI 0, 0)).1, (w_qs D b H q (m, nI 0, 0)).2)).1 H G := wi_hq (y := (w_dr b (w_qs D b H q (m, nI 0, 0)).1, (w_qs D b H q (m, nI 0, 0)).2)) (wi_dr hwy) (by omega)
        refine mx_il6 d_St_passWeek_42 ?_
        refine mx_al0 d_St_passWeek_44 ?_
        refine mx_getR d_St_passWeek_45 fl_St_12 (by assumption) (by assumption) ?_
        refine mx_getI d_St_passWeek_48 fl_St_90 (by assumption) ?_
        refine mx_ti (y := nI (H)) (hinv.1.2.1.1.1.1.trans hwv.1) ?_
        refine mx_icN_ge 94 d_St_passWeek_51 (by decide) (by omega) (by omega) (fun c_51 => absurd c_51 (by omega)) (fun c_51 => ?_)
        refine mx_il5 d_St_passWeek_54 ?_
        refine mx_if_ne 94 d_St_passWeek_56 (by decide) (fun c_56 => absurd (by decide) c_56) (fun c_56 => ?_)
        refine mx_al0 d_St_passWeek_59 ?_
        refine mx_il6 d_St_passWeek_60 ?_
        refine mx_il4 d_St_passWeek_62 ?_
        refine mx_cV2iR d_St_passWeek_64 (c_St_meetsAt hSt hinv.1.2.1.1 hla hLw hd hwv.2.1 hwv.2.2 hG8 (h := h) (q := q) (by omega) (by omega)) ok_St_meetsAt ml_St_124 (by assumption) ⟨rfl, rfl⟩ (by decide) (Nat.le_of_ble_eq_true rfl) (fun K2 hK2 => ?_)
        refine mx_ifB_eq 88 d_St_passWeek_67 (by decide) (fun c_67 => ?_) (fun c_67 => ?_)
        · skip
          refine mx_iN6 d_St_passWeek_88 ?_
          refine mx_goto 42 d_St_passWeek_91 (by decide) ?_
          have e2 : nI ((w_hq D q h (w_dr b (w_qs D b H q (m, nI 0, 0)).1, (w_qs D b H q (m, nI 0, 0)).2)).2.2) = nI ((w_hq D q (h + 1) (w_dr b (w_qs D b H q (m, nI 0, 0)).1, (w_qs D b H q (m, nI 0, 0)).2)).2.2) := by rw [w_hq_s]; first | (rw [if_pos c_67]; done) | (rw [if_neg (by rw [c_67]; decide)]; done)
          refine mx_lsc (congrArg (fun z9 => ([some (.ref (s)), some (.int (bI (b))), some (.int (z9)), some (.int ((w_hq D q h (w_dr b (w_qs D b H q (m, nI 0, 0)).1, (w_qs D b H q (m, nI 0, 0)).2)).2.1)), some (.int (nI (q))), some (.int (nI (0))), some (.int (nI (h + 1)))] : List (Option Value))) e2) ?_
          have e3 : (w_hq D q h (w_dr b (w_qs D b H q (m, nI 0, 0)).1, (w_qs D b H q (m, nI 0, 0)).2)).2.1 = (w_hq D q (h + 1) (w_dr b (w_qs D b H q (m, nI 0, 0)).1, (w_qs D b H q (m, nI 0, 0)).2)).2.1 := by rw [w_hq_s]; first | (rw [if_pos c_67]; done) | (rw [if_neg (by rw [c_67]; decide)]; done)
          refine mx_lsc (congrArg (fun z9 => ([some (.ref (s)), some (.int (bI (b))), some (.int (nI ((w_hq D q (h + 1) (w_dr b (w_qs D b H q (m, nI 0, 0)).1, (w_qs D b H q (m, nI 0, 0)).2)).2.2))), some (.int (z9)), some (.int (nI (q))), some (.int (nI (0))), some (.int (nI (h + 1)))] : List (Option Value))) e3) ?_
          exact ih K2 (⟨by rw [w_hq_s, if_neg (by rw [c_67]; decide)]; exact pq_zs hd hinv.1 hK2, fun z => absurd z (by rw [hwet]; decide)⟩)
        · skip
          have hq2 := pq_zs hd hinv.1 hK2
          have hLw2 := wz_la hd hq2.1 hLwI
          refine mx_al0 d_St_passWeek_70 ?_
          refine mx_il6 d_St_passWeek_71 ?_
          refine mx_il4 d_St_passWeek_73 ?_
          refine mx_cV2vR d_St_passWeek_75 (c_St_meet hSt hq2.2.1.1 hla hLw2 hd hq2.2.1.2 hwv hH8 hG8 (h := h) (q := q) (by omega) (by omega) c_67) ok_St_meet ml_St_132 (by assumption) ⟨rfl, rfl⟩ (by decide) (Nat.le_of_ble_eq_true rfl) (fun K3 hK3 => ?_)
          refine mx_iN2 d_St_passWeek_78 ?_
          refine mx_il3 d_St_passWeek_81 ?_
          refine mx_in_1 d_St_passWeek_82 ?_
          refine mx_il6 d_St_passWeek_83 ?_
          refine mx_ishl d_St_passWeek_85 ?_
          refine mx_ior d_St_passWeek_86 ?_
          refine mx_is3 d_St_passWeek_87 ?_
          refine mx_iN6 d_St_passWeek_88 ?_
          refine mx_goto 42 d_St_passWeek_91 (by decide) ?_
          have e2 : nI ((w_hq D q h (w_dr b (w_qs D b H q (m, nI 0, 0)).1, (w_qs D b H q (m, nI 0, 0)).2)).2.2 + 1) = nI ((w_hq D q (h + 1) (w_dr b (w_qs D b H q (m, nI 0, 0)).1, (w_qs D b H q (m, nI 0, 0)).2)).2.2) := by rw [w_hq_s]; first | (rw [if_pos c_67]; done) | (rw [if_neg (by rw [c_67]; decide)]; done)
          refine mx_lsc (congrArg (fun z9 => ([some (.ref (s)), some (.int (bI (b))), some (.int (z9)), some (.int (((w_hq D q h (w_dr b (w_qs D b H q (m, nI 0, 0)).1, (w_qs D b H q (m, nI 0, 0)).2)).2.1 ||| (nI (1) <<< (nI (h) &&& 31))))), some (.int (nI (q))), some (.int (nI (0))), some (.int (nI (h + 1)))] : List (Option Value))) e2) ?_
          have e3 : ((w_hq D q h (w_dr b (w_qs D b H q (m, nI 0, 0)).1, (w_qs D b H q (m, nI 0, 0)).2)).2.1 ||| (nI (1) <<< (nI (h) &&& 31))) = (w_hq D q (h + 1) (w_dr b (w_qs D b H q (m, nI 0, 0)).1, (w_qs D b H q (m, nI 0, 0)).2)).2.1 := by rw [w_hq_s]; first | (rw [if_pos c_67]; done) | (rw [if_neg (by rw [c_67]; decide)]; done)
          refine mx_lsc (congrArg (fun z9 => ([some (.ref (s)), some (.int (bI (b))), some (.int (nI ((w_hq D q (h + 1) (w_dr b (w_qs D b H q (m, nI 0, 0)).1, (w_qs D b H q (m, nI 0, 0)).2)).2.2))), some (.int (z9)), some (.int (nI (q))), some (.int (nI (0))), some (.int (nI (h + 1)))] : List (Option Value))) e3) ?_
          exact ih K3 (⟨by rw [w_hq_s, if_pos c_67]; exact pq_mt hq2 hK3, fun z => absurd z (by rw [hwet]; decide)⟩)
      · skip
        obtain ⟨K, hz9⟩ : ∃ q, q = z9 := ⟨_, rfl⟩
        subst hz9
        try dsimp only at hinv ⊢
        have hLw := wz_la hd hinv.1.1 hLwI
        have hwv : wi (w_hq D q H (w_dr b (w_qs D b H q (m, nI 0, 0)).1, (w_qs D b H q (m, nI 0, 0)).2)).1 H G := wi_hq (y := (w_dr b (w_qs D b H q (m, nI 0, 0)).1, (w_qs D b H q (m, nI 0, 0)).2)) (wi_dr hwy) hH8
        refine mx_il6 d_St_passWeek_42 ?_
        refine mx_al0 d_St_passWeek_44 ?_
        refine mx_getR d_St_passWeek_45 fl_St_12 (by assumption) (by assumption) ?_
        refine mx_getI d_St_passWeek_48 fl_St_90 (by assumption) ?_
        refine mx_ti (y := nI (H)) (hinv.1.2.1.1.1.1.trans hwv.1) ?_
        refine mx_icN_ge 94 d_St_passWeek_51 (by decide) (by omega) (by omega) (fun c_51 => ?_) (fun c_51 => absurd c_51 (by omega))
        obtain ⟨k0, hout⟩ : w_qs D b H (q + 1) (m, nI 0, 0) = (w_hq D q H (w_dr b (w_qs D b H q (m, nI 0, 0)).1, (w_qs D b H q (m, nI 0, 0)).2)) ∧ pq_inv I K s la (w_qs D b H (q + 1) (m, nI 0, 0)).1 := by refine pq_out (by first | exact Or.inl ⟨hwet, hinv.2 hwet⟩ | exact Or.inr ⟨hwet, rfl⟩) hinv.1
        refine mx_iN4 d_St_passWeek_94 ?_
        refine mx_goto 7 d_St_passWeek_97 (by decide) ?_
        refine mx_dn5 ?_
        refine mx_dn6 ?_
        have e2 : nI ((w_hq D q H (w_dr b (w_qs D b H q (m, nI 0, 0)).1, (w_qs D b H q (m, nI 0, 0)).2)).2.2) = nI ((w_qs D b H (q + 1) (m, nI 0, 0)).2.2) := by rw [k0]
        refine mx_lsc (congrArg (fun z9 => ([some (.ref (s)), some (.int (bI (b))), some (.int (z9)), some (.int ((w_hq D q H (w_dr b (w_qs D b H q (m, nI 0, 0)).1, (w_qs D b H q (m, nI 0, 0)).2)).2.1)), some (.int (nI (q + 1))), none, none] : List (Option Value))) e2) ?_
        have e3 : (w_hq D q H (w_dr b (w_qs D b H q (m, nI 0, 0)).1, (w_qs D b H q (m, nI 0, 0)).2)).2.1 = (w_qs D b H (q + 1) (m, nI 0, 0)).2.1 := by rw [k0]
        refine mx_lsc (congrArg (fun z9 => ([some (.ref (s)), some (.int (bI (b))), some (.int (nI ((w_qs D b H (q + 1) (m, nI 0, 0)).2.2))), some (.int (z9)), some (.int (nI (q + 1))), none, none] : List (Option Value))) e3) ?_
        exact ih K (hout)
    · skip
      refine mx_al0 d_St_passWeek_18 ?_
      refine mx_cV0i d_St_passWeek_19 (c_St_draw (by assumption)) ok_St_draw ml_St_128 (by assumption) ⟨rfl, rfl⟩ (by decide) (Nat.le_of_ble_eq_true rfl) ?_
      refine mx_bip 100 d_St_passWeek_22 (by decide) ?_
      refine mx_irem d_St_passWeek_24 (by decide) ?_
      refine mx_ti (y := (w_pc (w_out (w_sd (K s 8))))) (rfl) ?_
      refine mx_al0 d_St_passWeek_25 ?_
      refine mx_getI d_St_passWeek_26 fl_St_29 (by assumption) ?_
      refine mx_ti (y := (K s 4)) ((by simp [mx_up])) ?_
      refine mx_icmp_ge 36 d_St_passWeek_29 (by decide) (fun c_29 => ?_) (fun c_29 => ?_)
      · skip
        have hwet : w_wet b (w_qs D b H q (m, nI 0, 0)).1 = false := w_wet_f c_15 hinv.2.1.1.2.2.2.2.2.2.1 hinv.2.1.1.2.2.1 (Int32.not_lt.mpr c_29)
        have hpq : pq_inv I (mx_up K s 8 (w_sd (K s 8))) s la (w_dr b (w_qs D b H q (m, nI 0, 0)).1) := ⟨fun c hc => (mx_up_ne (fun z => hc (by unfold wz; omega))).trans (hinv.1 c hc), by rw [w_dr_t c_15]; exact hinv.2.1.sd, (show mx_up K s 8 (w_sd (K s 8)) s 9 = K s 9 from by simp [mx_up]).trans hinv.2.2⟩
        refine mx_in_0 d_St_passWeek_36 ?_
        refine mx_is5 d_St_passWeek_37 ?_
        refine mx_in_0 d_St_passWeek_39 ?_
        refine mx_is6 d_St_passWeek_40 ?_
        have ih7 := ih
        have hinv7 := hinv
        refine mx_loopX (α := (mx_I)) (N := H) (a0 := (mx_up K (s) 8 (w_sd (K (s) 8)))) (fun h z9 => pq_inv I z9 s la (w_hq D q h (w_dr b (w_qs D b H q (m, nI 0, 0)).1, (w_qs D b H q (m, nI 0, 0)).2)).1 ∧ (w_wet b (w_qs D b H q (m, nI 0, 0)).1 = true → h = 0)) (ls := fun h z9 => [some (.ref (s)), some (.int (bI (b))), some (.int (nI ((w_hq D q h (w_dr b (w_qs D b H q (m, nI 0, 0)).1, (w_qs D b H q (m, nI 0, 0)).2)).2.2))), some (.int ((w_hq D q h (w_dr b (w_qs D b H q (m, nI 0, 0)).1, (w_qs D b H q (m, nI 0, 0)).2)).2.1)), some (.int (nI (q))), some (.int (nI (0))), some (.int (nI (h)))]) (X := fun h z9 => (t, S, z9, P, J)) (⟨hpq, fun _ => rfl⟩) (fun h hh z9 hinv ih => ?_) (fun z9 hinv => ?_)
        · skip
          obtain ⟨K, hz9⟩ : ∃ q, q = z9 := ⟨_, rfl⟩
          subst hz9
          try dsimp only at hinv ih ⊢
          have hLw := wz_la hd hinv.1.1 hLwI
          have hwv : wi (w_hq D q h (w_dr b (w_qs D b H q (m, nI 0, 0)).1, (w_qs D b H q (m, nI 0, 0)).2)).1 H G := wi_hq (y := (w_dr b (w_qs D b H q (m, nI 0, 0)).1, (w_qs D b H q (m, nI 0, 0)).2)) (wi_dr hwy) (by omega)
          refine mx_il6 d_St_passWeek_42 ?_
          refine mx_al0 d_St_passWeek_44 ?_
          refine mx_getR d_St_passWeek_45 fl_St_12 (by assumption) (by assumption) ?_
          refine mx_getI d_St_passWeek_48 fl_St_90 (by assumption) ?_
          refine mx_ti (y := nI (H)) (hinv.1.2.1.1.1.1.trans hwv.1) ?_
          refine mx_icN_ge 94 d_St_passWeek_51 (by decide) (by omega) (by omega) (fun c_51 => absurd c_51 (by omega)) (fun c_51 => ?_)
          refine mx_il5 d_St_passWeek_54 ?_
          refine mx_if_ne 94 d_St_passWeek_56 (by decide) (fun c_56 => absurd (by decide) c_56) (fun c_56 => ?_)
          refine mx_al0 d_St_passWeek_59 ?_
          refine mx_il6 d_St_passWeek_60 ?_
          refine mx_il4 d_St_passWeek_62 ?_
          refine mx_cV2iR d_St_passWeek_64 (c_St_meetsAt hSt hinv.1.2.1.1 hla hLw hd hwv.2.1 hwv.2.2 hG8 (h := h) (q := q) (by omega) (by omega)) ok_St_meetsAt ml_St_124 (by assumption) ⟨rfl, rfl⟩ (by decide) (Nat.le_of_ble_eq_true rfl) (fun K2 hK2 => ?_)
          refine mx_ifB_eq 88 d_St_passWeek_67 (by decide) (fun c_67 => ?_) (fun c_67 => ?_)
          · skip
            refine mx_iN6 d_St_passWeek_88 ?_
            refine mx_goto 42 d_St_passWeek_91 (by decide) ?_
            have e2 : nI ((w_hq D q h (w_dr b (w_qs D b H q (m, nI 0, 0)).1, (w_qs D b H q (m, nI 0, 0)).2)).2.2) = nI ((w_hq D q (h + 1) (w_dr b (w_qs D b H q (m, nI 0, 0)).1, (w_qs D b H q (m, nI 0, 0)).2)).2.2) := by rw [w_hq_s]; first | (rw [if_pos c_67]; done) | (rw [if_neg (by rw [c_67]; decide)]; done)
            refine mx_lsc (congrArg (fun z9 => ([some (.ref (s)), some (.int (bI (b))), some (.int (z9)), some (.int ((w_hq D q h (w_dr b (w_qs D b H q (m, nI 0, 0)).1, (w_qs D b H q (m, nI 0, 0)).2)).2.1)), some (.int (nI (q))), some (.int (nI (0))), some (.int (nI (h + 1)))] : List (Option Value))) e2) ?_
            have e3 : (w_hq D q h (w_dr b (w_qs D b H q (m, nI 0, 0)).1, (w_qs D b H q (m, nI 0, 0)).2)).2.1 = (w_hq D q (h + 1) (w_dr b (w_qs D b H q (m, nI 0, 0)).1, (w_qs D b H q (m, nI 0, 0)).2)).2.1 := by rw [w_hq_s]; first | (rw [if_pos c_67]; done) | (rw [if_neg (by rw [c_67]; decide)]; done)
            refine mx_lsc (congrArg (fun z9 => ([some (.ref (s)), some (.int (bI (b))), some (.int (nI ((w_hq D q (h + 1) (w_dr b (w_qs D b H q (m, nI 0, 0)).1, (w_qs D b H q (m, nI 0, 0)).2)).2.2))), some (.int (z9)), some (.int (nI (q))), some (.int (nI (0))), some (.int (nI (h + 1)))] : List (Option Value))) e3) ?_
            exact ih K2 (⟨by rw [w_hq_s, if_neg (by rw [c_67]; decide)]; exact pq_zs hd hinv.1 hK2, fun z => absurd z (by rw [hwet]; decide)⟩)
          · skip
            have hq2 := pq_zs hd hinv.1 hK2
            have hLw2 := wz_la hd hq2.1 hLwI
            refine mx_al0 d_St_passWeek_70 ?_
            refine mx_il6 d_St_passWeek_71 ?_
            refine mx_il4 d_St_passWeek_73 ?_
            refine mx_cV2vR d_St_passWeek_75 (c_St_meet hSt hq2.2.1.1 hla hLw2 hd hq2.2.1.2 hwv hH8 hG8 (h := h) (q := q) (by omega) (by omega) c_67) ok_St_meet ml_St_132 (by assumption) ⟨rfl, rfl⟩ (by decide) (Nat.le_of_ble_eq_true rfl) (fun K3 hK3 => ?_)
            refine mx_iN2 d_St_passWeek_78 ?_
            refine mx_il3 d_St_passWeek_81 ?_
            refine mx_in_1 d_St_passWeek_82 ?_
            refine mx_il6 d_St_passWeek_83 ?_
            refine mx_ishl d_St_passWeek_85 ?_
            refine mx_ior d_St_passWeek_86 ?_
            refine mx_is3 d_St_passWeek_87 ?_
            refine mx_iN6 d_St_passWeek_88 ?_
            refine mx_goto 42 d_St_passWeek_91 (by decide) ?_
            have e2 : nI ((w_hq D q h (w_dr b (w_qs D b H q (m, nI 0, 0)).1, (w_qs D b H q (m, nI 0, 0)).2)).2.2 + 1) = nI ((w_hq D q (h + 1) (w_dr b (w_qs D b H q (m, nI 0, 0)).1, (w_qs D b H q (m, nI 0, 0)).2)).2.2) := by rw [w_hq_s]; first | (rw [if_pos c_67]; done) | (rw [if_neg (by rw [c_67]; decide)]; done)
            refine mx_lsc (congrArg (fun z9 => ([some (.ref (s)), some (.int (bI (b))), some (.int (z9)), some (.int (((w_hq D q h (w_dr b (w_qs D b H q (m, nI 0, 0)).1, (w_qs D b H q (m, nI 0, 0)).2)).2.1 ||| (nI (1) <<< (nI (h) &&& 31))))), some (.int (nI (q))), some (.int (nI (0))), some (.int (nI (h + 1)))] : List (Option Value))) e2) ?_
            have e3 : ((w_hq D q h (w_dr b (w_qs D b H q (m, nI 0, 0)).1, (w_qs D b H q (m, nI 0, 0)).2)).2.1 ||| (nI (1) <<< (nI (h) &&& 31))) = (w_hq D q (h + 1) (w_dr b (w_qs D b H q (m, nI 0, 0)).1, (w_qs D b H q (m, nI 0, 0)).2)).2.1 := by rw [w_hq_s]; first | (rw [if_pos c_67]; done) | (rw [if_neg (by rw [c_67]; decide)]; done)
            refine mx_lsc (congrArg (fun z9 => ([some (.ref (s)), some (.int (bI (b))), some (.int (nI ((w_hq D q (h + 1) (w_dr b (w_qs D b H q (m, nI 0, 0)).1, (w_qs D b H q (m, nI 0, 0)).2)).2.2))), some (.int (z9)), some (.int (nI (q))), some (.int (nI (0))), some (.int (nI (h + 1)))] : List (Option Value))) e3) ?_
            exact ih K3 (⟨by rw [w_hq_s, if_pos c_67]; exact pq_mt hq2 hK3, fun z => absurd z (by rw [hwet]; decide)⟩)
        · skip
          obtain ⟨K, hz9⟩ : ∃ q, q = z9 := ⟨_, rfl⟩
          subst hz9
          try dsimp only at hinv ⊢
          have hLw := wz_la hd hinv.1.1 hLwI
          have hwv : wi (w_hq D q H (w_dr b (w_qs D b H q (m, nI 0, 0)).1, (w_qs D b H q (m, nI 0, 0)).2)).1 H G := wi_hq (y := (w_dr b (w_qs D b H q (m, nI 0, 0)).1, (w_qs D b H q (m, nI 0, 0)).2)) (wi_dr hwy) hH8
          refine mx_il6 d_St_passWeek_42 ?_
          refine mx_al0 d_St_passWeek_44 ?_
          refine mx_getR d_St_passWeek_45 fl_St_12 (by assumption) (by assumption) ?_
          refine mx_getI d_St_passWeek_48 fl_St_90 (by assumption) ?_
          refine mx_ti (y := nI (H)) (hinv.1.2.1.1.1.1.trans hwv.1) ?_
          refine mx_icN_ge 94 d_St_passWeek_51 (by decide) (by omega) (by omega) (fun c_51 => ?_) (fun c_51 => absurd c_51 (by omega))
          obtain ⟨k0, hout⟩ : w_qs D b H (q + 1) (m, nI 0, 0) = (w_hq D q H (w_dr b (w_qs D b H q (m, nI 0, 0)).1, (w_qs D b H q (m, nI 0, 0)).2)) ∧ pq_inv I K s la (w_qs D b H (q + 1) (m, nI 0, 0)).1 := by refine pq_out (by first | exact Or.inl ⟨hwet, hinv.2 hwet⟩ | exact Or.inr ⟨hwet, rfl⟩) hinv.1
          refine mx_iN4 d_St_passWeek_94 ?_
          refine mx_goto 7 d_St_passWeek_97 (by decide) ?_
          refine mx_dn5 ?_
          refine mx_dn6 ?_
          have e2 : nI ((w_hq D q H (w_dr b (w_qs D b H q (m, nI 0, 0)).1, (w_qs D b H q (m, nI 0, 0)).2)).2.2) = nI ((w_qs D b H (q + 1) (m, nI 0, 0)).2.2) := by rw [k0]
          refine mx_lsc (congrArg (fun z9 => ([some (.ref (s)), some (.int (bI (b))), some (.int (z9)), some (.int ((w_hq D q H (w_dr b (w_qs D b H q (m, nI 0, 0)).1, (w_qs D b H q (m, nI 0, 0)).2)).2.1)), some (.int (nI (q + 1))), none, none] : List (Option Value))) e2) ?_
          have e3 : (w_hq D q H (w_dr b (w_qs D b H q (m, nI 0, 0)).1, (w_qs D b H q (m, nI 0, 0)).2)).2.1 = (w_qs D b H (q + 1) (m, nI 0, 0)).2.1 := by rw [k0]
          refine mx_lsc (congrArg (fun z9 => ([some (.ref (s)), some (.int (bI (b))), some (.int (nI ((w_qs D b H (q + 1) (m, nI 0, 0)).2.2))), some (.int (z9)), some (.int (nI (q + 1))), none, none] : List (Option Value))) e3) ?_
          exact ih K (hout)
      · skip
        have hwet : w_wet b (w_qs D b H q (m, nI 0, 0)).1 = true := w_wet_t c_15 hinv.2.1.1.2.2.2.2.2.2.1 hinv.2.1.1.2.2.1 (Int32.not_le.mp c_29)
        have hpq : pq_inv I (mx_up K s 8 (w_sd (K s 8))) s la (w_dr b (w_qs D b H q (m, nI 0, 0)).1) := ⟨fun c hc => (mx_up_ne (fun z => hc (by unfold wz; omega))).trans (hinv.1 c hc), by rw [w_dr_t c_15]; exact hinv.2.1.sd, (show mx_up K s 8 (w_sd (K s 8)) s 9 = K s 9 from by simp [mx_up]).trans hinv.2.2⟩
        refine mx_in_1 d_St_passWeek_32 ?_
        refine mx_goto 37 d_St_passWeek_33 (by decide) ?_
        refine mx_is5 d_St_passWeek_37 ?_
        refine mx_in_0 d_St_passWeek_39 ?_
        refine mx_is6 d_St_passWeek_40 ?_
        have ih7 := ih
        have hinv7 := hinv
        refine mx_loopX (α := (mx_I)) (N := H) (a0 := (mx_up K (s) 8 (w_sd (K (s) 8)))) (fun h z9 => pq_inv I z9 s la (w_hq D q h (w_dr b (w_qs D b H q (m, nI 0, 0)).1, (w_qs D b H q (m, nI 0, 0)).2)).1 ∧ (w_wet b (w_qs D b H q (m, nI 0, 0)).1 = true → h = 0)) (ls := fun h z9 => [some (.ref (s)), some (.int (bI (b))), some (.int (nI ((w_hq D q h (w_dr b (w_qs D b H q (m, nI 0, 0)).1, (w_qs D b H q (m, nI 0, 0)).2)).2.2))), some (.int ((w_hq D q h (w_dr b (w_qs D b H q (m, nI 0, 0)).1, (w_qs D b H q (m, nI 0, 0)).2)).2.1)), some (.int (nI (q))), some (.int (nI (1))), some (.int (nI (h)))]) (X := fun h z9 => (t, S, z9, P, J)) (⟨hpq, fun _ => rfl⟩) (fun h hh z9 hinv ih => ?_) (fun z9 hinv => ?_)
        · skip
          obtain ⟨K, hz9⟩ : ∃ q, q = z9 := ⟨_, rfl⟩
          subst hz9
          try dsimp only at hinv ih ⊢
          have hLw := wz_la hd hinv.1.1 hLwI
          have hwv : wi (w_hq D q h (w_dr b (w_qs D b H q (m, nI 0, 0)).1, (w_qs D b H q (m, nI 0, 0)).2)).1 H G := wi_hq (y := (w_dr b (w_qs D b H q (m, nI 0, 0)).1, (w_qs D b H q (m, nI 0, 0)).2)) (wi_dr hwy) (by omega)
          refine mx_il6 d_St_passWeek_42 ?_
          refine mx_al0 d_St_passWeek_44 ?_
          refine mx_getR d_St_passWeek_45 fl_St_12 (by assumption) (by assumption) ?_
          refine mx_getI d_St_passWeek_48 fl_St_90 (by assumption) ?_
          refine mx_ti (y := nI (H)) (hinv.1.2.1.1.1.1.trans hwv.1) ?_
          refine mx_icN_ge 94 d_St_passWeek_51 (by decide) (by omega) (by omega) (fun c_51 => absurd c_51 (by omega)) (fun c_51 => ?_)
          refine mx_il5 d_St_passWeek_54 ?_
          refine mx_if_ne 94 d_St_passWeek_56 (by decide) (fun c_56 => ?_) (fun c_56 => absurd c_56 (by decide))
          obtain ⟨k0, hout⟩ : w_qs D b H (q + 1) (m, nI 0, 0) = (w_hq D q h (w_dr b (w_qs D b H q (m, nI 0, 0)).1, (w_qs D b H q (m, nI 0, 0)).2)) ∧ pq_inv I K s la (w_qs D b H (q + 1) (m, nI 0, 0)).1 := by refine pq_out (by first | exact Or.inl ⟨hwet, hinv.2 hwet⟩ | exact Or.inr ⟨hwet, rfl⟩) hinv.1
          refine mx_iN4 d_St_passWeek_94 ?_
          refine mx_goto 7 d_St_passWeek_97 (by decide) ?_
          refine mx_dn5 ?_
          refine mx_dn6 ?_
          have e2 : nI ((w_hq D q h (w_dr b (w_qs D b H q (m, nI 0, 0)).1, (w_qs D b H q (m, nI 0, 0)).2)).2.2) = nI ((w_qs D b H (q + 1) (m, nI 0, 0)).2.2) := by rw [k0]
          refine mx_lsc (congrArg (fun z9 => ([some (.ref (s)), some (.int (bI (b))), some (.int (z9)), some (.int ((w_hq D q h (w_dr b (w_qs D b H q (m, nI 0, 0)).1, (w_qs D b H q (m, nI 0, 0)).2)).2.1)), some (.int (nI (q + 1))), none, none] : List (Option Value))) e2) ?_
          have e3 : (w_hq D q h (w_dr b (w_qs D b H q (m, nI 0, 0)).1, (w_qs D b H q (m, nI 0, 0)).2)).2.1 = (w_qs D b H (q + 1) (m, nI 0, 0)).2.1 := by rw [k0]
          refine mx_lsc (congrArg (fun z9 => ([some (.ref (s)), some (.int (bI (b))), some (.int (nI ((w_qs D b H (q + 1) (m, nI 0, 0)).2.2))), some (.int (z9)), some (.int (nI (q + 1))), none, none] : List (Option Value))) e3) ?_
          exact ih7 K (hout)
        · skip
          obtain ⟨K, hz9⟩ : ∃ q, q = z9 := ⟨_, rfl⟩
          subst hz9
          try dsimp only at hinv ⊢
          have hLw := wz_la hd hinv.1.1 hLwI
          have hwv : wi (w_hq D q H (w_dr b (w_qs D b H q (m, nI 0, 0)).1, (w_qs D b H q (m, nI 0, 0)).2)).1 H G := wi_hq (y := (w_dr b (w_qs D b H q (m, nI 0, 0)).1, (w_qs D b H q (m, nI 0, 0)).2)) (wi_dr hwy) hH8
          refine mx_il6 d_St_passWeek_42 ?_
          refine mx_al0 d_St_passWeek_44 ?_
          refine mx_getR d_St_passWeek_45 fl_St_12 (by assumption) (by assumption) ?_
          refine mx_getI d_St_passWeek_48 fl_St_90 (by assumption) ?_
          refine mx_ti (y := nI (H)) (hinv.1.2.1.1.1.1.trans hwv.1) ?_
          refine mx_icN_ge 94 d_St_passWeek_51 (by decide) (by omega) (by omega) (fun c_51 => ?_) (fun c_51 => absurd c_51 (by omega))
          obtain ⟨k0, hout⟩ : w_qs D b H (q + 1) (m, nI 0, 0) = (w_hq D q H (w_dr b (w_qs D b H q (m, nI 0, 0)).1, (w_qs D b H q (m, nI 0, 0)).2)) ∧ pq_inv I K s la (w_qs D b H (q + 1) (m, nI 0, 0)).1 := by refine pq_out (by first | exact Or.inl ⟨hwet, hinv.2 hwet⟩ | exact Or.inr ⟨hwet, rfl⟩) hinv.1
          refine mx_iN4 d_St_passWeek_94 ?_
          refine mx_goto 7 d_St_passWeek_97 (by decide) ?_
          refine mx_dn5 ?_
          refine mx_dn6 ?_
          have e2 : nI ((w_hq D q H (w_dr b (w_qs D b H q (m, nI 0, 0)).1, (w_qs D b H q (m, nI 0, 0)).2)).2.2) = nI ((w_qs D b H (q + 1) (m, nI 0, 0)).2.2) := by rw [k0]
          refine mx_lsc (congrArg (fun z9 => ([some (.ref (s)), some (.int (bI (b))), some (.int (z9)), some (.int ((w_hq D q H (w_dr b (w_qs D b H q (m, nI 0, 0)).1, (w_qs D b H q (m, nI 0, 0)).2)).2.1)), some (.int (nI (q + 1))), none, none] : List (Option Value))) e2) ?_
          have e3 : (w_hq D q H (w_dr b (w_qs D b H q (m, nI 0, 0)).1, (w_qs D b H q (m, nI 0, 0)).2)).2.1 = (w_qs D b H (q + 1) (m, nI 0, 0)).2.1 := by rw [k0]
          refine mx_lsc (congrArg (fun z9 => ([some (.ref (s)), some (.int (bI (b))), some (.int (nI ((w_qs D b H (q + 1) (m, nI 0, 0)).2.2))), some (.int (z9)), some (.int (nI (q + 1))), none, none] : List (Option Value))) e3) ?_
          exact ih K (hout)
  · skip
    obtain ⟨K, hz9⟩ : ∃ q, q = z9 := ⟨_, rfl⟩
    subst hz9
    try dsimp only at hinv ⊢
    have hwyH : wi (w_qs D b H 8 (m, nI 0, 0)).1 H G := wi_qs (y := (m, nI 0, 0)) hw hH8
    refine mx_il4 d_St_passWeek_7 ?_
    refine mx_bip 8 d_St_passWeek_9 (by decide) ?_
    refine mx_icN_ge 100 d_St_passWeek_11 (by decide) (by omega) (by omega) (fun c_11 => ?_) (fun c_11 => absurd c_11 (by omega))
    refine mx_al0 d_St_passWeek_100 ?_
    refine mx_il3 d_St_passWeek_101 ?_
    refine mx_cV1vR d_St_passWeek_102 (c_St_endWeek hSt hinv.2.1.1 hinv.2.1.2 hwyH hH8 hG8) ok_St_endWeek ml_St_136 (by assumption) ⟨rfl, rfl⟩ (by decide) (Nat.le_of_ble_eq_true rfl) (fun K4 hK4 => ?_)
    refine mx_il2 d_St_passWeek_105 ?_
    exact mx_iret d_St_passWeek_106 rfl (mx_sR_i rfl ⟨hinv.1.tr (fun c hc => hK4.1 c (fun z => hc (Or.inl z))), by unfold w_wk; rw [← hinv.2.2]; exact hK4.2.1, by unfold w_wk; rw [← hinv.2.2]; exact hK4.2.2⟩)
end AG41
