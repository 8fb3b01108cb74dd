/-! HEAP RULES -/
def mx_up (I : mx_I) (a k : Nat) (v : Int32) : mx_I := fun b j => if b = a ∧ j = k then v else I b j
def mx_upP (P : mx_P) (a k : Nat) (v : Option Nat) : mx_P := fun b j => if b = a ∧ j = k then v else P b j
def mx_upJ (J : mx_G) (a k : Nat) (v : Int64) : mx_G := fun b j => if b = a ∧ j = k then v else J b j
def mx_z (I : mx_I) (a : Nat) : mx_I := fun b j => if b = a then 0 else I b j
def mx_zP (P : mx_P) (a : Nat) : mx_P := fun b j => if b = a then none else P b j
def mx_zJ (J : mx_G) (a : Nat) : mx_G := fun b j => if b = a then 0 else J b j
def mx_ups (S : mx_S) (a : Nat) (sh : mx_Sh) : mx_S := fun b => if b = a then some sh else S b
theorem mx_up_ne {I : mx_I} {a k : Nat} {v : Int32} {q : Nat} (h : q ≠ a) : mx_up I a k v q = I q := by funext j; simp [mx_up, h]
theorem mx_upP_ne {I : mx_P} {a k : Nat} {v : Option Nat} {q : Nat} (h : q ≠ a) : mx_upP I a k v q = I q := by funext j; simp [mx_upP, h]
theorem mx_upJ_ne {I : mx_G} {a k : Nat} {v : Int64} {q : Nat} (h : q ≠ a) : mx_upJ I a k v q = I q := by funext j; simp [mx_upJ, h]
theorem mx_z_ne {I : mx_I} {a q : Nat} (h : q ≠ a) : mx_z I a q = I q := by funext j; simp [mx_z, h]
theorem mx_zP_ne {I : mx_P} {a q : Nat} (h : q ≠ a) : mx_zP I a q = I q := by funext j; simp [mx_zP, h]
theorem mx_zJ_ne {I : mx_G} {a q : Nat} (h : q ≠ a) : mx_zJ I a q = I q := by funext j; simp [mx_zJ, h]
theorem mx_at_congr {E : mx_Env} {t t' : Nat} {S S' : mx_S} {I I' : mx_I} {P P' : mx_P} {J J' : mx_G} {a : Nat} {sh : mx_Sh} {H H' : Heap} (hH : H'[a]? = H[a]?) (h1 : I' a = I a) (h2 : P' a = P a) (h3 : J' a = J a) (h : mx_at E (t, S, I, P, J) a sh H) : mx_at E (t', S', I', P', J') a sh H' := by
  obtain ⟨kd, nn⟩ := sh
  match kd, h with
  | 0, h =>
    obtain ⟨q, hq, g⟩ := h
    refine ⟨q, hq, (g.kept hH).to (fun k _ => ?_)⟩
    simp only [mx_fv, h1, h2]
  | 1, h => show H'[a]? = some (vp_cell _ (_, .inl (I' a))); rw [hH, h1]; exact h
  | 2, h => show H'[a]? = some (vp_cell _ (_, .inl (I' a))); rw [hH, h1]; exact h
  | 3, h => show H'[a]? = some (vp_cell _ (_, .inr (.inl (J' a)))); rw [hH, h3]; exact h
  | _ + 4, h => show H'[a]? = some (vp_cell _ (_, .inr (.inr (.inr (.inr (P' a)))))); rw [hH, h2]; exact h
theorem mx_at_lt {E : mx_Env} {X : mx_H} {a : Nat} {sh : mx_Sh} {H : Heap} (h : mx_at E X a sh H) : a < H.size := by
  obtain ⟨kd, nn⟩ := sh
  match kd, h with
  | 0, h =>
    obtain ⟨q, hq, cell, g, -⟩ := h
    exact (Array.getElem?_eq_some_iff.mp g).1
  | 1, h => exact (Array.getElem?_eq_some_iff.mp h).1
  | 2, h => exact (Array.getElem?_eq_some_iff.mp h).1
  | 3, h => exact (Array.getElem?_eq_some_iff.mp h).1
  | _ + 4, h => exact (Array.getElem?_eq_some_iff.mp h).1
theorem mx_Ob_upd {E : mx_Env} {t : Nat} {S : mx_S} {I I' : mx_I} {P P' : mx_P} {J J' : mx_G} {a : Nat} {sh : mx_Sh} {H H' : Heap} (h : mx_Ob E (t, S, I, P, J) H) (hs : S a = some sh) (z : H'.size = H.size) (oq : ∀ q : Nat, q ≠ a → H'[q]? = H[q]?)
    (ha : mx_at E (t, S, I', P', J') a sh H') (h1 : ∀ q, q ≠ a → I' q = I q) (h2 : ∀ q, q ≠ a → P' q = P q) (h3 : ∀ q, q ≠ a → J' q = J q) : mx_Ob E (t, S, I', P', J') H' := by
  obtain ⟨e1, e2, e3⟩ := h
  refine ⟨z.trans e1, e2, fun q sq hq => ?_⟩
  by_cases hqa : q = a
  · subst hqa
    have := hs.symm.trans hq
    cases this
    exact ⟨(e3 q _ hs).1, ha⟩
  · exact ⟨(e3 q sq hq).1, mx_at_congr (oq q hqa) (h1 q hqa) (h2 q hqa) (h3 q hqa) (e3 q sq hq).2⟩
theorem mx_Ob_new {E : mx_Env} {t : Nat} {S : mx_S} {I I' : mx_I} {P P' : mx_P} {J J' : mx_G} {sh : mx_Sh} {H H' : Heap} (h : mx_Ob E (t, S, I, P, J) H) (z : H'.size = t + 1) (oq : ∀ q : Nat, q < t → H'[q]? = H[q]?)
    (ha : mx_at E (t + 1, mx_ups S t sh, I', P', J') t sh H') (h1 : ∀ q, q ≠ t → I' q = I q) (h2 : ∀ q, q ≠ t → P' q = P q) (h3 : ∀ q, q ≠ t → J' q = J q) : mx_Ob E (t + 1, mx_ups S t sh, I', P', J') H' := by
  obtain ⟨e1, e2, e3⟩ := h
  have e1 : H.size = t := e1
  have e2 : mx_N E ≤ t := e2
  refine ⟨z, Nat.le_succ_of_le e2, fun q sq hq => ?_⟩
  have hq : (if q = t then some sh else S q) = some sq := hq
  by_cases hqa : q = t
  · subst hqa
    rw [if_pos rfl] at hq
    cases hq
    exact ⟨e2, ha⟩
  · rw [if_neg hqa] at hq
    obtain ⟨g1, g2⟩ := e3 q sq hq
    have hlt : q < t := by have := mx_at_lt g2; omega
    exact ⟨g1, mx_at_congr (oq q hlt) (h1 q hqa) (h2 q hqa) (h3 q hqa) g2⟩
theorem mx_Pic_upd {E : mx_Env} {U : State} {t : Nat} {S : mx_S} {I I' : mx_I} {P P' : mx_P} {J J' : mx_G} {a : Nat} {sh : mx_Sh} {H H' : Heap} (h : mx_Pic E (t, S, I, P, J) U H) (hs : S a = some sh) (z : H'.size = H.size) (oq : ∀ q : Nat, q ≠ a → H'[q]? = H[q]?)
    (ha : mx_at E (t, S, I', P', J') a sh H') (h1 : ∀ q, q ≠ a → I' q = I q) (h2 : ∀ q, q ≠ a → P' q = P q) (h3 : ∀ q, q ≠ a → J' q = J q) : mx_Pic E (t, S, I', P', J') U H' :=
  ⟨h.1.kept (fun q hq => oq q (fun e => by have := (h.2.2.2 a sh hs).1; omega)), mx_Ob_upd h.2 hs z oq ha h1 h2 h3⟩
theorem mx_Pic_new {E : mx_Env} {U : State} {t : Nat} {S : mx_S} {I I' : mx_I} {P P' : mx_P} {J J' : mx_G} {sh : mx_Sh} {H H' : Heap} (h : mx_Pic E (t, S, I, P, J) U H) (z : H'.size = t + 1) (oq : ∀ q : Nat, q < t → H'[q]? = H[q]?)
    (ha : mx_at E (t + 1, mx_ups S t sh, I', P', J') t sh H') (h1 : ∀ q, q ≠ t → I' q = I q) (h2 : ∀ q, q ≠ t → P' q = P q) (h3 : ∀ q, q ≠ t → J' q = J q) : mx_Pic E (t + 1, mx_ups S t sh, I', P', J') U H' :=
  ⟨h.1.kept (fun q hq => oq q (Nat.lt_of_lt_of_le hq h.2.2.1)), mx_Ob_new h.2 z oq ha h1 h2 h3⟩
def mx_row (q : vw_C) (I : mx_I) (P : mx_P) (a : Nat) : List Value := (List.range q.2.2).map (fun k => mx_fv q.2.1 I P a k)
theorem mx_row_at {q : vw_C} {I : mx_I} {P : mx_P} {a k : Nat} (hk : k < q.2.2) : (mx_row q I P a)[k]? = some (mx_fv q.2.1 I P a k) := by simp [mx_row, hk]
theorem mx_row_V {q : vw_C} {I : mx_I} {P : mx_P} {a k : Nat} (hk : k < q.2.2) : vp_V (mx_row q I P a) k = mx_fv q.2.1 I P a k := by
  unfold vp_V
  rw [List.getD_eq_getElem?_getD, mx_row_at hk]
  rfl
theorem mx_clDef (c : Nat) (q : vw_C) (h : mx_cl[c]? = some q) : ∀ k, k < q.2.2 → defaultValue (mx_ty q.2.1 k) = if mx_isI q.2.1 k then .int 0 else .null := by
  match c, h with
  | 0, h => cases h; decide +kernel
  | 1, h => cases h; decide +kernel
  | 2, h => cases h; decide +kernel
  | 3, h => cases h; decide +kernel
  | 4, h => cases h; decide +kernel
  | 5, h => cases h; decide +kernel
  | 6, h => cases h; decide +kernel
  | 7, h => cases h; decide +kernel
  | 8, h => cases h; decide +kernel
  | 9, h => cases h; decide +kernel
  | 10, h => cases h; decide +kernel
  | 11, h => cases h; decide +kernel
  | 12, h => cases h; decide +kernel
  | k + 13, h => simp [mx_cl] at h
section MXH
variable {l : Launch} {E : mx_Env} {M : mx_M} {d k n pc nx : Nat} {ls : List (Option Value)} {st : List Value} {t : Nat} {S : mx_S} {I : mx_I} {P : mx_P} {J : mx_G} {Q : mx_R → mx_H → Prop} {idx c f a : Nat}
theorem mx_get0 {b fin : Bool} {ty : FieldType} {v : Value} (hd : mx_d M pc (.getfield idx) 3 nx) (hf : mx_fl (mx_own M) idx c f b fin ty) (hs : S a = some (0, c)) (hv : (if b then .int (I a f) else va_rf (P a f)) = v) (kk : mx_E l E M d k n nx ls (v :: st) (t, S, I, P, J) Q) : mx_E l E M d k n pc ls (.ref a :: st) (t, S, I, P, J) Q := by
  obtain ⟨hd, rfl⟩ := hd
  obtain ⟨q, hq, hk, hw, hi, -, -⟩ := hf
  intro p e R s m args below meth c9 H locs cells slots mc ms A F h1 h2 h3 h4 hP hS hl
  obtain ⟨g1, q', hq', g2⟩ := hP.2.2.2 a _ hs
  have hq' : mx_cl[c]? = some q' := hq'
  cases hq.symm.trans hq'
  have hP1 : va_P (mx_D E) mx_cl [(a, .inr (c, mx_row q I P a))] H := by
    intro i x hx
    cases i with
    | zero =>
      cases hx
      exact ⟨q, hq, g2.to (fun k hk => (mx_row_V hk).symm)⟩
    | succ i => simp at hx
  have hvv : (mx_row q I P a)[f]? = some v := by
    rw [mx_row_at hk, ← hv, mx_fv, hi]
  exact va_get F.1 F.2.1 F.2.2.2.2.1 (mx_clOk c _ hq).1 F.2.2.2.1 hP.1.1 hP1 0 rfl hq f hk (F.2.2.2.2.1 _ hw) (fun _ h => h) hvv hd (kk p e R s m args below meth c9 H locs cells slots mc ms A F h1 h2 h3 h4 hP hS hl)
theorem mx_getI {fin : Bool} {ty : FieldType} (hd : mx_d M pc (.getfield idx) 3 nx) (hf : mx_fl (mx_own M) idx c f true fin ty) (hs : S a = some (0, c)) (kk : mx_E l E M d k n nx ls (.int (I a f) :: st) (t, S, I, P, J) Q) : mx_E l E M d k n pc ls (.ref a :: st) (t, S, I, P, J) Q := mx_get0 hd hf hs rfl kk
theorem mx_getR {fin : Bool} {ty : FieldType} {r : Nat} (hd : mx_d M pc (.getfield idx) 3 nx) (hf : mx_fl (mx_own M) idx c f false fin ty) (hs : S a = some (0, c)) (hp : P a f = some r) (kk : mx_E l E M d k n nx ls (.ref r :: st) (t, S, I, P, J) Q) : mx_E l E M d k n pc ls (.ref a :: st) (t, S, I, P, J) Q := mx_get0 hd hf hs (by rw [hp]; rfl) kk
theorem mx_put0 {b : Bool} {ty : FieldType} {v : Value} {I' : mx_I} {P' : mx_P} (hd : mx_d M pc (.putfield idx) 3 nx) (hf : mx_fl (mx_own M) idx c f b false ty) (hs : S a = some (0, c)) (hn : narrow ty v = v) (hfit : fits ty v = true)
    (hI : ∀ q, q ≠ a → I' q = I q) (hPq : ∀ q, q ≠ a → P' q = P q) (hv : ∀ T j, mx_fv T I' P' a j = if j = f ∧ mx_isI T f = b then v else if j = f then mx_fv T I' P' a j else mx_fv T I P a j) (kk : mx_E l E M d k n nx ls st (t, S, I', P', J) Q) : mx_E l E M d k n pc ls (v :: .ref a :: st) (t, S, I, P, J) Q := by
  obtain ⟨hd, rfl⟩ := hd
  obtain ⟨⟨C, T, N⟩, hq, hk, hw, hi, hfin, hty⟩ := hf
  dsimp only at hk hw hi hfin hty
  intro p e R s m args below meth c9 H locs cells slots mc ms A F h1 h2 h3 h4 hP hS hl
  obtain ⟨g1, q', hq', cell, q1, q2, q3, q4⟩ := hP.2.2.2 a _ hs
  have hq' : mx_cl[c]? = some q' := hq'
  cases hq.symm.trans hq'
  have hok := mx_clOk c _ hq
  have hap := va_apart (own := C) F.2.2.2.2.1 hok.1 (mx_ty T) hok.2.1 hok.2.2.1 hP.1.1 hq
  obtain ⟨hSl, hfc, kC, hkC, hkind⟩ := hP.1.1.1 c _ hq
  obtain ⟨cf, kf, fi, fd, hfi, hsl⟩ := hSl f hk
  dsimp only at hfc hkC hkind hfi
  have hlay := F.2.2.2.2.1 _ (hok.1 _ (u_in_lay hk))
  unfold u_lay at hlay
  rw [if_neg (by rw [hfin]; decide)] at hlay
  have hst := (u_facts hfc hkC (u_lays F.2.2.2.2.1 hok.1 hk) hfi).1
  have h6 := u_store hfc hkC hkind hlay hfi hty hn hfit
  refine W.putK F.1 F.2.1 (f := fd) ⟨F.2.2.2.1, F.2.2.2.2.1 _ hw, ⟨_, _, _, hfi⟩, hst⟩ (by rw [q2]; exact h6) q1 q3 (by rw [hsl]; exact k2_hasslot (q4 f hk)) rfl rfl hd fun H' e1 e2 e3 => ?_
  rw [hsl] at e1 ⊢
  have hat : mx_at E (t, S, I', P', J) a (0, c) H' := ⟨_, hq, _, e1, q2, q3, fun j hj => by
    rw [t_set q4 hap hk v j hj]
    dsimp only
    rw [hv T j]
    by_cases hjf : j = f
    · subst hjf
      simp [updV, hi]
    · simp [updV, hjf]⟩
  exact kk p e R s m args below meth c9 H' _ cells slots mc ms A F h1 h2 h3 h4 (mx_Pic_upd hP hs e2 e3 hat hI hPq (fun _ _ => rfl)) (hS.put e2 e3 g1) hl
theorem mx_fv_up {T : u_T} {I : mx_I} {P : mx_P} {a f j : Nat} {x : Int32} : mx_fv T (mx_up I a f x) P a j = if j = f ∧ mx_isI T f = true then .int x else if j = f then mx_fv T (mx_up I a f x) P a j else mx_fv T I P a j := by
  by_cases h : j = f
  · subst h
    cases hb : mx_isI T j <;> simp [mx_fv, hb, mx_up]
  · simp [mx_fv, h, mx_up]
theorem mx_fv_upP {T : u_T} {I : mx_I} {P : mx_P} {a f j : Nat} {x : Option Nat} : mx_fv T I (mx_upP P a f x) a j = if j = f ∧ mx_isI T f = false then va_rf x else if j = f then mx_fv T I (mx_upP P a f x) a j else mx_fv T I P a j := by
  by_cases h : j = f
  · subst h
    cases hb : mx_isI T j <;> simp [mx_fv, hb, mx_upP]
  · simp [mx_fv, h, mx_upP]
theorem mx_putI {x : Int32} (hd : mx_d M pc (.putfield idx) 3 nx) (hf : mx_fl (mx_own M) idx c f true false .int) (hs : S a = some (0, c)) (kk : mx_E l E M d k n nx ls st (t, S, mx_up I a f x, P, J) Q) : mx_E l E M d k n pc ls (.int x :: .ref a :: st) (t, S, I, P, J) Q :=
  mx_put0 hd hf hs rfl rfl (fun _ h => mx_up_ne h) (fun _ _ => rfl) (fun _ _ => mx_fv_up) kk
theorem mx_b01 {x : Int32} (hx : x = 0 ∨ x = 1) : narrow .boolean (.int x) = .int x ∧ fits .boolean (.int x) = true := by
  rcases hx with rfl | rfl <;> decide
theorem mx_putZ {x : Int32} (hd : mx_d M pc (.putfield idx) 3 nx) (hf : mx_fl (mx_own M) idx c f true false .boolean) (hs : S a = some (0, c)) (hx : x = 0 ∨ x = 1) (kk : mx_E l E M d k n nx ls st (t, S, mx_up I a f x, P, J) Q) : mx_E l E M d k n pc ls (.int x :: .ref a :: st) (t, S, I, P, J) Q :=
  mx_put0 hd hf hs (mx_b01 hx).1 (mx_b01 hx).2 (fun _ h => mx_up_ne h) (fun _ _ => rfl) (fun _ _ => mx_fv_up) kk
theorem mx_putR {C : String} {r : Nat} (hd : mx_d M pc (.putfield idx) 3 nx) (hf : mx_fl (mx_own M) idx c f false false (.object C)) (hs : S a = some (0, c)) (kk : mx_E l E M d k n nx ls st (t, S, I, mx_upP P a f (some r), J) Q) : mx_E l E M d k n pc ls (.ref r :: .ref a :: st) (t, S, I, P, J) Q :=
  mx_put0 (v := .ref r) hd hf hs rfl rfl (fun _ _ => rfl) (fun _ h => mx_upP_ne h) (fun _ _ => mx_fv_upP) kk
/-- a final field, in a constructor -/
theorem mx_put0F {b : Bool} {ty : FieldType} {v : Value} {I' : mx_I} {P' : mx_P} (hd : mx_d M pc (.putfield idx) 3 nx) (hf : mx_fl (mx_own M) idx c f b true ty) (hin : (mx_y M).name = "<init>") (hdc : ∀ q, mx_cl[c]? = some q → (q.2.1 f).1 = mx_own M) (hs : S a = some (0, c)) (hn : narrow ty v = v) (hfit : fits ty v = true)
    (hI : ∀ q, q ≠ a → I' q = I q) (hPq : ∀ q, q ≠ a → P' q = P q) (hv : ∀ T j, mx_fv T I' P' a j = if j = f ∧ mx_isI T f = b then v else if j = f then mx_fv T I' P' a j else mx_fv T I P a j) (kk : mx_E l E M d k n nx ls st (t, S, I', P', J) Q) : mx_E l E M d k n pc ls (v :: .ref a :: st) (t, S, I, P, J) Q := by
  obtain ⟨hd, rfl⟩ := hd
  obtain ⟨⟨C, T, N⟩, hq, hk, hw, hi, hfin, hty⟩ := hf
  have hdecl := hdc _ hq
  dsimp only at hk hw hi hfin hty hdecl
  intro p e R s m args below meth c9 H locs cells slots mc ms A F h1 h2 h3 h4 hP hS hl
  obtain ⟨g1, q', hq', cell, q1, q2, q3, q4⟩ := hP.2.2.2 a _ hs
  have hq' : mx_cl[c]? = some q' := hq'
  cases hq.symm.trans hq'
  have hok := mx_clOk c _ hq
  have hap := va_apart (own := C) F.2.2.2.2.1 hok.1 (mx_ty T) hok.2.1 hok.2.2.1 hP.1.1 hq
  obtain ⟨hSl, hfc, kC, hkC, hkind⟩ := hP.1.1.1 c _ hq
  obtain ⟨cf, kf, fi, fd, hfi, hsl⟩ := hSl f hk
  dsimp only at hfc hkC hkind hfi
  have hlay := F.2.2.2.2.1 _ (hok.1 _ (u_in_lay hk))
  unfold u_lay at hlay
  rw [if_pos hfin] at hlay
  have hst := (u_facts hfc hkC (u_lays F.2.2.2.2.1 hok.1 hk) hfi).1
  have hcf : m.cls = cf := by
    obtain ⟨_, _, c', _, _, _, -, -, hf', -, -, -, hown2, -⟩ := Cond.laysFinal_spec hlay
    have e1 : c' = cf := by have := hfi.symm.trans hf'; simp at this; exact this.1.symm
    rw [hdecl] at hown2
    rw [← e1]; exact Option.some.inj (F.2.2.2.1.symm.trans hown2)
  have h6 := u_fits hfc hkC hkind (Or.inr hlay) hfi hty hn hfit
  have hmn : meth.name = "<init>" := F.2.2.2.2.2.2.2.2.2.2.1.trans hin
  refine W.putFinK F.1 F.2.1 F.2.2.2.1 (F.2.2.2.2.1 _ hw) hfi hst hcf hmn (by rw [q2]; exact h6) q1 q3 (by rw [hsl]; exact k2_hasslot (q4 f hk)) rfl rfl hd fun H' e1 e2 e3 => ?_
  rw [hsl] at e1 ⊢
  have hat : mx_at E (t, S, I', P', J) a (0, c) H' := ⟨_, hq, _, e1, q2, q3, fun j hj => by
    rw [t_set q4 hap hk v j hj]
    dsimp only
    rw [hv T j]
    by_cases hjf : j = f
    · subst hjf
      simp [updV, hi]
    · simp [updV, hjf]⟩
  exact kk p e R s m args below meth c9 H' _ cells slots mc ms A F h1 h2 h3 h4 (mx_Pic_upd hP hs e2 e3 hat hI hPq (fun _ _ => rfl)) (hS.put e2 e3 g1) hl
theorem mx_putIF {x : Int32} (hd : mx_d M pc (.putfield idx) 3 nx) (hf : mx_fl (mx_own M) idx c f true true .int) (hin : (mx_y M).name = "<init>") (hdc : ∀ q, mx_cl[c]? = some q → (q.2.1 f).1 = mx_own M) (hs : S a = some (0, c)) (kk : mx_E l E M d k n nx ls st (t, S, mx_up I a f x, P, J) Q) : mx_E l E M d k n pc ls (.int x :: .ref a :: st) (t, S, I, P, J) Q :=
  mx_put0F hd hf hin hdc hs rfl rfl (fun _ h => mx_up_ne h) (fun _ _ => rfl) (fun _ _ => mx_fv_up) kk
theorem mx_putRF {ty : FieldType} {r : Nat} (hd : mx_d M pc (.putfield idx) 3 nx) (hf : mx_fl (mx_own M) idx c f false true ty) (hin : (mx_y M).name = "<init>") (hdc : ∀ q, mx_cl[c]? = some q → (q.2.1 f).1 = mx_own M) (hs : S a = some (0, c)) (hn : narrow ty (.ref r) = .ref r) (hfit : fits ty (.ref r) = true) (kk : mx_E l E M d k n nx ls st (t, S, I, mx_upP P a f (some r), J) Q) : mx_E l E M d k n pc ls (.ref r :: .ref a :: st) (t, S, I, P, J) Q :=
  mx_put0F (v := .ref r) hd hf hin hdc hs hn hfit (fun _ _ => rfl) (fun _ h => mx_upP_ne h) (fun _ _ => mx_fv_upP) kk
/-! rows -/
theorem mx_alen {L : Nat} (hd : mx_d M pc .arraylength 1 nx) (hs : S a = some (1, L)) (kk : mx_E l E M d k n nx ls (.int (nI L) :: st) (t, S, I, P, J) Q) : mx_E l E M d k n pc ls (.ref a :: st) (t, S, I, P, J) Q := by
  obtain ⟨hd, rfl⟩ := hd
  intro p e R s m args below meth c9 H locs cells slots mc ms A F h1 h2 h3 h4 hP hS hl
  have hc : H[a]? = some (vp_cell (mx_ai E 0) (L, .inl (I a))) := (hP.2.2.2 a _ hs).2
  refine W.alen F.1 F.2.1 hc ((hP.1.1.2 0 _ rfl).1 L (fun j => .int (I a j))) ?_ rfl rfl hd (kk p e R s m args below meth c9 H locs cells slots mc ms A F h1 h2 h3 h4 hP hS hl)
  show (arrV _ _ _).slots.size.toInt32 = _
  rw [arrV_size]
  rfl
theorem mx_alenP {L : Nat} (hd : mx_d M pc .arraylength 1 nx) (hs : S a = some (4, L)) (kk : mx_E l E M d k n nx ls (.int (nI L) :: st) (t, S, I, P, J) Q) : mx_E l E M d k n pc ls (.ref a :: st) (t, S, I, P, J) Q := by
  obtain ⟨hd, rfl⟩ := hd
  intro p e R s m args below meth c9 H locs cells slots mc ms A F h1 h2 h3 h4 hP hS hl
  have hc : H[a]? = some (vp_cell (mx_ai E 3) (L, .inr (.inr (.inr (.inr (P a)))))) := (hP.2.2.2 a _ hs).2
  refine W.alen F.1 F.2.1 hc ((hP.1.1.2 3 _ rfl).1 L (fun j => va_rf (P a j))) ?_ rfl rfl hd (kk p e R s m args below meth c9 H locs cells slots mc ms A F h1 h2 h3 h4 hP hS hl)
  show (arrV _ _ _).slots.size.toInt32 = _
  rw [arrV_size]
  rfl
theorem mx_ld0 {x : va_E} {H : Heap} (h : va_at (mx_D E) mx_cl (a, x) H) : va_P (mx_D E) mx_cl [(a, x)] H := by
  intro i y hy
  cases i with
  | zero => cases hy; exact h
  | succ i => simp at hy
theorem mx_iald {L : Nat} {i : Int32} (hd : mx_d M pc .iaload 1 nx) (hs : S a = some (1, L)) (hi : vp_in i L) (kk : mx_E l E M d k n nx ls (.int (I a i.toNatClampNeg) :: st) (t, S, I, P, J) Q) : mx_E l E M d k n pc ls (.int i :: .ref a :: st) (t, S, I, P, J) Q := by
  obtain ⟨hd, rfl⟩ := hd
  intro p e R s m args below meth c9 H locs cells slots mc ms A F h1 h2 h3 h4 hP hS hl
  exact va_iald F.1 F.2.1 hP.1.1 (mx_ld0 (x := .inl (mx_ai E 0, L, .inl (I a))) (hP.2.2.2 a _ hs).2) 0 0 rfl rfl hi hd (kk p e R s m args below meth c9 H locs cells slots mc ms A F h1 h2 h3 h4 hP hS hl)
theorem mx_zald {L : Nat} {i : Int32} (hd : mx_d M pc .baload 1 nx) (hs : S a = some (2, L)) (hi : vp_in i L) (kk : mx_E l E M d k n nx ls (.int (I a i.toNatClampNeg) :: st) (t, S, I, P, J) Q) : mx_E l E M d k n pc ls (.int i :: .ref a :: st) (t, S, I, P, J) Q := by
  obtain ⟨hd, rfl⟩ := hd
  intro p e R s m args below meth c9 H locs cells slots mc ms A F h1 h2 h3 h4 hP hS hl
  exact va_zald F.1 F.2.1 hP.1.1 (mx_ld0 (x := .inl (mx_ai E 1, L, .inl (I a))) (hP.2.2.2 a _ hs).2) 0 1 rfl rfl hi hd (kk p e R s m args below meth c9 H locs cells slots mc ms A F h1 h2 h3 h4 hP hS hl)
theorem mx_lald {L : Nat} {i : Int32} (hd : mx_d M pc .laload 1 nx) (hs : S a = some (3, L)) (hi : vp_in i L) (kk : mx_E l E M d k n nx ls (.long (J a i.toNatClampNeg) :: st) (t, S, I, P, J) Q) : mx_E l E M d k n pc ls (.int i :: .ref a :: st) (t, S, I, P, J) Q := by
  obtain ⟨hd, rfl⟩ := hd
  intro p e R s m args below meth c9 H locs cells slots mc ms A F h1 h2 h3 h4 hP hS hl
  exact va_lald F.1 F.2.1 hP.1.1 (mx_ld0 (x := .inl (mx_ai E 2, L, .inr (.inl (J a)))) (hP.2.2.2 a _ hs).2) 0 2 rfl rfl hi hd (kk p e R s m args below meth c9 H locs cells slots mc ms A F h1 h2 h3 h4 hP hS hl)
theorem mx_aald {L r : Nat} {i : Int32} (hd : mx_d M pc .aaload 1 nx) (hs : S a = some (4, L)) (hi : vp_in i L) (hp : P a i.toNatClampNeg = some r) (kk : mx_E l E M d k n nx ls (.ref r :: st) (t, S, I, P, J) Q) : mx_E l E M d k n pc ls (.int i :: .ref a :: st) (t, S, I, P, J) Q := by
  obtain ⟨hd, rfl⟩ := hd
  intro p e R s m args below meth c9 H locs cells slots mc ms A F h1 h2 h3 h4 hP hS hl
  have hk := kk p e R s m args below meth c9 H locs cells slots mc ms A F h1 h2 h3 h4 hP hS hl
  rw [show (Value.ref r) = va_rf (P a i.toNatClampNeg) by rw [hp]; rfl] at hk
  exact va_aldq F.1 F.2.1 hP.1.1 (mx_ld0 (x := .inl (mx_ai E 3, L, .inr (.inr (.inr (.inr (P a)))))) (hP.2.2.2 a _ hs).2) 0 3 rfl rfl hi hd hk
theorem mx_iast {L : Nat} {i x : Int32} (hd : mx_d M pc .iastore 1 nx) (hs : S a = some (1, L)) (hi : vp_in i L) (kk : mx_E l E M d k n nx ls st (t, S, mx_up I a i.toNatClampNeg x, P, J) Q) : mx_E l E M d k n pc ls (.int x :: .int i :: .ref a :: st) (t, S, I, P, J) Q := by
  obtain ⟨hd, rfl⟩ := hd
  intro p e R s m args below meth c9 H locs cells slots mc ms A F h1 h2 h3 h4 hP hS hl
  obtain ⟨g1, g2⟩ := hP.2.2.2 a _ hs
  have hc : H[a]? = some (vp_cell (mx_ai E 0) (L, .inl (I a))) := g2
  refine W.iast F.1 F.2.1 hc ((hP.1.1.2 0 _ rfl).1 L (fun j => .int (I a j))) (fun q => by cases q) (by show ¬ (i < 0 ∨ (arrV _ _ _).slots.size ≤ _); rw [arrV_size]; exact hi) rfl rfl hd fun H' e1 z oq => ?_
  refine kk p e R s m args below meth c9 H' _ cells slots mc ms A F h1 h2 h3 h4 (mx_Pic_upd hP hs z oq ?_ (fun _ h => mx_up_ne h) (fun _ _ => rfl) (fun _ _ => rfl)) (hS.put z oq g1) hl
  show H'[a]? = some (vp_cell _ _)
  rw [e1, vp_cell_i, vp_cell_i, arrV_store]
  congr 2
  funext q
  by_cases hq : q = i.toNatClampNeg
  · subst hq
    simp [updV, mx_up]
  · simp [updV, mx_up, hq]
theorem mx_zast {L : Nat} {i x : Int32} (hd : mx_d M pc .bastore 1 nx) (hs : S a = some (2, L)) (hi : vp_in i L) (hx : x = 0 ∨ x = 1) (kk : mx_E l E M d k n nx ls st (t, S, mx_up I a i.toNatClampNeg x, P, J) Q) : mx_E l E M d k n pc ls (.int x :: .int i :: .ref a :: st) (t, S, I, P, J) Q := by
  obtain ⟨hd, rfl⟩ := hd
  intro p e R s m args below meth c9 H locs cells slots mc ms A F h1 h2 h3 h4 hP hS hl
  obtain ⟨g1, g2⟩ := hP.2.2.2 a _ hs
  have hc : H[a]? = some (vp_cell (mx_ai E 1) (L, .inl (I a))) := g2
  refine W.zast F.1 F.2.1 hc ((hP.1.1.2 1 _ rfl).1 L (fun j => .int (I a j))) (fun q => by cases q) (by show ¬ (i < 0 ∨ (arrV _ _ _).slots.size ≤ _); rw [arrV_size]; exact hi) rfl rfl hd fun H' e1 z oq => ?_
  refine kk p e R s m args below meth c9 H' _ cells slots mc ms A F h1 h2 h3 h4 (mx_Pic_upd hP hs z oq ?_ (fun _ h => mx_up_ne h) (fun _ _ => rfl) (fun _ _ => rfl)) (hS.put z oq g1) hl
  show H'[a]? = some (vp_cell _ _)
  rw [e1, (mx_b01 hx).1, vp_cell_i, vp_cell_i, arrV_store]
  congr 2
  funext q
  by_cases hq : q = i.toNatClampNeg
  · subst hq
    simp [updV, mx_up]
  · simp [updV, mx_up, hq]
theorem mx_last {L : Nat} {i : Int32} {x : Int64} (hd : mx_d M pc .lastore 1 nx) (hs : S a = some (3, L)) (hi : vp_in i L) (kk : mx_E l E M d k n nx ls st (t, S, I, P, mx_upJ J a i.toNatClampNeg x) Q) : mx_E l E M d k n pc ls (.long x :: .int i :: .ref a :: st) (t, S, I, P, J) Q := by
  obtain ⟨hd, rfl⟩ := hd
  intro p e R s m args below meth c9 H locs cells slots mc ms A F h1 h2 h3 h4 hP hS hl
  obtain ⟨g1, g2⟩ := hP.2.2.2 a _ hs
  have hc : H[a]? = some (vp_cell (mx_ai E 2) (L, .inr (.inl (J a)))) := g2
  refine W.last F.1 F.2.1 hc ((hP.1.1.2 2 _ rfl).1 L (fun j => .long (J a j))) (fun q => by cases q) (by show ¬ (i < 0 ∨ (arrV _ _ _).slots.size ≤ _); rw [arrV_size]; exact hi) rfl rfl hd fun H' e1 z oq => ?_
  refine kk p e R s m args below meth c9 H' _ cells slots mc ms A F h1 h2 h3 h4 (mx_Pic_upd hP hs z oq ?_ (fun _ _ => rfl) (fun _ _ => rfl) (fun _ h => mx_upJ_ne h)) (hS.put z oq g1) hl
  show H'[a]? = some (vp_cell _ _)
  rw [e1, vp_cell_l, vp_cell_l, arrV_store]
  congr 2
  funext q
  by_cases hq : q = i.toNatClampNeg
  · subst hq
    simp [updV, mx_upJ]
  · simp [updV, mx_upJ, hq]
theorem mx_aast {L r : Nat} {i : Int32} (hd : mx_d M pc .aastore 1 nx) (hs : S a = some (4, L)) (hr : S r = some (0, 6)) (hi : vp_in i L) (kk : mx_E l E M d k n nx ls st (t, S, I, mx_upP P a i.toNatClampNeg (some r), J) Q) : mx_E l E M d k n pc ls (.ref r :: .int i :: .ref a :: st) (t, S, I, P, J) Q := by
  obtain ⟨hd, rfl⟩ := hd
  intro p e R s m args below meth c9 H locs cells slots mc ms A F h1 h2 h3 h4 hP hS hl
  obtain ⟨g1, g2⟩ := hP.2.2.2 a _ hs
  have hc : H[a]? = some (vp_cell (mx_ai E 3) (L, .inr (.inr (.inr (.inr (P a)))))) := g2
  obtain ⟨-, q', hq', cellV, v1, v2, v3, -⟩ := hP.2.2.2 r _ hr
  have hq' : mx_cl[6]? = some q' := hq'
  cases (show mx_cl[6]? = some ("VisitingHours$State", mx_f6, 14) from rfl).symm.trans hq'
  have hcls := (hP.1.1.1 6 _ hq').2
  obtain ⟨kA, comp, k1, k2, k3, -⟩ := (hP.1.1.2 3 _ rfl).2
  have hcomp : comp = (mx_D E).1 6 := Option.some.inj (k3.symm.trans hcls.1)
  subst hcomp
  obtain ⟨kC, hkC, -⟩ := hcls.2
  refine W.aast F.1 F.2.1 hc (fun q h => by cases h) (fun h => by cases h) k1 k2 rfl hkC ⟨fun z => hi (Or.inl z), by show _ < (arrV _ _ _).slots.size; rw [arrV_size]; exact Nat.not_le.mp (fun z => hi (Or.inr z))⟩ v1 (fun q h => by rw [v3] at h; cases h) (by rw [v2]; exact hkC) (by rw [v2]; exact va_assign hcls) rfl rfl hd fun H' e1 z oq => ?_
  refine kk p e R s m args below meth c9 H' _ cells slots mc ms A F h1 h2 h3 h4 (mx_Pic_upd hP hs z oq ?_ (fun _ _ => rfl) (fun _ h => mx_upP_ne h) (fun _ _ => rfl)) (hS.put z oq g1) hl
  show H'[a]? = some (vp_cell _ _)
  rw [e1, vp_cell_q, vp_cell_q, arrV_store]
  congr 2
  funext q
  by_cases hq : q = i.toNatClampNeg
  · subst hq
    simp [updV, mx_upP, va_rf]
  · simp [updV, mx_upP, hq]
end MXH
