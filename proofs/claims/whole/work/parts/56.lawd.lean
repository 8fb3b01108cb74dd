/-! LINES: of the law, and of any text -/
def gq_num (K : Nat → Nat) (V : Nat → Option Nat) (lo hb t : Nat) : Nat ⊕ (Nat × Nat) :=
  if K t = 2 then (match V t with | some v => if lo ≤ v ∧ v < hb then .inr (v, t + 1) else .inl t | none => .inl t) else .inl t
abbrev gq_L : Type := Nat × Nat × List Int32
def gq_am (K : Nat → Nat) (V : Nat → Option Nat) (t : Nat) : Nat ⊕ (Nat × Nat) := if K t = 31 then .inr (0, t + 1) else gq_num K V 0 100 (t + 1)
def gq_if (K : Nat → Nat) (V : Nat → Option Nat) (t : Nat) : gq_R := if K t = 32 then gq_som K (gq_atm K V 6) (t + 1) else .inr ([], t)
def gq_line (K : Nat → Nat) (V : Nat → Option Nat) (t : Nat) : Nat ⊕ (gq_L × Nat) :=
  if K t = 29 ∨ K t = 30 ∨ K t = 31 then (match gq_am K V t with
    | .inl e => .inl e
    | .inr p => match gq_if K V p.2 with
      | .inl e => .inl e
      | .inr q => .inr ((K t, p.1, q.1), q.2)) else .inl t
/-- a sign or word that must stand there; a word of MARKS; figures, n of them -/
def gq_tk (K : Nat → Nat) (w t : Nat) : Nat ⊕ Nat := if K t = w then .inr (t + 1) else .inl t
def gq_let (K : Nat → Nat) (V : Nat → Option Nat) (t : Nat) : Nat ⊕ (Nat × Nat) := if 9 ≤ K t then (match V t with | some v => .inr (v, t + 1) | none => .inl t) else .inl t
def gq_fig (K Z : Nat → Nat) (n t : Nat) : Nat ⊕ Nat := if (if K t = 2 then Z t else 0) = n then .inr (if 0 < n then t + 1 else t) else .inl t
def gq_ok {α β : Type} (r : α ⊕ β) : Bool := match r with | .inl _ => false | .inr _ => true
/-- lines, parted by ; and n of them at most -/
def gq_rd {σ : Type} (K : Nat → Nat) (LN : σ → Nat → Nat ⊕ (σ × Nat)) : Nat → σ → Nat → Nat ⊕ σ
  | 0, _, t => .inl t
  | n + 1, s, t => match LN s t with
    | .inl e => .inl e
    | .inr q => if K q.2 = 0 then .inr q.1 else if K q.2 = 3 then gq_rd K LN n q.1 (q.2 + 1) else .inl q.2
theorem gq_rd_s {σ : Type} {K : Nat → Nat} {LN : σ → Nat → Nat ⊕ (σ × Nat)} (n : Nat) (s : σ) (t : Nat) : gq_rd K LN (n + 1) s t = match LN s t with
    | .inl e => .inl e
    | .inr q => if K q.2 = 0 then .inr q.1 else if K q.2 = 3 then gq_rd K LN n q.1 (q.2 + 1) else .inl q.2 := rfl
def gq_read {σ : Type} (K : Nat → Nat) (LN : σ → Nat → Nat ⊕ (σ × Nat)) (n : Nat) (s : σ) : Nat ⊕ σ := if K 0 = 0 then .inr s else gq_rd K LN n s 0
def gq_LN (K : Nat → Nat) (V : Nat → Option Nat) (s : List gq_L) (t : Nat) : Nat ⊕ (List gq_L × Nat) := match gq_line K V t with
  | .inl e => .inl e
  | .inr q => .inr (s ++ [q.1], q.2)
/-- the law that a text tells -/
def gq_law (K : Nat → Nat) (V : Nat → Option Nat) : Nat ⊕ List gq_L := gq_read K (gq_LN K V) 12 []
/-- the code of the first lines -/
def gq_co (s : List gq_L) : List Int32 := s.flatMap (fun x => x.2.2)
def gq_e (s : List gq_L) (j : Nat) : Nat := (gq_co (s.take (j + 1))).length
theorem gq_co_app (s r : List gq_L) : gq_co (s ++ r) = gq_co s ++ gq_co r := by unfold gq_co; simp
theorem gq_num_go {K : Nat → Nat} {V : Nat → Option Nat} {T lo hb : Nat} (hK : ∀ t, T ≤ t → K t = 0) {t : Nat} : (∀ q, gq_num K V lo hb t = .inr q → q.2 = t + 1 ∧ q.2 ≤ T ∧ q.1 < hb ∧ lo ≤ q.1 ∧ K t = 2 ∧ V t = some q.1) ∧ ∀ e, gq_num K V lo hb t = .inl e → e = t := by
  unfold gq_num
  refine ⟨fun q h => ?_, fun e h => ?_⟩
  · split at h
    · rename_i h2
      split at h
      · rename_i v hv
        split at h
        · rename_i hc
          cases h
          refine ⟨rfl, ?_, hc.2, hc.1, h2, hv⟩
          rcases Nat.lt_or_ge t T with c | c
          · exact c
          · have := hK t c; omega
        · cases h
      · cases h
    · cases h
  · split at h
    · split at h
      · split at h
        · cases h
        · cases h; rfl
      · cases h; rfl
    · cases h; rfl
theorem gq_am_go {K : Nat → Nat} {V : Nat → Option Nat} {T : Nat} (hK : ∀ t, T ≤ t → K t = 0) {t : Nat} (h3 : K t = 29 ∨ K t = 30 ∨ K t = 31) : (∀ q, gq_am K V t = .inr q → t < q.2 ∧ q.2 ≤ T ∧ q.1 < 100) ∧ ∀ e, gq_am K V t = .inl e → e = t + 1 ∧ e ≤ T := by
  have ht : t < T := by
    rcases Nat.lt_or_ge t T with c | c
    · exact c
    · have := hK t c; omega
  unfold gq_am
  refine ⟨fun q h => ?_, fun e h => ?_⟩
  · split at h
    · cases h; exact ⟨Nat.lt_succ_self _, ht, by show 0 < 100; omega⟩
    · have := (gq_num_go hK).1 q h; omega
  · split at h
    · cases h
    · have := (gq_num_go hK).2 e h; omega
theorem gq_if_go {K : Nat → Nat} {V : Nat → Option Nat} {T : Nat} (hK : ∀ t, T ≤ t → K t = 0) {t : Nat} (ht : t ≤ T) : (∀ q, gq_if K V t = .inr q → t ≤ q.2 ∧ q.2 ≤ T ∧ q.1.length + t ≤ q.2) ∧ ∀ e, gq_if K V t = .inl e → t ≤ e ∧ e ≤ T := by
  have hS := gq_go_som (gq_go_atm (V := V) hK 6) hK
  unfold gq_if
  refine ⟨fun q h => ?_, fun e h => ?_⟩
  · split at h
    · have := hS.2.1 _ _ h; omega
    · cases h; simp [ht]
  · split at h
    · rename_i h1
      have h2 : t < T := by
        rcases Nat.lt_or_ge t T with c | c
        · exact c
        · have := hK t c; omega
      have := hS.2.2 _ _ (by omega) h; omega
    · cases h
theorem gq_line_go {K : Nat → Nat} {V : Nat → Option Nat} {T : Nat} (hK : ∀ t, T ≤ t → K t = 0) {t : Nat} : (∀ q, gq_line K V t = .inr q → t < q.2 ∧ q.2 ≤ T ∧ q.1.2.2.length + t < q.2 ∧ q.1.1 < 64 ∧ q.1.2.1 < 100) ∧ ∀ e, t ≤ T → gq_line K V t = .inl e → t ≤ e ∧ e ≤ T := by
  unfold gq_line
  refine ⟨fun q h => ?_, fun e ht h => ?_⟩
  · split at h
    · rename_i h3
      cases h1 : gq_am K V t with
      | inl e => rw [h1] at h; cases h
      | inr p =>
        rw [h1] at h
        simp only at h
        have h4 := (gq_am_go hK h3).1 p h1
        cases h2 : gq_if K V p.2 with
        | inl e => rw [h2] at h; cases h
        | inr r =>
          rw [h2] at h
          have h5 := (gq_if_go hK (by omega)).1 r h2
          cases h
          refine ⟨by show t < r.2; omega, h5.2.1, by show r.1.length + t < r.2; omega, by show K t < 64; omega, h4.2.2⟩
    · cases h
  · split at h
    · rename_i h3
      cases h1 : gq_am K V t with
      | inl e2 => rw [h1] at h; cases h; have := (gq_am_go hK h3).2 e h1; omega
      | inr p =>
        rw [h1] at h
        simp only at h
        have h4 := (gq_am_go hK h3).1 p h1
        cases h2 : gq_if K V p.2 with
        | inl e2 => rw [h2] at h; cases h; have := (gq_if_go hK (by omega)).2 e h2; omega
        | inr r => rw [h2] at h; cases h
    · cases h; exact ⟨Nat.le_refl _, ht⟩
/-- what all lines of a law keep -/
def gq_li (x : gq_L) : Prop := x.1 < 64 ∧ x.2.1 < 100 ∧ (x.2.2 = [] ∨ ∀ fc, gr_pu fc 17 x.2.2)
theorem gq_line_li {K : Nat → Nat} {V : Nat → Option Nat} {T : Nat} (hK : ∀ t, T ≤ t → K t = 0) (hV : ∀ t v, V t = some v → v < 1000) {t : Nat} {q : gq_L × Nat} (h : gq_line K V t = .inr q) : gq_li q.1 := by
  have h0 := (gq_line_go hK).1 q h
  refine ⟨h0.2.2.2.1, h0.2.2.2.2, ?_⟩
  unfold gq_line at h
  split at h
  · cases h1 : gq_am K V t with
    | inl e => rw [h1] at h; cases h
    | inr p =>
      rw [h1] at h
      simp only at h
      cases h2 : gq_if K V p.2 with
      | inl e => rw [h2] at h; cases h
      | inr r =>
        rw [h2] at h
        cases h
        unfold gq_if at h2
        split at h2
        · right
          intro fc
          exact gr_som (gr_atm hV 6 (by omega)) (by omega) (by omega) _ _ h2
        · left; cases h2; rfl
  · cases h
theorem gq_rd_law {K : Nat → Nat} {V : Nat → Option Nat} {T : Nat} (hK : ∀ t, T ≤ t → K t = 0) (hV : ∀ t v, V t = some v → v < 1000) : ∀ n s t s', (∀ x ∈ s, gq_li x) → (gq_co s).length ≤ t → gq_rd K (gq_LN K V) n s t = .inr s' → (∀ x ∈ s', gq_li x) ∧ s'.length ≤ s.length + n ∧ (gq_co s').length ≤ T ∧ 0 < s'.length
  | 0, _, _, _, _, _, h => by cases h
  | n + 1, s, t, s', h1, h2, h => by
    rw [gq_rd_s] at h
    unfold gq_LN at h
    cases h3 : gq_line K V t with
    | inl e => rw [h3] at h; cases h
    | inr r =>
      rw [h3] at h
      simp only at h
      have h4 := (gq_line_go hK).1 r h3
      have h5 := gq_line_li hK hV h3
      have h6 : ∀ x ∈ s ++ [r.1], gq_li x := fun x hx => by
        rcases List.mem_append.mp hx with u | u
        · exact h1 x u
        · rw [List.mem_singleton.mp u]; exact h5
      have h7 : (gq_co (s ++ [r.1])).length ≤ r.2 := by
        rw [gq_co_app, List.length_append]
        have : gq_co [r.1] = r.1.2.2 := by unfold gq_co; simp
        rw [this]; omega
      split at h
      · cases h
        exact ⟨h6, by simp, by omega, by simp⟩
      · split at h
        · have := gq_rd_law hK hV n _ _ s' h6 (by omega) h
          simp only [List.length_append, List.length_singleton] at this
          exact ⟨this.1, by omega, this.2.2.1, this.2.2.2⟩
        · cases h
theorem gq_law_ok {K : Nat → Nat} {V : Nat → Option Nat} {T : Nat} (hK : ∀ t, T ≤ t → K t = 0) (hV : ∀ t v, V t = some v → v < 1000) {s : List gq_L} (h : gq_law K V = .inr s) : (∀ x ∈ s, gq_li x) ∧ s.length ≤ 12 ∧ (gq_co s).length ≤ T := by
  unfold gq_law gq_read at h
  split at h
  · cases h; exact ⟨fun x hx => absurd hx (by simp), by simp, by unfold gq_co; simp⟩
  · have := gq_rd_law hK hV 12 [] 0 s (fun x hx => absurd hx (by simp)) (by unfold gq_co; simp) h
    exact ⟨this.1, by simpa using this.2.1, this.2.2.1⟩
/-- the law's parts -/
def gq_kd (s : List gq_L) (j : Nat) : Nat := (s.getD j (0, 0, [])).1
def gq_ma (s : List gq_L) (j : Nat) : Nat := (s.getD j (0, 0, [])).2.1
def gq_cd (s : List gq_L) (j : Nat) : List Int32 := (s.getD j (0, 0, [])).2.2
def gq_hv (s : List gq_L) (fc : Nat → Int32) (j : Nat) : Bool := decide (gq_cd s j = []) || decide (¬ gr_v fc (gq_cd s j) = 0)
def gq_D (s : List gq_L) : lwD := (s.length, (gq_co s).length, nI s.length, gq_kd s, gq_ma s, gq_e s, fun k => (gq_co s).getD k 0, gq_hv s)
theorem gr_take {cs fc : Nat → Int32} {s : Nat} {c : List Int32} (h : ∀ i, i < c.length → cs (s + i) = c.getD i 0) (f : Nat → Int32) : ∀ i, i ≤ c.length → lw_run cs fc s f i = gr_run fc (c.take i) (f, 0)
  | 0, _ => by simp; rfl
  | i + 1, hi => by
    have e : lw_run cs fc s f (i + 1) = lw_step (cs (s + i)) fc (lw_run cs fc s f i) := rfl
    rw [e, gr_take h f i (by omega), h i (by omega), List.take_add_one, gr_run_app, List.getElem?_eq_getElem (by omega), List.getD_eq_getElem?_getD, List.getElem?_eq_getElem (by omega)]
    rfl
theorem gr_fit_at {fc : Nat → Int32} : ∀ (c : List Int32) (z : (Nat → Int32) × Nat), gr_fit fc c z → ∀ i, i < c.length → lw_fit (c.getD i 0) (gr_run fc (c.take i) z).2
  | [], _, _, i, hi => absurd hi (by simp)
  | w :: c, z, h, 0, _ => h.1
  | w :: c, z, h, i + 1, hi => gr_fit_at c (lw_step w fc z) h.2 i (by simpa using hi)
theorem gq_e_s {s : List gq_L} {j : Nat} (hj : j < s.length) : gq_e s j = lw_from (gq_e s) j + (gq_cd s j).length := by
  have e1 : lw_from (gq_e s) j = (gq_co (s.take j)).length := by
    unfold lw_from
    cases j with
    | zero => simp [gq_co]
    | succ j => rw [if_neg (by omega)]; rfl
  rw [e1]
  unfold gq_e gq_cd
  rw [List.take_add_one, List.getElem?_eq_getElem hj, gq_co_app, List.length_append, List.getD_eq_getElem?_getD, List.getElem?_eq_getElem hj]
  simp [gq_co]
theorem gq_e_le {s : List gq_L} {j : Nat} : gq_e s j ≤ (gq_co s).length := by
  have : gq_co s = gq_co (s.take (j + 1)) ++ gq_co (s.drop (j + 1)) := by rw [← gq_co_app, List.take_append_drop]
  unfold gq_e
  rw [this, List.length_append]; omega
theorem gq_cs {s : List gq_L} {j i : Nat} (hj : j < s.length) (hi : i < (gq_cd s j).length) : (gq_co s).getD (lw_from (gq_e s) j + i) 0 = (gq_cd s j).getD i 0 := by
  have e1 : lw_from (gq_e s) j = (gq_co (s.take j)).length := by
    unfold lw_from
    cases j with
    | zero => simp [gq_co]
    | succ j => rw [if_neg (by omega)]; rfl
  have e2 : gq_co s = gq_co (s.take j) ++ (gq_cd s j ++ gq_co (s.drop (j + 1))) := by
    have : s = s.take j ++ (s[j] :: s.drop (j + 1)) := by rw [← List.drop_eq_getElem_cons hj, List.take_append_drop]
    refine (congrArg gq_co this).trans ?_
    rw [gq_co_app]
    congr 1
    unfold gq_cd
    rw [List.getD_eq_getElem?_getD, List.getElem?_eq_getElem hj]
    rfl
  rw [e1, e2, List.getD_eq_getElem?_getD, List.getD_eq_getElem?_getD, List.getElem?_append_right (by omega), Nat.add_sub_cancel_left, List.getElem?_append_left hi]
theorem gr_pu_ne {fc : Nat → Int32} (h : gr_pu fc 17 []) : False := by
  obtain ⟨-, f', h1, -⟩ := h (fun _ => 0) 0 (by omega)
  exact absurd (congrArg Prod.snd h1) (by show ¬ 0 = 0 + 1; omega)
theorem gq_D_sem {s : List gq_L} (hs : ∀ x ∈ s, gq_li x) (fc : Nat → Int32) : lw_sem s.length (gq_e s) (fun k => (gq_co s).getD k 0) fc (gq_hv s fc) := by
  intro j hj
  have hx : gq_li (s.getD j (0, 0, [])) := by
    rw [List.getD_eq_getElem?_getD, List.getElem?_eq_getElem hj]
    exact hs _ (List.getElem_mem hj)
  have he := gq_e_s hj
  have hn : gq_e s j - lw_from (gq_e s) j = (gq_cd s j).length := by omega
  have hpu : ¬ gq_cd s j = [] → gr_pu fc 17 (gq_cd s j) := fun h => (hx.2.2.resolve_left h) fc
  refine ⟨fun f i hi => ?_, fun h => ?_, fun h f => ?_⟩
  · rw [hn] at hi
    have hc : ¬ gq_cd s j = [] := fun e => by rw [e] at hi; exact absurd hi (by simp)
    rw [gr_take (c := gq_cd s j) (fun i hi => gq_cs hj hi) f i (by omega)]
    show lw_fit ((gq_co s).getD (lw_from (gq_e s) j + i) 0) _
    rw [gq_cs hj hi]
    exact gr_fit_at _ _ ((hpu hc) f 0 (by omega)).1 i hi
  · have : (gq_cd s j).length = 0 := by omega
    unfold gq_hv
    rw [List.length_eq_zero_iff.mp this]; rfl
  · have hc : ¬ gq_cd s j = [] := fun e => by rw [e] at he; simp at he; omega
    rw [hn, gr_take (c := gq_cd s j) (fun i hi => gq_cs hj hi) f _ (Nat.le_refl _), List.take_length]
    obtain ⟨-, f', h1, -, h3⟩ := (hpu hc) f 0 (by omega)
    rw [h1]
    unfold gq_hv
    rw [decide_eq_false hc, Bool.false_or]
    show decide (¬ f' 0 = 0) = _
    rw [h3]
