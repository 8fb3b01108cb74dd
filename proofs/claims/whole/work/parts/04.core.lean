/-! THE HEAP AS THE PROGRAM SEES IT: its size, what lies where (a kind and a number), whole numbers, references, longs.
Kinds: (0, c) an object of the class number c; (1, n) int[n]; (2, n) boolean[n]; (3, n) long[n]; (4, n) a row of States. -/
abbrev mx_Sh : Type := Nat × Nat
abbrev mx_S : Type := Nat → Option mx_Sh
abbrev mx_I : Type := Nat → Nat → Int32
abbrev mx_P : Type := Nat → Nat → Option Nat
abbrev mx_G : Type := Nat → Nat → Int64
abbrev mx_H : Type := Nat × mx_S × mx_I × mx_P × mx_G
/-- what the machine at the law's start gives: class numbers and slots, the rows' classes, the first free cell, Strings and their rows, the script -/
abbrev mx_Env : Type := va_G × (Nat → ClassId) × Nat × (Nat → Nat) × (Nat → Nat) × Nat × Nat × (Nat → Int32)
def mx_D (E : mx_Env) : va_G := E.1
def mx_ai (E : mx_Env) : Nat → ClassId := E.2.1
def mx_N (E : mx_Env) : Nat := E.2.2.1
def mx_aK (E : mx_Env) : Nat → Nat := E.2.2.2.1
def mx_aV (E : mx_Env) : Nat → Nat := E.2.2.2.2.1
def mx_b (E : mx_Env) : Nat := E.2.2.2.2.2.1
def mx_L (E : mx_Env) : Nat := E.2.2.2.2.2.2.1
def mx_xs (E : mx_Env) : Nat → Int32 := E.2.2.2.2.2.2.2
def mx_A (E : mx_Env) : Nat → Prop := fun q => mx_N E ≤ q
def mx_tys (E : mx_Env) : List (ClassId × FieldType) := [(mx_ai E 0, .int), (mx_ai E 1, .boolean), (mx_ai E 2, .long), (mx_ai E 3, .object "VisitingHours$State")]
def mx_fv (T : u_T) (I : mx_I) (P : mx_P) (a k : Nat) : Value := if mx_isI T k then .int (I a k) else va_rf (P a k)
def mx_at (E : mx_Env) (X : mx_H) (a : Nat) (sh : mx_Sh) (H : Heap) : Prop := match sh.1 with
  | 0 => ∃ q, mx_cl[sh.2]? = some q ∧ t_OB a ((mx_D E).1 sh.2) q.2.2 ((mx_D E).2 sh.2) H (fun k => mx_fv q.2.1 X.2.2.1 X.2.2.2.1 a k)
  | 1 => H[a]? = some (vp_cell (mx_ai E 0) (sh.2, .inl (X.2.2.1 a)))
  | 2 => H[a]? = some (vp_cell (mx_ai E 1) (sh.2, .inl (X.2.2.1 a)))
  | 3 => H[a]? = some (vp_cell (mx_ai E 2) (sh.2, .inr (.inl (X.2.2.2.2 a))))
  | _ => H[a]? = some (vp_cell (mx_ai E 3) (sh.2, .inr (.inr (.inr (.inr (X.2.2.2.1 a))))))
def mx_Ob (E : mx_Env) (X : mx_H) (H : Heap) : Prop := H.size = X.1 ∧ mx_N E ≤ X.1 ∧ ∀ a sh, X.2.1 a = some sh → mx_N E ≤ a ∧ mx_at E X a sh H
/-- pairs of exceptions' classes, the first no kind of the second -/
def mx_nc : List (String × String) := [("java/lang/UnsupportedOperationException", "java/lang/IllegalArgumentException"), ("java/util/NoSuchElementException", "java/lang/IndexOutOfBoundsException"), ("java/lang/IllegalStateException", "java/lang/IndexOutOfBoundsException"), ("java/lang/IllegalArgumentException", "java/lang/IndexOutOfBoundsException"), ("java/util/NoSuchElementException", "java/lang/IllegalArgumentException")]
/-- Strings by their places; two places may be one String -/
def mx_Sr (N : Nat) (len : List Nat) (byt : List (List Int32)) (adK adV : Nat → Nat) (A : Nat → Prop) (U : State) (H : Heap) : Prop :=
  ∀ i : Nat, i < N → va_O "java/lang/String" (adK i) A U H ∧ va_OF "java/lang/String" "coder" "B" (.int 0) (adK i) A U H ∧ va_OF "java/lang/String" "value" "[B" (.ref (adV i)) (adK i) A U H ∧ va_T .byte (adV i) (len.getD i 0) (fun j => .int ((byt.getD i []).getD j 0)) A U H
theorem mx_Sr.moved {N : Nat} {len : List Nat} {byt : List (List Int32)} {adK adV : Nat → Nat} {A : Nat → Prop} {u U : State} {H : Heap} (hvm : u.vm.Alike U.vm) (h : mx_Sr N len byt adK adV A u H) : mx_Sr N len byt adK adV A U H :=
  fun i hi => ⟨va_O.moved hvm (h i hi).1, va_OF.moved hvm (h i hi).2.1, va_OF.moved hvm (h i hi).2.2.1, va_T.moved hvm (h i hi).2.2.2⟩
theorem mx_Sr.kept {N : Nat} {len : List Nat} {byt : List (List Int32)} {adK adV : Nat → Nat} {A : Nat → Prop} {U : State} {H H1 : Heap} (h : mx_Sr N len byt adK adV A U H) (hq : ∀ a : Nat, a < H.size → ¬ A a → H1[a]? = H[a]?) : mx_Sr N len byt adK adV A U H1 :=
  fun i hi => ⟨(h i hi).1.kept hq, (h i hi).2.1.kept hq, (h i hi).2.2.1.kept hq, (h i hi).2.2.2.kept hq⟩
/-- what lies below the first free cell, and what the tables say beside the words -/
def mx_Ext (E : mx_Env) (U : State) (H : Heap) : Prop :=
  va_K (mx_D E) mx_cl (mx_tys E) U ∧ (∀ w ∈ mx_NW, va_Nw w U) ∧ (mx_b E < mx_N E ∧ va_X (mx_b E) (mx_L E) (mx_xs E) U H) ∧ (∀ q ∈ mx_nc, va_Nc q.1 q.2 U) ∧
  (vx_Zq Bundle.tN "UNASSIGNED_STACK" Bundle.steD (mx_A E) U H ∧ vx_Zq Bundle.tN "SUPPRESSED_SENTINEL" Bundle.listD (mx_A E) U H) ∧
  (mx_Sr 69 (mx_sb.map List.length) mx_sb (mx_aK E) (mx_aV E) (mx_A E) U H ∧ ∀ i q, mx_st[i]? = some q → vk_R q.1 q.2.1 q.2.2 (mx_aK E i) U) ∧
  (va_Z "java/lang/String" "COMPACT_STRINGS" "Z" (.int 1) (mx_A E) U H ∧ va_Zq "jdk/internal/util/Preconditions" "SIOOBE_FORMATTER" "Ljava/util/function/BiFunction;" (mx_A E) U H) ∧ va_AO "VisitingHours$State" U
theorem mx_Nw_warm {s U : State} (hW : s.WarmedH U.vm) (h : ∀ w ∈ mx_NW, va_Nw w s) : ∀ w ∈ mx_NW, va_Nw w U := by
  intro w hw
  have h1 := h w hw
  simp only [mx_NW, List.mem_cons, List.not_mem_nil, or_false] at hw
  rcases hw with rfl | rfl | rfl | rfl | rfl | rfl | rfl | rfl | rfl | rfl | rfl | rfl | rfl | rfl | rfl | rfl | rfl | rfl | rfl | rfl | rfl | rfl | rfl | rfl | rfl | rfl | rfl | rfl | rfl | rfl | rfl | rfl | rfl | rfl | rfl | rfl | rfl | rfl | rfl | rfl | rfl | rfl | rfl | rfl | rfl | rfl <;> first | exact va_Nw.warmM hW h1 | exact va_Nw.warmC hW h1 | exact va_Nw.warmD hW h1
theorem mx_Ext.warm {E : mx_Env} {s U : State} {H : Heap} (hW : s.WarmedH U.vm) (h : mx_Ext E s H) : mx_Ext E U H := by
  obtain ⟨h1, h2, ⟨h3, h4⟩, h5, ⟨h6, h7⟩, ⟨h8, h9⟩, ⟨h10, h11⟩, h12⟩ := h
  exact ⟨h1.moved hW.alike, mx_Nw_warm hW h2, ⟨h3, h4.moved hW.alike⟩, fun q hq => (h5 q hq).moved hW.alike, ⟨h6.moved hW.alike, h7.moved hW.alike⟩, ⟨h8.moved hW.alike, fun i q hq => (h9 i q hq).warm hW⟩, ⟨h10.moved hW.alike, h11.moved hW.alike⟩, h12.moved hW.alike⟩
theorem mx_Ext.kept {E : mx_Env} {U : State} {H H1 : Heap} (h : mx_Ext E U H) (hq : ∀ q : Nat, q < mx_N E → H1[q]? = H[q]?) : mx_Ext E U H1 := by
  obtain ⟨h1, h2, ⟨h3, h4⟩, h5, ⟨h6, h7⟩, ⟨h8, h9⟩, ⟨h10, h11⟩, h12⟩ := h
  have hk : ∀ a : Nat, a < H.size → ¬ mx_A E a → H1[a]? = H[a]? := fun a _ ha => hq a (Nat.not_le.mp ha)
  exact ⟨h1, h2, ⟨h3, h4.kept (hq _ h3)⟩, h5, ⟨h6.kept hk, h7.kept hk⟩, ⟨h8.kept hk, h9⟩, ⟨h10.kept hk, h11.kept hk⟩, h12⟩
def mx_Pic (E : mx_Env) (X : mx_H) (U : State) (H : Heap) : Prop := mx_Ext E U H ∧ mx_Ob E X H
/-- how a method ends: an answer, or an exception's class -/
abbrev mx_R : Type := Option Value ⊕ String
def mx_Qc (E : mx_Env) (Q : mx_R → mx_H → Prop) : Array Value → State → Outcome → State → Prop := fun _ st o t => (∃ v X, o = .returned v ∧ Q (.inl v) X ∧ mx_Ob E X t.heap) ∧ va_F (mx_A E) st t
def mx_XC (E : mx_Env) (Q : mx_R → mx_H → Prop) : String → State → State → Prop := fun C st t => (∃ X, Q (.inr C) X ∧ mx_Ob E X t.heap) ∧ va_F (mx_A E) st t
/-- the frame of a method M at work -/
def mx_Fr (E : mx_Env) (M : mx_M) (d : Nat) (p : Program) (R : Room) (s : State) (m : MethodId) (args : Array Value) (meth : Method) (c : Code) : Prop :=
  p.tables.exec = Jvm.exec ∧ c.code = mx_cc M ∧ c.maxLocals = mx_nL M ∧ s.vm.findClass (mx_own M) = some m.cls ∧ (∀ w ∈ mx_W, w.before args s = true) ∧ meth.sig.returnType = mx_rt M ∧ meth.locks = false ∧ c.exceptionTable.toList = tableOf (mx_hh M) ∧ d ≤ R.frames ∧ 42 * d ≤ R.locals ∧ meth.name = (mx_y M).name ∧ mx_N E ≤ s.heap.size
/-- the locals: place by place, what is known -/
def mx_lo (A : Array Slot) (nL : Nat) (ls : List (Option Value)) : Prop := A.size = nL ∧ lv_wf A ∧ ls.length ≤ nL ∧ ∀ (i : Nat) (v : Value), ls[i]? = some (some v) → A[i]? = some (Slot.val v)
/-- from here, the method M ends as Q says -/
def mx_E (l : Launch) (E : mx_Env) (M : mx_M) (d k n pc : Nat) (ls : List (Option Value)) (st : List Value) (X : mx_H) (Q : mx_R → mx_H → Prop) : Prop :=
  ∀ (p : Program) (e : Env) (R : Room) (s : State) (m : MethodId) (args : Array Value) (below : List Frame) (meth : Method) (c : Code) (H : Heap) (locs : List Loc) (cells slots mc ms : Nat) (A : Array Slot),
    mx_Fr E M d p R s m args meth c → cells + k ≤ mc → slots + n ≤ ms → mc ≤ R.cells → ms ≤ R.slots → mx_Pic E X s H → va_S (mx_A E) s.heap H locs → mx_lo A (mx_nL M) ls →
    W p l e R s m args below meth c H locs cells slots (vx_MQ below (mx_Qc E Q) (mx_XC E Q) args s mc ms (mx_A E)) (F0 m pc A st)
def mx_rm (d k n : Nat) : Room := { frames := d, cells := k, slots := n, locals := 42 * d }
/-- the contract of a method: from these arguments and this heap it ends as Q says, at depth d, with k new cells of n slots at most -/
def mx_C (l : Launch) (E : mx_Env) (M : mx_M) (d k n : Nat) (as : List Value) (X : mx_H) (Q : mx_R → mx_H → Prop) : Prop :=
  vx_Met l (mx_y M) (.code (mx_y M) (mx_cc M) (mx_nL M) (mx_rt M) :: mx_W) (mx_rm d k n) (va_Pc as (fun U => mx_Pic E X U U.heap)) (mx_Qc E Q) (mx_XC E Q) k n (mx_A E)
/-- the same of a method with handlers -/
def mx_CW (l : Launch) (E : mx_Env) (M : mx_M) (d k n : Nat) (as : List Value) (X : mx_H) (Q : mx_R → mx_H → Prop) : Prop :=
  vx_Met l (mx_y M) (.codeWith (mx_y M) (mx_cc M) (mx_nL M) (mx_rt M) (mx_hh M) :: mx_W) (mx_rm d k n) (va_Pc as (fun U => mx_Pic E X U U.heap)) (mx_Qc E Q) (mx_XC E Q) k n (mx_A E)
/-! the locals -/
def mx_args (as : List Value) (nL : Nat) : List (Option Value) := (lg_sl as).map (fun s => match s with | .val v => some v | _ => none) ++ List.replicate (nL - (lg_sl as).length) none
theorem mx_lo_entry {as : List Value} {n : Nat} (h : (lg_sl as).length ≤ n) : mx_lo ((lg_sl as ++ List.replicate (n - (lg_sl as).length) Slot.unset).toArray) n (mx_args as n) := by
  obtain ⟨h1, h2, -⟩ := lv_entry as h
  refine ⟨h1, h2, by simp [mx_args]; omega, fun i v hi => ?_⟩
  unfold mx_args at hi
  by_cases hl : i < (lg_sl as).length
  · rw [List.getElem?_append_left (by simpa using hl), List.getElem?_map] at hi
    have e : ((lg_sl as ++ List.replicate (n - (lg_sl as).length) Slot.unset).toArray)[i]? = (lg_sl as)[i]? := by simp [List.getElem?_append_left hl]
    rw [e]
    cases hz : (lg_sl as)[i]? with
    | none => rw [hz] at hi; simp at hi
    | some z =>
      rw [hz] at hi
      cases z <;> simp at hi
      rw [hi]
  · rw [List.getElem?_append_right (by simpa using hl), List.getElem?_replicate] at hi
    split at hi <;> simp at hi
def mx_prs (ls : List (Option Value)) : List (Nat × Value) := (List.range ls.length).filterMap (fun i => (ls[i]?.join).map (fun v => (i, v)))
theorem mx_prs_mem {ls : List (Option Value)} {i : Nat} {v : Value} (h : ls[i]? = some (some v)) : (i, v) ∈ mx_prs ls := by
  have hl : i < ls.length := (List.getElem?_eq_some_iff.mp h).1
  exact List.mem_filterMap.mpr ⟨i, List.mem_range.mpr hl, by rw [h]; rfl⟩
theorem mx_prs_of {ls : List (Option Value)} {q : Nat × Value} (h : q ∈ mx_prs ls) : ls[q.1]? = some (some q.2) := by
  obtain ⟨i, -, hi⟩ := List.mem_filterMap.mp h
  cases hz : ls[i]? with
  | none => rw [hz] at hi; simp at hi
  | some z =>
    cases z with
    | none => rw [hz] at hi; simp at hi
    | some v =>
      rw [hz] at hi
      simp at hi
      rw [← hi]
      exact hz
theorem mx_lo.has {A : Array Slot} {nL : Nat} {ls : List (Option Value)} (h : mx_lo A nL ls) : lv_has A nL (mx_prs ls) := ⟨h.1, h.2.1, fun q hq => h.2.2.2 _ _ (mx_prs_of hq)⟩
/-- no long begins at the place ahead of i -/
def mx_nl (ls : List (Option Value)) (i : Nat) : Prop := ∀ (j : Nat) (v : Value), j + 1 = i → ls[j]? = some (some v) → v.category = 1
theorem mx_lo.st1 {A : Array Slot} {nL i : Nat} {ls : List (Option Value)} {v : Value} {lv : List (Nat × Value)} (h0 : ls.length ≤ nL) (hn : mx_nl ls i) (hlv : (i, v) :: (mx_prs ls).filter (fun q => !(q.1 == i) && !(q.1 + 1 == i && q.2.category == 2)) = lv) (h : lv_has A nL lv) : mx_lo A nL (ls.set i (some v)) := by
  subst hlv
  refine ⟨h.1, h.2.1, by simpa using h0, fun j w hj => ?_⟩
  by_cases e : j = i
  · subst e
    have hl : j < ls.length := by
      have := (List.getElem?_eq_some_iff.mp hj).1
      simpa using this
    rw [List.getElem?_set_self hl] at hj
    cases hj
    exact h.2.2 (j, v) List.mem_cons_self
  · rw [List.getElem?_set_ne (Ne.symm e)] at hj
    refine h.2.2 (j, w) (List.mem_cons_of_mem _ (List.mem_filter.mpr ⟨mx_prs_mem hj, ?_⟩))
    simp only [Bool.and_eq_true, Bool.not_eq_true', beq_eq_false_iff_ne, ne_eq, Bool.and_eq_false_imp, beq_iff_eq]
    refine ⟨e, fun e2 => ?_⟩
    rw [hn j w e2 hj]
    decide
theorem mx_lo.st2 {A : Array Slot} {nL i : Nat} {ls : List (Option Value)} {v : Value} {lv : List (Nat × Value)} (h0 : ls.length ≤ nL) (hn : mx_nl ls i) (hlv : (i, v) :: (mx_prs ls).filter (fun q => !(q.1 == i) && (!(q.1 == i + 1) && !(q.1 + 1 == i && q.2.category == 2))) = lv) (h : lv_has A nL lv) : mx_lo A nL ((ls.set i (some v)).set (i + 1) none) := by
  subst hlv
  refine ⟨h.1, h.2.1, by simpa using h0, fun j w hj => ?_⟩
  by_cases e1 : j = i + 1
  · subst e1
    by_cases hl : i + 1 < ls.length
    · rw [List.getElem?_set_self (by simpa using hl)] at hj
      cases hj
    · have := (List.getElem?_eq_some_iff.mp hj).1
      simp at this
      omega
  rw [List.getElem?_set_ne (Ne.symm e1)] at hj
  by_cases e : j = i
  · subst e
    have hl : j < ls.length := by
      have := (List.getElem?_eq_some_iff.mp hj).1
      simpa using this
    rw [List.getElem?_set_self hl] at hj
    cases hj
    exact h.2.2 (j, v) List.mem_cons_self
  · rw [List.getElem?_set_ne (Ne.symm e)] at hj
    refine h.2.2 (j, w) (List.mem_cons_of_mem _ (List.mem_filter.mpr ⟨mx_prs_mem hj, ?_⟩))
    simp only [Bool.and_eq_true, Bool.not_eq_true', beq_eq_false_iff_ne, ne_eq, Bool.and_eq_false_imp, beq_iff_eq]
    refine ⟨e, e1, fun e2 => ?_⟩
    rw [hn j w e2 hj]
    decide
theorem mx_lo.weak {A : Array Slot} {nL : Nat} {ls ls' : List (Option Value)} (h : mx_lo A nL ls) (h0 : ls'.length ≤ ls.length) (hw : ∀ (i : Nat) (v : Value), ls'[i]? = some (some v) → ls[i]? = some (some v)) : mx_lo A nL ls' := ⟨h.1, h.2.1, Nat.le_trans h0 h.2.2.1, fun i v hi => h.2.2.2 i v (hw i v hi)⟩
theorem mx_Nw_ot : ∀ w ∈ mx_NW, w.onTables = true := by
  intro w hw
  simp only [mx_NW, List.mem_cons, List.not_mem_nil, or_false] at hw
  rcases hw with rfl | rfl | rfl | rfl | rfl | rfl | rfl | rfl | rfl | rfl | rfl | rfl | rfl | rfl | rfl | rfl | rfl | rfl | rfl | rfl | rfl | rfl | rfl | rfl | rfl | rfl | rfl | rfl | rfl | rfl | rfl | rfl | rfl | rfl | rfl | rfl | rfl | rfl | rfl | rfl | rfl | rfl | rfl | rfl | rfl | rfl <;> rfl
theorem mx_Ext0 {E : mx_Env} {s : State} {H : Heap} {locs : List Loc} (h : mx_Ext E s H) (hS : va_S (mx_A E) s.heap H locs) (hN : mx_N E ≤ s.heap.size) : vx_Zq Bundle.tN "UNASSIGNED_STACK" Bundle.steD (mx_A E) s s.heap ∧ vx_Zq Bundle.tN "SUPPRESSED_SENTINEL" Bundle.listD (mx_A E) s s.heap :=
  (h.kept (fun q hq => (hS.2.1 q (Nat.lt_of_lt_of_le hq hN) (Nat.not_le.mpr hq)).symm)).2.2.2.2.1
