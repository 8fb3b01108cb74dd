/-! METHODS, INSTRUCTIONS, FIELDS: the words for them -/
abbrev mx_M : Type := String × MethodName × ByteArray × Nat × Option FieldType × List (Nat × Nat × Nat × Nat)
def mx_own (M : mx_M) : String := M.1
def mx_y (M : mx_M) : MethodName := M.2.1
def mx_cc (M : mx_M) : ByteArray := M.2.2.1
def mx_nL (M : mx_M) : Nat := M.2.2.2.1
def mx_rt (M : mx_M) : Option FieldType := M.2.2.2.2.1
def mx_hh (M : mx_M) : List (Nat × Nat × Nat × Nat) := M.2.2.2.2.2
/-- an instruction of M, and where the next one is -/
def mx_d (M : mx_M) (pc : Nat) (i : Instr) (len nx : Nat) : Prop := decode (mx_cc M) pc = .ok (i, len) ∧ nx = pc + len
def mx_dt (b : ByteArray) (L : List (Nat × Instr × Nat)) : Bool := L.all (fun q => decide (decode b q.1 = .ok (q.2.1, q.2.2)))
theorem mx_dg {M : mx_M} {L : List (Nat × Instr × Nat)} (h : mx_dt (mx_cc M) L = true) (j : Nat) {pc : Nat} {i : Instr} {len nx : Nat} (hj : L[j]? = some (pc, i, len)) (hn : nx = pc + len) : mx_d M pc i len nx := by
  unfold mx_dt at h
  rw [List.all_eq_true] at h
  have h1 := h (pc, i, len) (List.mem_of_getElem? hj)
  simp only [decide_eq_true_eq] at h1
  exact ⟨h1, hn⟩
/-- a field's entry in a class's pool: class number c of the list, field f; a whole number or a reference; final; its type -/
def mx_fl (own : String) (idx c f : Nat) (b fin : Bool) (ty : FieldType) : Prop := ∃ q : vw_C, mx_cl[c]? = some q ∧ f < q.2.2 ∧ Cond.fieldLink own idx (q.2.1 f).1 (q.2.1 f).2.1 (q.2.1 f).2.2.1 ∈ mx_W ∧ mx_isI q.2.1 f = b ∧ (q.2.1 f).2.2.2 = fin ∧ parseFieldDescriptor (q.2.1 f).2.2.1 = some ty
/-- what a caller needs to know of a method -/
def mx_okM (M : mx_M) (ar : Nat) : Prop := Cond.code (mx_y M) (mx_cc M) (mx_nL M) (mx_rt M) ∈ mx_W ∧ Cond.initialized (mx_y M).cls ∈ mx_W ∧ ((mx_y M).cls ≠ "java/lang/invoke/MethodHandle" ∧ (mx_y M).cls ≠ "java/lang/invoke/VarHandle") ∧ (parseMethodDescriptor (mx_y M).desc).map (fun d => d.parameters.length) = some ar ∧ mx_nL M ≤ 23
def mx_okW (M : mx_M) (ar : Nat) : Prop := Cond.codeWith (mx_y M) (mx_cc M) (mx_nL M) (mx_rt M) (mx_hh M) ∈ mx_W ∧ Cond.initialized (mx_y M).cls ∈ mx_W ∧ ((mx_y M).cls ≠ "java/lang/invoke/MethodHandle" ∧ (mx_y M).cls ≠ "java/lang/invoke/VarHandle") ∧ (parseMethodDescriptor (mx_y M).desc).map (fun d => d.parameters.length) = some ar ∧ mx_nL M ≤ 23
