/-! MAKING, LEAVING, CALLING, THROWING -/
theorem mx_in_ac {ty : FieldType} (i : Nat) (h : lw_tbl[i]? = some (.arrayClass ty)) : Cond.arrayClass ty ∈ mx_W := mx_in i h rfl
section MXK
variable {l : Launch} {E : mx_Env} {M : mx_M} {d k n pc nx : Nat} {ls : List (Option Value)} {st : List Value} {t : Nat} {S : mx_S} {I : mx_I} {P : mx_P} {J : mx_G} {Q : mx_R → mx_H → Prop} {idx c f a : Nat} {k2 n2 : Nat}
theorem mx_new {q : vw_C} (hd : mx_d M pc (.new idx) 3 nx) (hq : mx_cl[c]? = some q) (hw : Cond.classLink (mx_own M) idx q.1 ∈ mx_W) (hk : k2 + 1 ≤ k) (hn : n2 + q.2.2 ≤ n)
    (kk : mx_E l E M d k2 n2 nx ls (.ref t :: st) (t + 1, mx_ups S t (0, c), mx_z I t, mx_zP P t, J) Q) : mx_E l E M d k n pc ls st (t, S, I, P, J) Q := by
  obtain ⟨hd, rfl⟩ := hd
  intro p e R s m args below meth c9 H locs cells slots mc ms A F h1 h2 h3 h4 hP hS hl
  have hok := mx_clOk c _ hq
  have hKn := hP.1.1.1 c _ hq
  have hsz : H.size = t := hP.2.1
  refine W.newcK F.1 F.2.1 F.2.2.2.1 (F.2.2.2.2.1 _ hw) (F.2.2.2.2.1 _ hok.2.2.2.1) (F.2.2.2.2.1 _ hok.2.2.2.2) rfl hd (by omega) (by omega) hKn.2.1 hsz fun H' kC hkC e1 z1 o1 => ?_
  refine kk p e R s m args below meth c9 H' locs (cells + 1) (slots + q.2.2) mc ms A F (by omega) (by omega) h3 h4 (mx_Pic_new hP z1 o1 ⟨_, hq, ?_⟩ (fun _ h => mx_z_ne h) (fun _ h => mx_zP_ne h) (fun _ _ => rfl)) ⟨Nat.le_trans hS.1 (by omega), fun x g1 g2 => (o1 x (by have := hS.1; omega)).trans (hS.2.1 x g1 g2), hS.2.2⟩ hl
  refine (u_born (mx_ty q.2.1) F.2.2.2.2.1 hok.1 hKn hkC e1 hok.2.1).to (fun j hj => ?_)
  rw [mx_clDef c q hq j hj]
  show _ = mx_fv q.2.1 (mx_z I t) (mx_zP P t) t j
  cases hb : mx_isI q.2.1 j <;> simp [mx_fv, hb, mx_z, mx_zP, va_rf]
theorem mx_newI {N : Nat} {x : Int32} (hd : mx_d M pc (.newarray .int) 2 nx) (hw : Cond.arrayClass .int ∈ mx_W) (h0 : ¬ x < 0) (hN : x.toNatClampNeg = N) (hb : N ≤ 65536) (hk : k2 + 1 ≤ k) (hn : n2 + N ≤ n)
    (kk : mx_E l E M d k2 n2 nx ls (.ref t :: st) (t + 1, mx_ups S t (1, N), mx_z I t, P, J) Q) : mx_E l E M d k n pc ls (.int x :: st) (t, S, I, P, J) Q := by
  obtain ⟨hd, rfl⟩ := hd
  intro p e R s m args below meth c9 H locs cells slots mc ms A F h1 h2 h3 h4 hP hS hl
  have hsz : H.size = t := hP.2.1
  refine va_newaK (atype := .int) F.1 F.2.1 (F.2.2.2.2.1 _ hw) rfl hd rfl h0 hN (by show N * 4 ≤ 536870912; omega) (by omega) (by omega) hsz fun H' cA e1 z1 o1 hAr hNm => ?_
  have hcA : cA = mx_ai E 0 := Option.some.inj (hNm.symm.trans (show s.vm.findClass ("[" ++ FieldType.int.toString) = some (mx_ai E 0) from (hP.1.1.2 0 _ rfl).2))
  subst hcA
  refine kk p e R s m args below meth c9 H' locs (cells + 1) (slots + N) mc ms A F (by omega) (by omega) h3 h4 (mx_Pic_new hP z1 o1 ?_ (fun _ h => mx_z_ne h) (fun _ _ => rfl) (fun _ _ => rfl)) ⟨Nat.le_trans hS.1 (by omega), fun x g1 g2 => (o1 x (by have := hS.1; omega)).trans (hS.2.1 x g1 g2), hS.2.2⟩ hl
  show H'[t]? = some (vp_cell _ (N, .inl (mx_z I t t)))
  rw [e1, vp_cell_i]
  simp [mx_z, newarray.typeOf, defaultValue]
theorem mx_newZ {N : Nat} {x : Int32} (hd : mx_d M pc (.newarray .boolean) 2 nx) (hw : Cond.arrayClass .boolean ∈ mx_W) (h0 : ¬ x < 0) (hN : x.toNatClampNeg = N) (hb : N ≤ 65536) (hk : k2 + 1 ≤ k) (hn : n2 + N ≤ n)
    (kk : mx_E l E M d k2 n2 nx ls (.ref t :: st) (t + 1, mx_ups S t (2, N), mx_z I t, P, J) Q) : mx_E l E M d k n pc ls (.int x :: st) (t, S, I, P, J) Q := by
  obtain ⟨hd, rfl⟩ := hd
  intro p e R s m args below meth c9 H locs cells slots mc ms A F h1 h2 h3 h4 hP hS hl
  have hsz : H.size = t := hP.2.1
  refine va_newaK (atype := .boolean) F.1 F.2.1 (F.2.2.2.2.1 _ hw) rfl hd rfl h0 hN (by show N * 1 ≤ 536870912; omega) (by omega) (by omega) hsz fun H' cA e1 z1 o1 hAr hNm => ?_
  have hcA : cA = mx_ai E 1 := Option.some.inj (hNm.symm.trans (show s.vm.findClass ("[" ++ FieldType.boolean.toString) = some (mx_ai E 1) from (hP.1.1.2 1 _ rfl).2))
  subst hcA
  refine kk p e R s m args below meth c9 H' locs (cells + 1) (slots + N) mc ms A F (by omega) (by omega) h3 h4 (mx_Pic_new hP z1 o1 ?_ (fun _ h => mx_z_ne h) (fun _ _ => rfl) (fun _ _ => rfl)) ⟨Nat.le_trans hS.1 (by omega), fun x g1 g2 => (o1 x (by have := hS.1; omega)).trans (hS.2.1 x g1 g2), hS.2.2⟩ hl
  show H'[t]? = some (vp_cell _ (N, .inl (mx_z I t t)))
  rw [e1, vp_cell_i]
  simp [mx_z, newarray.typeOf, defaultValue]
theorem mx_newJ {N : Nat} {x : Int32} (hd : mx_d M pc (.newarray .long) 2 nx) (hw : Cond.arrayClass .long ∈ mx_W) (h0 : ¬ x < 0) (hN : x.toNatClampNeg = N) (hb : N ≤ 65536) (hk : k2 + 1 ≤ k) (hn : n2 + N ≤ n)
    (kk : mx_E l E M d k2 n2 nx ls (.ref t :: st) (t + 1, mx_ups S t (3, N), I, P, mx_zJ J t) Q) : mx_E l E M d k n pc ls (.int x :: st) (t, S, I, P, J) Q := by
  obtain ⟨hd, rfl⟩ := hd
  intro p e R s m args below meth c9 H locs cells slots mc ms A F h1 h2 h3 h4 hP hS hl
  have hsz : H.size = t := hP.2.1
  refine va_newaK (atype := .long) F.1 F.2.1 (F.2.2.2.2.1 _ hw) rfl hd rfl h0 hN (by show N * 8 ≤ 536870912; omega) (by omega) (by omega) hsz fun H' cA e1 z1 o1 hAr hNm => ?_
  have hcA : cA = mx_ai E 2 := Option.some.inj (hNm.symm.trans (show s.vm.findClass ("[" ++ FieldType.long.toString) = some (mx_ai E 2) from (hP.1.1.2 2 _ rfl).2))
  subst hcA
  refine kk p e R s m args below meth c9 H' locs (cells + 1) (slots + N) mc ms A F (by omega) (by omega) h3 h4 (mx_Pic_new hP z1 o1 ?_ (fun _ _ => rfl) (fun _ _ => rfl) (fun _ h => mx_zJ_ne h)) ⟨Nat.le_trans hS.1 (by omega), fun x g1 g2 => (o1 x (by have := hS.1; omega)).trans (hS.2.1 x g1 g2), hS.2.2⟩ hl
  show H'[t]? = some (vp_cell _ (N, .inr (.inl (mx_zJ J t t))))
  rw [e1, vp_cell_l]
  simp [mx_zJ, newarray.typeOf, defaultValue]
theorem mx_newP {N : Nat} {x : Int32} (hd : mx_d M pc (.anewarray idx) 3 nx) (hw : Cond.classLink (mx_own M) idx "VisitingHours$State" ∈ mx_W) (h0 : ¬ x < 0) (hN : x.toNatClampNeg = N) (hb : N ≤ 65536) (hk : k2 + 1 ≤ k) (hn : n2 + N ≤ n)
    (kk : mx_E l E M d k2 n2 nx ls (.ref t :: st) (t + 1, mx_ups S t (4, N), I, mx_zP P t, J) Q) : mx_E l E M d k n pc ls (.int x :: st) (t, S, I, P, J) Q := by
  obtain ⟨hd, rfl⟩ := hd
  intro p e R s m args below meth c9 H locs cells slots mc ms A F h1 h2 h3 h4 hP hS hl
  have hsz : H.size = t := hP.2.1
  subst hN
  refine W.anew F.1 F.2.1 F.2.2.2.1 (F.2.2.2.2.1 _ hw) (va_AO.use hP.1.2.2.2.2.2.2.2) rfl hd rfl h0 (by omega) (by omega) (by omega) fun cA kA comp f1 f2 f3 f4 => ?_
  generalize hH1 : H.push ({ cls := cA, slots := Array.replicate x.toNatClampNeg .null, vm := .none } : Cell) = H1
  have z1 : H1.size = t + 1 := by rw [← hH1, Array.size_push, hsz]
  have e1 : H1[t]? = some (arrV cA x.toNatClampNeg (fun _ => .null)) := by rw [← hsz, ← hH1, Array.getElem?_push_size, ← arrV_new]
  have o1 : ∀ q : Nat, q < t → H1[q]? = H[q]? := fun q hq => by rw [← hH1, Array.getElem?_push, if_neg (by omega)]
  have hcA : cA = mx_ai E 3 := by
    obtain ⟨kA', comp', g1, g2, g3, g4⟩ := (hP.1.1.2 3 _ rfl).2
    exact Option.some.inj (f1.symm.trans g4)
  subst hcA
  show W p l e R s m args below meth c9 H1 locs _ _ _ (F0 m (pc + 3) A (Value.ref (Array.size H) :: st))
  rw [hsz]
  refine kk p e R s m args below meth c9 H1 locs (cells + 1) (slots + x.toNatClampNeg) mc ms A F (by omega) (by omega) h3 h4 (mx_Pic_new hP z1 o1 ?_ (fun _ _ => rfl) (fun _ h => mx_zP_ne h) (fun _ _ => rfl)) ⟨Nat.le_trans hS.1 (by omega), fun x g1 g2 => (o1 x (by have := hS.1; omega)).trans (hS.2.1 x g1 g2), hS.2.2⟩ hl
  show H1[t]? = some (vp_cell _ (x.toNatClampNeg, .inr (.inr (.inr (.inr (mx_zP P t t))))))
  rw [e1, vp_cell_q]
  simp [mx_zP, va_rf]
/-! leaving -/
theorem mx_iret {X : mx_H} {x : Int32} (hd : mx_d M pc .ireturn 1 nx) (hr : mx_rt M = some .int) (hq : Q (.inl (some (.int x))) X) : mx_E l E M d k n pc ls [.int x] X Q := by
  obtain ⟨hd, -⟩ := hd
  intro p e R s m args below meth c9 H locs cells slots mc ms A F h1 h2 h3 h4 hP hS hl
  refine W.widen (k := mc) (n := ms) (by omega) (by omega) (vx_ret (W.iret F.1 F.2.1 (F.2.2.2.2.2.1.trans hr) (fun t ht hW => ⟨⟨_, X, rfl, hq, by rw [ht]; exact hP.2⟩, hS.F ht⟩) (fun q h => hS.2.2 q h) hd F.2.2.2.2.2.2.1))
theorem mx_zret {X : mx_H} {x : Int32} (hd : mx_d M pc .ireturn 1 nx) (hr : mx_rt M = some .boolean) (hx : x = 0 ∨ x = 1) (hq : Q (.inl (some (.int x))) X) : mx_E l E M d k n pc ls [.int x] X Q := by
  obtain ⟨hd, -⟩ := hd
  intro p e R s m args below meth c9 H locs cells slots mc ms A F h1 h2 h3 h4 hP hS hl
  refine W.widen (k := mc) (n := ms) (by omega) (by omega) (vx_ret (W.zret F.1 F.2.1 (F.2.2.2.2.2.1.trans hr) (mx_b01 hx).1 (fun t ht hW => ⟨⟨_, X, rfl, hq, by rw [ht]; exact hP.2⟩, hS.F ht⟩) (fun q h => hS.2.2 q h) hd F.2.2.2.2.2.2.1))
theorem mx_cret {X : mx_H} {x : Int32} (hd : mx_d M pc .ireturn 1 nx) (hr : mx_rt M = some .char) (hx : narrow .char (.int x) = .int x) (hq : Q (.inl (some (.int x))) X) : mx_E l E M d k n pc ls [.int x] X Q := by
  obtain ⟨hd, -⟩ := hd
  intro p e R s m args below meth c9 H locs cells slots mc ms A F h1 h2 h3 h4 hP hS hl
  refine W.widen (k := mc) (n := ms) (by omega) (by omega) (vx_ret (W.zret F.1 F.2.1 (F.2.2.2.2.2.1.trans hr) hx (fun t ht hW => ⟨⟨_, X, rfl, hq, by rw [ht]; exact hP.2⟩, hS.F ht⟩) (fun q h => hS.2.2 q h) hd F.2.2.2.2.2.2.1))
theorem mx_bret {X : mx_H} {x : Int32} (hd : mx_d M pc .ireturn 1 nx) (hr : mx_rt M = some .byte) (hx : narrow .byte (.int x) = .int x) (hq : Q (.inl (some (.int x))) X) : mx_E l E M d k n pc ls [.int x] X Q := by
  obtain ⟨hd, -⟩ := hd
  intro p e R s m args below meth c9 H locs cells slots mc ms A F h1 h2 h3 h4 hP hS hl
  refine W.widen (k := mc) (n := ms) (by omega) (by omega) (vx_ret (W.zret F.1 F.2.1 (F.2.2.2.2.2.1.trans hr) hx (fun t ht hW => ⟨⟨_, X, rfl, hq, by rw [ht]; exact hP.2⟩, hS.F ht⟩) (fun q h => hS.2.2 q h) hd F.2.2.2.2.2.2.1))
theorem mx_lret {X : mx_H} {x : Int64} (hd : mx_d M pc .lreturn 1 nx) (hr : mx_rt M = some .long) (hq : Q (.inl (some (.long x))) X) : mx_E l E M d k n pc ls [.long x] X Q := by
  obtain ⟨hd, -⟩ := hd
  intro p e R s m args below meth c9 H locs cells slots mc ms A F h1 h2 h3 h4 hP hS hl
  refine W.widen (k := mc) (n := ms) (by omega) (by omega) (vx_ret (W.lret F.1 F.2.1 (F.2.2.2.2.2.1.trans hr) (fun t ht hW => ⟨⟨_, X, rfl, hq, by rw [ht]; exact hP.2⟩, hS.F ht⟩) (fun q h => hS.2.2 q h) hd F.2.2.2.2.2.2.1))
theorem mx_vret {X : mx_H} (hd : mx_d M pc .return_ 1 nx) (hr : mx_rt M = none) (hq : Q (.inl none) X) : mx_E l E M d k n pc ls [] X Q := by
  obtain ⟨hd, -⟩ := hd
  intro p e R s m args below meth c9 H locs cells slots mc ms A F h1 h2 h3 h4 hP hS hl
  refine W.widen (k := mc) (n := ms) (by omega) (by omega) (vx_ret (W.vret F.1 F.2.1 (F.2.2.2.2.2.1.trans hr) (fun t ht hW => ⟨⟨_, X, rfl, hq, by rw [ht]; exact hP.2⟩, hS.F ht⟩) (fun q h => hS.2.2 q h) hd F.2.2.2.2.2.2.1))
theorem mx_aret {X : mx_H} {r : Nat} {rt : FieldType} (hd : mx_d M pc .areturn 1 nx) (hr : mx_rt M = some rt) (hrt : (∃ n, rt = .object n) ∨ ∃ t, rt = .array t) (hq : Q (.inl (some (.ref r))) X) : mx_E l E M d k n pc ls [.ref r] X Q := by
  obtain ⟨hd, -⟩ := hd
  intro p e R s m args below meth c9 H locs cells slots mc ms A F h1 h2 h3 h4 hP hS hl
  refine W.widen (k := mc) (n := ms) (by omega) (by omega) (vx_ret (W.aret F.1 F.2.1 (F.2.2.2.2.2.1.trans hr) hrt (Or.inr ⟨r, rfl⟩) (fun t ht hW => ⟨⟨_, X, rfl, hq, by rw [ht]; exact hP.2⟩, hS.F ht⟩) (fun q h => hS.2.2 q h) hd F.2.2.2.2.2.2.1))
/-! a method's contract out of its body -/
theorem mx_C_of {X : mx_H} {as : List Value} {ls0 : List (Option Value)} (hy : plainName (mx_y M).cls = true) (how : mx_own M = (mx_y M).cls) (hh : mx_hh M = []) (ha : (lg_sl as).length ≤ mx_nL M) (h0 : mx_args as (mx_nL M) = ls0) (h : mx_E l E M d k n 0 ls0 [] X Q) : mx_C l E M d k n as X Q := by
  refine vx_ofW (cc := mx_cc M) (maxL := mx_nL M) (ret := mx_rt M) hy rfl ?_
  intro p e s m args below meth c s₁ B hml hex hv
  obtain ⟨rfl, hP⟩ := hv
  have hts := atoms_spec (ws := .code (mx_y M) (mx_cc M) (mx_nL M) (mx_rt M) :: mx_W) B.pre
  have hle := mx_lo_entry ha
  rw [h0] at hle
  rw [lg_entry_eq]
  have hexn : c.exceptionTable.toList = tableOf (mx_hh M) := by
    rw [hh]
    show _ = []
    exact List.eq_nil_iff_forall_not_mem.mpr (fun x hx => hex x hx)
  exact h p e (mx_rm d k n) s m _ below meth c s.heap [] 0 0 k n _ ⟨B.exec, B.bytes, hml, by rw [how]; exact findClass_of_methodNamed B.named, fun w hw => hts w (List.mem_cons_of_mem _ hw), B.returns, B.notSynchronized, hexn, Nat.le_refl _, Nat.le_refl _, (name_of_methodNamed B.named B.method).1, by have := hP.2.1; have := hP.2.2.1; omega⟩ (by omega) (by omega) (Nat.le_refl _) (Nat.le_refl _) hP va_S.rf hle
theorem mx_CW_of {X : mx_H} {as : List Value} {ls0 : List (Option Value)} (hy : plainName (mx_y M).cls = true) (how : mx_own M = (mx_y M).cls) (ha : (lg_sl as).length ≤ mx_nL M) (h0 : mx_args as (mx_nL M) = ls0) (h : mx_E l E M d k n 0 ls0 [] X Q) : mx_CW l E M d k n as X Q := by
  refine vx_ofWH (cc := mx_cc M) (maxL := mx_nL M) (ret := mx_rt M) (hh := mx_hh M) hy rfl ?_
  intro p e s m args below meth c s₁ B hml hv
  obtain ⟨rfl, hP⟩ := hv
  have hts := atoms_spec (ws := .codeWith (mx_y M) (mx_cc M) (mx_nL M) (mx_rt M) (mx_hh M) :: mx_W) B.pre
  have hle := mx_lo_entry ha
  rw [h0] at hle
  rw [lg_entry_eq]
  exact h p e (mx_rm d k n) s m _ below meth c s.heap [] 0 0 k n _ ⟨B.exec, B.bytes, hml, by rw [how]; exact findClass_of_methodNamed B.named, fun w hw => hts w (List.mem_cons_of_mem _ hw), B.returns, B.notSynchronized, vx_table (x := mx_y M) B (hts _ List.mem_cons_self), Nat.le_refl _, Nat.le_refl _, (name_of_methodNamed B.named B.method).1, by have := hP.2.1; have := hP.2.2.1; omega⟩ (by omega) (by omega) (Nat.le_refl _) (Nat.le_refl _) hP va_S.rf hle
/-! calls -/
/-- an exception of class C is thrown over this frame -/
def mx_EX (l : Launch) (E : mx_Env) (M : mx_M) (d k n pc : Nat) (ls : List (Option Value)) (st : List Value) (C : String) (X : mx_H) (Q : mx_R → mx_H → Prop) : Prop :=
  ∀ (p : Program) (e : Env) (R : Room) (s : State) (m : MethodId) (args : Array Value) (below : List Frame) (meth : Method) (c : Code) (H : Heap) (locs : List Loc) (cells slots mc ms : Nat) (A : Array Slot) (q : Addr) (ce : Cell),
    mx_Fr E M d p R s m args meth c → cells + k ≤ mc → slots + n ≤ ms → mc ≤ R.cells → ms ≤ R.slots → mx_Pic E X s H → va_S (mx_A E) s.heap H locs → mx_lo A (mx_nL M) ls → H[q]? = some ce → ce.vm = .none → s.vm.findClass C = some ce.cls →
    vx_W p l e R s m args below meth c H locs cells slots (vx_MQ below (mx_Qc E Q) (mx_XC E Q) args s mc ms (mx_A E)) (F0 m pc A st) q
theorem mx_out {X : mx_H} {C : String} (hh : mx_hh M = []) (hq : Q (.inr C) X) : mx_EX l E M d k n pc ls st C X Q := by
  intro p e R s m args below meth c9 H locs cells slots mc ms A q ce F h1 h2 h3 h4 hP hS hl g1 g2 g3
  refine vx_out (E := C) (by rw [F.2.2.2.2.2.2.2.1, hh]; intro x hx; cases hx) F.2.2.2.2.2.2.1 g1 g2 g3 (fun t ht hv => ⟨⟨X, hq, by rw [ht]; exact hP.2⟩, hS.F ht⟩) (fun z hz => hS.2.2 z hz) (by omega) (by omega)
theorem mx_catch {X : mx_H} {C nm : String} (pre : List (Nat × Nat × Nat × Nat)) (x : Nat × Nat × Nat × Nat) (suf : List (Nat × Nat × Nat × Nat)) (hh : mx_hh M = pre ++ x :: suf) (hx : x.1 ≤ pc ∧ pc < x.2.1) (h0 : x.2.2.2 ≠ 0)
    (hpre : ∀ z ∈ pre, z.2.2.2 ≠ 0 ∧ ∃ nm, Cond.classLink (mx_own M) z.2.2.2 nm ∈ mx_W ∧ (C, nm) ∈ mx_nc) (hlink : Cond.classLink (mx_own M) x.2.2.2 nm ∈ mx_W) (hcast : Cond.castable C nm ∈ mx_NW)
    (kk : ∀ q, mx_E l E M d k n x.2.2.1 ls [.ref q] X Q) : mx_EX l E M d k n pc ls st C X Q := by
  intro p e R s m args below meth c9 H locs cells slots mc ms A q ce F h1 h2 h3 h4 hP hS hl g1 g2 g3
  refine vx_catch (E := C) (name := nm) F.2.2.2.1 (tableOf pre) ⟨x.1, x.2.1, x.2.2.1, x.2.2.2⟩ (tableOf suf) (by rw [F.2.2.2.2.2.2.2.1, hh]; simp [tableOf]) ?_ ?_ h0 (F.2.2.2.2.1 _ hlink) (va_Nw.use rfl (hP.1.2.1 _ hcast)) g1 g2 g3 (kk q p e R s m args below meth c9 H locs cells slots mc ms A F h1 h2 h3 h4 hP hS hl)
  · intro z hz
    obtain ⟨w, hw, rfl⟩ := List.mem_map.mp hz
    obtain ⟨e1, nm9, e2, e3⟩ := hpre w hw
    exact Or.inr ⟨e1, nm9, F.2.2.2.2.1 _ e2, hP.1.2.2.2.1 _ e3⟩
  · simp [covers, hx.1, hx.2]
theorem mx_after {Q' : mx_R → mx_H → Prop} {X : mx_H} {st0 : List Value} {k' n' : Nat} {av : Array Value} (hk : k' + k2 ≤ k) (hn : n' + n2 ≤ n)
    (kk : ∀ v X', Q' (.inl v) X' → mx_E l E M d k2 n2 (pc + 3) ls (v.toList ++ st) X' Q) (kx : ∀ C X', Q' (.inr C) X' → mx_EX l E M d k2 n2 pc ls st C X' Q)
    {p : Program} {e : Env} {R : Room} {s : State} {m : MethodId} {args : Array Value} {below : List Frame} {meth : Method} {c : Code} {H : Heap} {locs : List Loc} {cells slots mc ms : Nat} {A : Array Slot}
    (F : mx_Fr E M d p R s m args meth c) (h1 : cells + k ≤ mc) (h2 : slots + n ≤ ms) (h3 : mc ≤ R.cells) (h4 : ms ≤ R.slots) (hP : mx_Pic E X s H) (hS : va_S (mx_A E) s.heap H locs) (hl : mx_lo A (mx_nL M) ls)
    (hr : vx_Run p l e R s m args below meth c H locs cells slots k' n' (F0 m pc A st0) st (mx_Qc E Q' av) (mx_XC E Q') (mx_A E)) : W p l e R s m args below meth c H locs cells slots (vx_MQ below (mx_Qc E Q) (mx_XC E Q) args s mc ms (mx_A E)) (F0 m pc A st0) := by
  intro T hT Z
  have hNH : mx_N E ≤ H.size := by rw [hP.2.1]; exact hP.2.2.1
  rcases hr T hT Z with ⟨v, st₀, t, T', L, e0, Z', hL, e1, e2, ⟨⟨v', X', ev, hq, hob⟩, hF⟩, stp⟩ | ⟨q, st₀, t, T', L, C, ce, e0, Z', hL, e1, e2, ⟨⟨X', hq, hob⟩, hF⟩, hce, hcv, hcl, stp⟩
  · cases ev
    obtain ⟨g1, g2, g3⟩ := vx_keep e0 e1 hS (fun _ _ h => h) (fun _ h => h) hL hF
    obtain ⟨t2, a1, b1⟩ := kk v X' hq p e R s m args below meth c T'.heap (locs ++ L) (cells + k') (slots + n') mc ms A F (by omega) (by omega) h3 h4 ⟨hP.1.kept (fun q hq => g2 q (by omega) (Nat.not_le.mpr hq)), by rw [e1]; exact hob⟩ g3 hl T' rfl Z'
    exact ⟨t2, stp t2 a1, b1⟩
  · obtain ⟨g1, g2, g3⟩ := vx_keep e0 e1 hS (fun _ _ h => h) (fun _ h => h) hL hF
    obtain ⟨t2, a1, b1⟩ := kx C X' hq p e R s m args below meth c T'.heap (locs ++ L) (cells + k') (slots + n') mc ms A q ce F (by omega) (by omega) h3 h4 ⟨hP.1.kept (fun q hq => g2 q (by omega) (Nat.not_le.mpr hq)), by rw [e1]; exact hob⟩ g3 hl (by rw [e1]; exact hce) hcv hcl T' rfl Z'
    exact ⟨t2, stp.trans a1, b1⟩
theorem mx_good1 {ws : List Cond} (h : ∀ w ∈ ws, w ∈ mx_W) : GoodIn mx_W ws := fun w hw => ⟨h w hw, good_of_word (mx_W_good w (h w hw))⟩
theorem mx_blind {as : List Value} {X : mx_H} : FrameBlind (va_Pc as (fun U => mx_Pic E X U U.heap)) := by
  rintro a U g mk ⟨rfl, h1, h2⟩
  exact ⟨rfl, h1.warm (s := U) (U := U.calling g mk as.toArray) (State.WarmedH.refl U), h2⟩
theorem mx_recv {X : mx_H} {U : State} {H : Heap} {q : vw_C} (hP : mx_Pic E X U H) (hs : X.2.1 a = some (0, c)) (hq : mx_cl[c]? = some q) : ∃ cellB : Cell, H[a]? = some cellB ∧ cellB.vm.isStatics = false ∧ U.vm.findClass q.1 = some cellB.cls := by
  obtain ⟨g1, q', hq', cell, q1, q2, q3, q4⟩ := hP.2.2.2 a _ hs
  have hq' : mx_cl[c]? = some q' := hq'
  cases hq.symm.trans hq'
  exact ⟨cell, q1, by rw [q3]; rfl, by rw [q2]; exact (hP.1.1.1 c _ hq).2.1⟩
variable {M' : mx_M} {d' k' n' ar : Nat} {as st0 : List Value} {X : mx_H} {Q' : mx_R → mx_H → Prop}
theorem mx_callV {q : vw_C} (hd : mx_d M pc (.invokevirtual idx) 3 nx) (hc : mx_C l E M' d' k' n' (.ref a :: as) X Q') (hM : mx_okM M' ar) (hw : Cond.methodLink (mx_own M) idx (mx_y M') ∈ mx_W ∧ Cond.instanceMethod (mx_y M') ∈ mx_W ∧ Cond.selects (mx_y M').cls (mx_y M') (mx_y M') ∈ mx_W)
    (hs : X.2.1 a = some (0, c)) (hq : mx_cl[c]? = some q ∧ q.1 = (mx_y M').cls) (hst : st0 = as.reverse ++ .ref a :: st) (har : as.length = ar) (hcat : (st.map fun v => v.category).sum ≤ 8) (hdd : d' + 1 ≤ d) (hk : k' + k2 ≤ k) (hn : n' + n2 ≤ n)
    (kk : ∀ v X', Q' (.inl v) X' → mx_E l E M d k2 n2 nx ls (v.toList ++ st) X' Q) (kx : ∀ C X', Q' (.inr C) X' → mx_EX l E M d k2 n2 pc ls st C X' Q) : mx_E l E M d k n pc ls st0 X Q := by
  obtain ⟨hd, rfl⟩ := hd
  intro p e R s m args below meth c9 H locs cells slots mc ms A F h1 h2 h3 h4 hP hS hl
  obtain ⟨m1, m2, m3, m4, m5⟩ := hM
  have f1 := F.2.2.2.2.2.2.2.2.1
  have f2 := F.2.2.2.2.2.2.2.2.2.1
  refine mx_after hk hn kk kx F h1 h2 h3 h4 hP hS hl (vx_runV ⟨F.1, F.2.1, F.2.2.1, F.2.2.2.1, F.2.2.2.2.1⟩ hc (cwV (C := q.1) ar F.2.2.2.2.1 (mx_good1 ?_) rfl rfl rfl ⟨hq.2.symm, m3.1, m3.2, m4⟩ ⟨?_, ?_⟩) ⟨mx_blind, ?_, ?_⟩ rfl har hl.1 hst (lv_room hcat) hd ⟨by omega, by omega⟩)
  · intro w hw'
    simp only [wsV, List.cons_append, List.nil_append, List.mem_cons] at hw'
    rcases hw' with rfl | rfl | rfl | rfl | rfl | h
    · exact hw.1
    · exact hw.2.1
    · rw [hq.2]; exact hw.2.2
    · rw [hq.2]; exact m2
    · exact m1
    · exact h
  · show d' + 1 ≤ R.frames; omega
  · show 8 + (mx_nL M' + 11) + 42 * d' ≤ R.locals; omega
  · exact mx_recv hP hs hq.1
  · exact fun U hU hW => ⟨rfl, by rw [hU]; exact hP.1.warm hW, by rw [hU]; exact hP.2⟩
theorem mx_callVN {q : vw_C} {host : String} (hd : mx_d M pc (.invokevirtual idx) 3 nx) (hc : mx_C l E M' d' k' n' (.ref a :: as) X Q') (hM : mx_okM M' ar) (hw : Cond.methodLinkNest (mx_own M) idx (mx_y M') host ∈ mx_NW ∧ Cond.instanceMethod (mx_y M') ∈ mx_W ∧ Cond.selects (mx_y M').cls (mx_y M') (mx_y M') ∈ mx_W)
    (hs : X.2.1 a = some (0, c)) (hq : mx_cl[c]? = some q ∧ q.1 = (mx_y M').cls) (hst : st0 = as.reverse ++ .ref a :: st) (har : as.length = ar) (hcat : (st.map fun v => v.category).sum ≤ 8) (hdd : d' + 1 ≤ d) (hk : k' + k2 ≤ k) (hn : n' + n2 ≤ n)
    (kk : ∀ v X', Q' (.inl v) X' → mx_E l E M d k2 n2 nx ls (v.toList ++ st) X' Q) (kx : ∀ C X', Q' (.inr C) X' → mx_EX l E M d k2 n2 pc ls st C X' Q) : mx_E l E M d k n pc ls st0 X Q := by
  obtain ⟨hd, rfl⟩ := hd
  intro p e R s m args below meth c9 H locs cells slots mc ms A F h1 h2 h3 h4 hP hS hl
  obtain ⟨m1, m2, m3, m4, m5⟩ := hM
  have f1 := F.2.2.2.2.2.2.2.2.1
  have f2 := F.2.2.2.2.2.2.2.2.2.1
  refine mx_after hk hn kk kx F h1 h2 h3 h4 hP hS hl (vx_runVN (C := q.1) ⟨F.1, F.2.1, F.2.2.1, F.2.2.2.1, F.2.2.2.2.1⟩ hc ⟨va_cnB ar F.2.2.2.2.1 (mx_good1 ?_) rfl rfl rfl (hP.1.2.1 _ hw.1) (F.2.2.2.2.1 _ m2) ⟨m3.1, m3.2, m4⟩ ⟨?_, ?_⟩, F.2.2.2.2.1 _ hw.2.1, by rw [hq.2]; exact F.2.2.2.2.1 _ hw.2.2⟩ ⟨mx_blind, ?_, ?_⟩ rfl har hl.1 hst (lv_room hcat) hd ⟨by omega, by omega⟩)
  · intro w hw'
    rcases List.mem_cons.mp hw' with rfl | h
    · exact m1
    · exact h
  · show d' + 1 ≤ R.frames; omega
  · show 8 + (mx_nL M' + 11) + 42 * d' ≤ R.locals; omega
  · exact mx_recv hP hs hq.1
  · exact fun U hU hW => ⟨rfl, by rw [hU]; exact hP.1.warm hW, by rw [hU]; exact hP.2⟩
theorem mx_callSN {host : String} (hd : mx_d M pc (.invokestatic idx) 3 nx) (hc : mx_C l E M' d' k' n' as X Q') (hM : mx_okM M' ar) (hw : Cond.methodLinkNest (mx_own M) idx (mx_y M') host ∈ mx_NW ∧ Cond.static (mx_y M') ∈ mx_W)
    (hst : st0 = as.reverse ++ st) (har : as.length = ar) (hcat : (st.map fun v => v.category).sum ≤ 8) (hdd : d' + 1 ≤ d) (hk : k' + k2 ≤ k) (hn : n' + n2 ≤ n)
    (kk : ∀ v X', Q' (.inl v) X' → mx_E l E M d k2 n2 nx ls (v.toList ++ st) X' Q) (kx : ∀ C X', Q' (.inr C) X' → mx_EX l E M d k2 n2 pc ls st C X' Q) : mx_E l E M d k n pc ls st0 X Q := by
  obtain ⟨hd, rfl⟩ := hd
  intro p e R s m args below meth c9 H locs cells slots mc ms A F h1 h2 h3 h4 hP hS hl
  obtain ⟨m1, m2, m3, m4, m5⟩ := hM
  have f1 := F.2.2.2.2.2.2.2.2.1
  have f2 := F.2.2.2.2.2.2.2.2.2.1
  refine mx_after hk hn kk kx F h1 h2 h3 h4 hP hS hl (vx_runSN ⟨F.1, F.2.1, F.2.2.1, F.2.2.2.1, F.2.2.2.2.1⟩ hc ⟨va_cnB ar F.2.2.2.2.1 (mx_good1 ?_) rfl rfl rfl (hP.1.2.1 _ hw.1) (F.2.2.2.2.1 _ m2) ⟨m3.1, m3.2, m4⟩ ⟨?_, ?_⟩, F.2.2.2.2.1 _ hw.2, trivial⟩ ⟨mx_blind, ?_⟩ rfl har hl.1 hst (lv_room hcat) hd ⟨by omega, by omega⟩)
  · intro w hw'
    rcases List.mem_cons.mp hw' with rfl | h
    · exact m1
    · exact h
  · show d' + 1 ≤ R.frames; omega
  · show 8 + (mx_nL M' + 11) + 42 * d' ≤ R.locals; omega
  · exact fun U hU hW => ⟨rfl, by rw [hU]; exact hP.1.warm hW, by rw [hU]; exact hP.2⟩
theorem mx_callS (hd : mx_d M pc (.invokestatic idx) 3 nx) (hc : mx_C l E M' d' k' n' as X Q') (hM : mx_okM M' ar) (hw : Cond.methodLink (mx_own M) idx (mx_y M') ∈ mx_W ∧ Cond.static (mx_y M') ∈ mx_W)
    (hst : st0 = as.reverse ++ st) (har : as.length = ar) (hcat : (st.map fun v => v.category).sum ≤ 8) (hdd : d' + 1 ≤ d) (hk : k' + k2 ≤ k) (hn : n' + n2 ≤ n)
    (kk : ∀ v X', Q' (.inl v) X' → mx_E l E M d k2 n2 nx ls (v.toList ++ st) X' Q) (kx : ∀ C X', Q' (.inr C) X' → mx_EX l E M d k2 n2 pc ls st C X' Q) : mx_E l E M d k n pc ls st0 X Q := by
  obtain ⟨hd, rfl⟩ := hd
  intro p e R s m args below meth c9 H locs cells slots mc ms A F h1 h2 h3 h4 hP hS hl
  obtain ⟨m1, m2, m3, m4, m5⟩ := hM
  have f1 := F.2.2.2.2.2.2.2.2.1
  have f2 := F.2.2.2.2.2.2.2.2.2.1
  have hcb : CallB R s args (mx_own M) idx (mx_y M') (mx_cc M') (mx_nL M') (mx_rt M') (.code (mx_y M') (mx_cc M') (mx_nL M') (mx_rt M') :: mx_W) (mx_rm d' k' n') k' n' ar := by
    refine callB_of ar F.2.2.2.2.1 (mx_good1 ?_) rfl rfl rfl (F.2.2.2.2.1 _ m2) (F.2.2.2.2.1 _ hw.1) ⟨m3.1, m3.2, m4⟩ ⟨?_, ?_⟩
    · intro w hw'
      rcases List.mem_cons.mp hw' with rfl | h
      · exact m1
      · exact h
    · show d' + 1 ≤ R.frames; omega
    · show 8 + (mx_nL M' + 11) + 42 * d' ≤ R.locals; omega
  exact mx_after hk hn kk kx F h1 h2 h3 h4 hP hS hl (vx_runS ⟨F.1, F.2.1, F.2.2.1, F.2.2.2.1, F.2.2.2.2.1⟩ hc ⟨hcb, F.2.2.2.2.1 _ hw.2⟩ ⟨mx_blind, fun U hU hW => ⟨rfl, by rw [hU]; exact hP.1.warm hW, by rw [hU]; exact hP.2⟩⟩ rfl har hl.1 hst (lv_room hcat) hd ⟨by omega, by omega⟩)
theorem mx_callI (hd : mx_d M pc (.invokespecial idx) 3 nx) (hc : mx_C l E M' d' k' n' (.ref a :: as) X Q') (hM : mx_okM M' ar) (hrt : mx_rt M' = none) (hnm : (mx_y M').name = "<init>") (hw : Cond.methodLink (mx_own M) idx (mx_y M') ∈ mx_W ∧ Cond.instanceMethod (mx_y M') ∈ mx_W)
    (hst : st0 = as.reverse ++ .ref a :: st) (har : as.length = ar) (hcat : (st.map fun v => v.category).sum ≤ 8) (hdd : d' + 1 ≤ d) (hk : k' + k2 ≤ k) (hn : n' + n2 ≤ n)
    (kk : ∀ v X', Q' (.inl v) X' → mx_E l E M d k2 n2 nx ls (v.toList ++ st) X' Q) (kx : ∀ C X', Q' (.inr C) X' → mx_EX l E M d k2 n2 pc ls st C X' Q) : mx_E l E M d k n pc ls st0 X Q := by
  obtain ⟨hd, rfl⟩ := hd
  intro p e R s m args below meth c9 H locs cells slots mc ms A F h1 h2 h3 h4 hP hS hl
  obtain ⟨m1, m2, m3, m4, m5⟩ := hM
  have f1 := F.2.2.2.2.2.2.2.2.1
  have f2 := F.2.2.2.2.2.2.2.2.2.1
  unfold mx_C at hc
  rw [hrt] at hc m1
  have hcb : CallB R s args (mx_own M) idx (mx_y M') (mx_cc M') (mx_nL M') none (.code (mx_y M') (mx_cc M') (mx_nL M') none :: mx_W) (mx_rm d' k' n') k' n' ar := by
    refine callB_of ar F.2.2.2.2.1 (mx_good1 ?_) rfl rfl rfl (F.2.2.2.2.1 _ m2) (F.2.2.2.2.1 _ hw.1) ⟨m3.1, m3.2, m4⟩ ⟨?_, ?_⟩
    · intro w hw'
      rcases List.mem_cons.mp hw' with rfl | h
      · exact m1
      · exact h
    · show d' + 1 ≤ R.frames; omega
    · show 8 + (mx_nL M' + 11) + 42 * d' ≤ R.locals; omega
  exact mx_after hk hn kk kx F h1 h2 h3 h4 hP hS hl (vx_runI ⟨F.1, F.2.1, F.2.2.1, F.2.2.2.1, F.2.2.2.2.1⟩ hc ⟨hcb, hnm, F.2.2.2.2.1 _ hw.2⟩ ⟨mx_blind, fun U hU hW => ⟨rfl, by rw [hU]; exact hP.1.warm hW, by rw [hU]; exact hP.2⟩⟩ rfl har hl.1 hst (lv_room hcat) hd ⟨by omega, by omega⟩)
theorem mx_callIN {host : String} (hd : mx_d M pc (.invokespecial idx) 3 nx) (hc : mx_C l E M' d' k' n' (.ref a :: as) X Q') (hM : mx_okM M' ar) (hrt : mx_rt M' = none) (hnm : (mx_y M').name = "<init>") (hw : Cond.methodLinkNest (mx_own M) idx (mx_y M') host ∈ mx_NW ∧ Cond.instanceMethod (mx_y M') ∈ mx_W)
    (hst : st0 = as.reverse ++ .ref a :: st) (har : as.length = ar) (hcat : (st.map fun v => v.category).sum ≤ 8) (hdd : d' + 1 ≤ d) (hk : k' + k2 ≤ k) (hn : n' + n2 ≤ n)
    (kk : ∀ v X', Q' (.inl v) X' → mx_E l E M d k2 n2 nx ls (v.toList ++ st) X' Q) (kx : ∀ C X', Q' (.inr C) X' → mx_EX l E M d k2 n2 pc ls st C X' Q) : mx_E l E M d k n pc ls st0 X Q := by
  obtain ⟨hd, rfl⟩ := hd
  intro p e R s m args below meth c9 H locs cells slots mc ms A F h1 h2 h3 h4 hP hS hl
  obtain ⟨m1, m2, m3, m4, m5⟩ := hM
  have f1 := F.2.2.2.2.2.2.2.2.1
  have f2 := F.2.2.2.2.2.2.2.2.2.1
  unfold mx_C at hc
  rw [hrt] at hc m1
  refine mx_after hk hn kk kx F h1 h2 h3 h4 hP hS hl (vx_runIN ⟨F.1, F.2.1, F.2.2.1, F.2.2.2.1, F.2.2.2.2.1⟩ hc ⟨va_cnB ar F.2.2.2.2.1 (mx_good1 ?_) rfl rfl rfl (hP.1.2.1 _ hw.1) (F.2.2.2.2.1 _ m2) ⟨m3.1, m3.2, m4⟩ ⟨?_, ?_⟩, hnm, F.2.2.2.2.1 _ hw.2⟩ ⟨mx_blind, fun U hU hW => ⟨rfl, by rw [hU]; exact hP.1.warm hW, by rw [hU]; exact hP.2⟩⟩ rfl har hl.1 hst (lv_room hcat) hd ⟨by omega, by omega⟩)
  · intro w hw'
    rcases List.mem_cons.mp hw' with rfl | h
    · exact m1
    · exact h
  · show d' + 1 ≤ R.frames; omega
  · show 8 + (mx_nL M' + 11) + 42 * d' ≤ R.locals; omega
theorem mx_callSW (hd : mx_d M pc (.invokestatic idx) 3 nx) (hc : mx_CW l E M' d' k' n' as X Q') (hM : mx_okW M' ar) (hw : Cond.methodLink (mx_own M) idx (mx_y M') ∈ mx_W ∧ Cond.static (mx_y M') ∈ mx_W)
    (hst : st0 = as.reverse ++ st) (har : as.length = ar) (hcat : (st.map fun v => v.category).sum ≤ 8) (hdd : d' + 1 ≤ d) (hk : k' + k2 ≤ k) (hn : n' + n2 ≤ n)
    (kk : ∀ v X', Q' (.inl v) X' → mx_E l E M d k2 n2 nx ls (v.toList ++ st) X' Q) (kx : ∀ C X', Q' (.inr C) X' → mx_EX l E M d k2 n2 pc ls st C X' Q) : mx_E l E M d k n pc ls st0 X Q := by
  obtain ⟨hd, rfl⟩ := hd
  intro p e R s m args below meth c9 H locs cells slots mc ms A F h1 h2 h3 h4 hP hS hl
  obtain ⟨m1, m2, m3, m4, m5⟩ := hM
  have f1 := F.2.2.2.2.2.2.2.2.1
  have f2 := F.2.2.2.2.2.2.2.2.2.1
  have hcb : vx_CSW R s args (mx_own M) idx (mx_y M') (mx_cc M') (mx_nL M') (mx_rt M') (mx_hh M') (.codeWith (mx_y M') (mx_cc M') (mx_nL M') (mx_rt M') (mx_hh M') :: mx_W) (mx_rm d' k' n') k' n' ar := by
    refine vx_cwSW ar F.2.2.2.2.1 (mx_good1 ?_) rfl rfl rfl ⟨m3.1, m3.2, m4⟩ ⟨?_, ?_⟩
    · intro w hw'
      simp only [va_wsS, List.cons_append, List.nil_append, List.mem_cons] at hw'
      rcases hw' with rfl | rfl | rfl | rfl | h
      · exact hw.1
      · exact hw.2
      · exact m2
      · exact m1
      · exact h
    · show d' + 1 ≤ R.frames; omega
    · show 8 + (mx_nL M' + 11) + 42 * d' ≤ R.locals; omega
  exact mx_after hk hn kk kx F h1 h2 h3 h4 hP hS hl (vx_runSX ⟨F.1, F.2.1, F.2.2.1, F.2.2.2.1, F.2.2.2.2.1⟩ hc hcb ⟨mx_blind, fun U hU hW => ⟨rfl, by rw [hU]; exact hP.1.warm hW, by rw [hU]; exact hP.2⟩⟩ rfl har hl.1 hst (lv_room hcat) hd ⟨by omega, by omega⟩)
theorem mx_objInit (hd : mx_d M pc (.invokespecial idx) 3 nx) (hw : Cond.methodLink (mx_own M) idx Lib.objectInit ∈ mx_W ∧ Cond.instanceMethod Lib.objectInit ∈ mx_W ∧ Cond.code Lib.objectInit ⟨#[0xb1]⟩ 1 none ∈ mx_W) (h1d : 1 ≤ d) (hcat : (st.map fun v => v.category).sum ≤ 8)
    (kk : mx_E l E M d k n nx ls st X Q) : mx_E l E M d k n pc ls (.ref a :: st) X Q := by
  obtain ⟨hd, rfl⟩ := hd
  intro p e R s m args below meth c9 H locs cells slots mc ms A F h1 h2 h3 h4 hP hS hl
  have f1 := F.2.2.2.2.2.2.2.2.1
  have f2 := F.2.2.2.2.2.2.2.2.2.1
  exact W.objInit F.1 F.2.1 F.2.2.2.1 (F.2.2.2.2.1 _ hw.1) (F.2.2.2.2.1 _ hw.2.1) (F.2.2.2.2.1 _ hw.2.2) rfl (hl.1.trans F.2.2.1.symm) rfl hd (by omega) (by show 2 * 0 + _ + 12 ≤ _; omega) (kk p e R s m args below meth c9 H locs cells slots mc ms A F h1 h2 h3 h4 hP hS hl)
theorem mx_ldcS {i : Nat} {own tx : String} (hd : mx_d M pc (.ldc idx) 2 nx) (ho : mx_own M = own) (hi : mx_st[i]? = some (own, idx, tx)) (kk : mx_E l E M d k n nx ls (.ref (mx_aK E i) :: st) X Q) : mx_E l E M d k n pc ls st X Q := by
  obtain ⟨hd, rfl⟩ := hd
  subst ho
  intro p e R s m args below meth c9 H locs cells slots mc ms A F h1 h2 h3 h4 hP hS hl
  exact va_ldcS F.1 F.2.1 F.2.2.2.1 (hP.1.2.2.2.2.2.1.2 i _ hi) hd (kk p e R s m args below meth c9 H locs cells slots mc ms A F h1 h2 h3 h4 hP hS hl)
/-! throwing -/
def mx_nms : List String := ["java/lang/RuntimeException", "java/lang/Exception"]
def mx_th (own : String) (ik ic : Nat) (cls : String) : Prop := Cond.classLink own ik cls ∈ mx_W ∧ Cond.initialized cls ∈ mx_W ∧ (∀ w ∈ vx_atS own ic cls mx_nms, w ∈ mx_W ∨ w ∈ mx_NW) ∧ (∀ w ∈ Cond.classLink own ik cls :: Cond.initialized cls :: vx_atS own ic cls mx_nms, vx_ot w = true) ∧ Bundle.fit cls = true
theorem mx_throwX {cls : String} {U : State} {s : State} {H : Heap} {locs : List Loc} {X : mx_H} (hP : mx_Pic E X s H) (hS : va_S (mx_A E) s.heap H locs) (hq : ∀ t', X.1 ≤ t' → Q (.inr cls) (t', X.2)) (h1 : H.size ≤ U.heap.size) (h2 : ∀ q : Nat, q < H.size → U.heap[q]? = H[q]?) : mx_XC E Q cls s U := by
  refine ⟨⟨(U.heap.size, X.2), hq _ (by rw [← hP.2.1]; exact h1), rfl, Nat.le_trans (by rw [hP.2.1]; exact hP.2.2.1) h1, fun b sh hb => ?_⟩, Nat.le_trans hS.1 h1, fun q hq1 hq2 => ?_⟩
  · obtain ⟨g1, g2⟩ := hP.2.2.2 b sh hb
    exact ⟨g1, mx_at_congr (h2 b (mx_at_lt g2)) rfl rfl rfl g2⟩
  · rw [h2 q (Nat.lt_of_lt_of_le hq1 hS.1)]
    exact hS.2.1 q hq1 hq2
theorem mx_throw {cls own tx : String} {ik is ic i : Nat} {n0 n3 n4 n6 n9 : Nat} (htr : l.stackTraces = false) (ho : mx_own M = own) (hth : mx_th own ik ic cls) (hi : mx_st[i]? = some (own, is, tx)) (hh : mx_hh M = [])
    (d0 : mx_d M pc (.new ik) 3 n0) (d3 : mx_d M (pc + 3) .dup 1 n3) (d4 : mx_d M (pc + 4) (.ldc is) 2 n4) (d6 : mx_d M (pc + 6) (.invokespecial ic) 3 n6) (d9 : mx_d M (pc + 9) .athrow 1 n9)
    (h6 : 6 ≤ d) (hk : 1 ≤ k) (hn : 6 ≤ n) (hcat : (st.map fun v => v.category).sum ≤ 8) (hq : ∀ t', X.1 ≤ t' → Q (.inr cls) (t', X.2)) : mx_E l E M d k n pc ls st X Q := by
  subst ho
  intro p e R s m args below meth c9 H locs cells slots mc ms A F h1 h2 h3 h4 hP hS hl
  have f1 := F.2.2.2.2.2.2.2.2.1
  have f2 := F.2.2.2.2.2.2.2.2.2.1
  obtain ⟨t1, t2, t3, t4, t5⟩ := hth
  exact vx_throwS F.1 F.2.1 htr (names := mx_nms) (A := mx_A E) F.2.2.2.1 t5 (by decide +kernel) (F.2.2.2.2.1 _ t1) (F.2.2.2.2.1 _ t2) (hP.1.2.2.2.2.2.1.2 i _ hi) (fun w hw => (t3 w hw).elim (F.2.2.2.2.1 w) (fun z => va_Nw.use (by have := t4 w (List.mem_cons_of_mem _ (List.mem_cons_of_mem _ hw)); exact (mx_Nw_ot w z)) (hP.1.2.1 w z))) t4
    (mx_Ext0 hP.1 hS F.2.2.2.2.2.2.2.2.2.2.2).1 (mx_Ext0 hP.1 hS F.2.2.2.2.2.2.2.2.2.2.2).2 hS (hl.1.trans F.2.2.1.symm) d0.1 d3.1 d4.1 d6.1 d9.1 (by rw [F.2.2.2.2.2.2.2.1, hh]; intro x hx; cases hx) (by show 2 + 3 < R.frames; omega) (by show _ + (13 * (2 + 1) + 43) ≤ R.locals; omega) (by omega) (by omega) F.2.2.2.2.2.2.1
    (fun U hv g1 g2 => mx_throwX hP hS hq g1 g2) (fun z hz => hS.2.2 z hz) (by omega) (by omega)
theorem mx_throwW {cls own tx : String} {ik is ic i : Nat} {n0 n3 n4 n6 n9 : Nat} (htr : l.stackTraces = false) (ho : mx_own M = own) (hth : mx_th own ik ic cls) (hi : mx_st[i]? = some (own, is, tx)) (hh : mx_hh M = [])
    (d0 : mx_d M pc (.new ik) 3 n0) (d3 : mx_d M (pc + 3) .dup 1 n3) (d4 : mx_d M (pc + 4) (.ldc_w is) 3 n4) (d7 : mx_d M (pc + 7) (.invokespecial ic) 3 n6) (d10 : mx_d M (pc + 10) .athrow 1 n9)
    (h6 : 6 ≤ d) (hk : 1 ≤ k) (hn : 6 ≤ n) (hcat : (st.map fun v => v.category).sum ≤ 8) (hq : ∀ t', X.1 ≤ t' → Q (.inr cls) (t', X.2)) : mx_E l E M d k n pc ls st X Q := by
  subst ho
  intro p e R s m args below meth c9 H locs cells slots mc ms A F h1 h2 h3 h4 hP hS hl
  have f1 := F.2.2.2.2.2.2.2.2.1
  have f2 := F.2.2.2.2.2.2.2.2.2.1
  obtain ⟨t1, t2, t3, t4, t5⟩ := hth
  exact vx_throwSW F.1 F.2.1 htr (names := mx_nms) (A := mx_A E) F.2.2.2.1 t5 (by decide +kernel) (F.2.2.2.2.1 _ t1) (F.2.2.2.2.1 _ t2) (hP.1.2.2.2.2.2.1.2 i _ hi) (fun w hw => (t3 w hw).elim (F.2.2.2.2.1 w) (fun z => va_Nw.use (mx_Nw_ot w z) (hP.1.2.1 w z))) t4
    (mx_Ext0 hP.1 hS F.2.2.2.2.2.2.2.2.2.2.2).1 (mx_Ext0 hP.1 hS F.2.2.2.2.2.2.2.2.2.2.2).2 hS (hl.1.trans F.2.2.1.symm) d0.1 d3.1 d4.1 d7.1 d10.1 (by rw [F.2.2.2.2.2.2.2.1, hh]; intro x hx; cases hx) (by show 2 + 3 < R.frames; omega) (by show _ + (13 * (2 + 1) + 43) ≤ R.locals; omega) (by omega) (by omega) F.2.2.2.2.2.2.1
    (fun U hv g1 g2 => mx_throwX hP hS hq g1 g2) (fun z hz => hS.2.2 z hz) (by omega) (by omega)
end MXK
