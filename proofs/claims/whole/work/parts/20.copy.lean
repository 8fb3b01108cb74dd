/-! A ROW COPIED -/
def vs_cp (I : mx_I) (a b L : Nat) : mx_I := fun c k => if c = b ∧ k < L then I a k else I c k
theorem cpw_1 : Cond.methodLink "VisitingHours" 493 arraycopyName ∈ mx_W := mx_in 689 (by decide +kernel) rfl
theorem cpw_2 : Cond.static arraycopyName ∈ mx_W := mx_in 690 (by decide +kernel) rfl
theorem cpw_3 : Cond.native arraycopyName ∈ mx_W := mx_in 691 (by decide +kernel) rfl
theorem cpw_4 : Cond.initialized "java/lang/System" ∈ mx_W := mx_in 142 (by decide +kernel) rfl
section L20
variable {l : Launch} {E : mx_Env} {M : mx_M} {d k n pc nx : Nat} {ls : List (Option Value)} {st : List Value} {Q : mx_R → mx_H → Prop} {t : Nat} {S : mx_S} {I : mx_I} {P : mx_P} {J : mx_G} {a b L : Nat}
theorem mx_copyI (ho : mx_own M = "VisitingHours") (hd : mx_d M pc (.invokestatic 493) 3 nx) (hs0 : S a = some (1, L)) (hs1 : S b = some (1, L)) (hL : L < 2 ^ 31) (h1d : 1 ≤ d) (hcat : (st.map fun v => v.category).sum ≤ 8)
    (kk : mx_E l E M d k n nx ls st (t, S, vs_cp I a b L, P, J) Q) : mx_E l E M d k n pc ls (.int (nI L) :: .int (nI 0) :: .ref b :: .int (nI 0) :: .ref a :: st) (t, S, I, P, J) Q := by
  obtain ⟨hd, rfl⟩ := hd
  intro p e R s m args below meth c H locs cells slots mc ms A F h1 h2 h3 h4 hP hS hl
  obtain ⟨g1, c0⟩ := hP.2.2.2 a _ hs0
  obtain ⟨g2, c1⟩ := hP.2.2.2 b _ hs1
  have f1 := F.2.2.2.2.2.2.2.2.1
  have f2 := F.2.2.2.2.2.2.2.2.2.1
  have hc0 : H[a]? = some (vp_cell (mx_ai E 0) (L, .inl (I a))) := c0
  have hc1 : H[b]? = some (vp_cell (mx_ai E 0) (L, .inl (I b))) := c1
  have own : s.vm.findClass "VisitingHours" = some m.cls := ho ▸ F.2.2.2.1
  have z0 : (nI 0).toNatClampNeg = 0 := nI_clamp (by omega)
  have zL : (nI L).toNatClampNeg = L := nI_clamp hL
  have hv : ∀ f : Nat → Int32, _ := fun f => (hP.1.1.2 0 (mx_ai E 0, .int) rfl).1 L (fun j => .int (f j))
  intro T hT Z
  obtain ⟨-, ka, a1, a2, a3⟩ := hv (I a)
  obtain ⟨-, kb, b1, b2, b3⟩ := hv (I b)
  have sz : ∀ f : Nat → Int32, (vp_cell (mx_ai E 0) (L, .inl f)).slots.size = L := fun f => arrV_size ..
  have i0 : (nI 0).toInt = 0 := by decide
  have iL : (nI L).toInt = L := nI_toInt hL
  obtain ⟨vm1, Z1, stp⟩ := Z.arraycopy F.1 own (F.2.2.2.2.1 _ cpw_1) (F.2.2.2.2.1 _ cpw_3) (F.2.2.2.2.1 _ cpw_2) (F.2.2.2.2.1 _ cpw_4) (src := a) (dst := b) (srcPos := nI 0) (destPos := nI 0) (n := nI L) (hT ▸ hc0) (hT ▸ hc1)
    (by intro _ h; cases h) (by intro _ h; cases h) (by intro h; cases h) (by intro h; cases h) a1 b1 a3 b3 (by simp [refKind]) (by decide) (by decide) (nI_pos (by omega))
    (by rw [arrV_size, i0, iL]; omega) (by rw [arrV_size, i0, iL]; omega) (fun vm _ i hi => by
      rw [zL] at hi
      have e : ((arrV (mx_ai E 0) L fun j => Value.int (I a j)).slots.getD ((nI 0).toNatClampNeg + i) Value.null) = .int (I a i) := by
        rw [z0, Nat.zero_add, Array.getD_eq_getD_getElem?, arrV_read _ _ hi]; rfl
      show fits _ ((arrV (mx_ai E 0) L fun j => Value.int (I a j)).slots.getD ((nI 0).toNatClampNeg + i) Value.null) = true ∧ _
      refine ⟨by rw [e]; rfl, ?_⟩
      show (T.setVm vm).takes b2 ((arrV (mx_ai E 0) L fun j => Value.int (I a j)).slots.getD ((nI 0).toNatClampNeg + i) Value.null)
      rw [e]; exact trivial)
    (g := F0 m pc A (.int (nI L) :: .int (nI 0) :: .ref b :: .int (nI 0) :: .ref a :: st)) rfl (by rw [F.2.2.1]; exact hl.1) (rest := st) rfl (by rw [F.2.1]; exact hd) (by omega)
    (by
      have w : nativeFrameWords "java/lang/System" "arraycopy" 5 ≤ 20 := by decide
      show 2 * 0 + _ + _ ≤ _
      omega)
  have e1 : copied (arrV (mx_ai E 0) L fun j => Value.int (I a j)) (arrV (mx_ai E 0) L fun j => Value.int (I b j)) (nI 0) (nI 0) (nI L) = vp_cell (mx_ai E 0) (L, .inl (vs_cp I a b L b)) := by
    have h := va_copied (fun z => Value.int z) (mx_ai E 0) (mx_ai E 0) (n0 := L) (n1 := L) (sp := (nI 0).toNatClampNeg) (dp := (nI 0).toNatClampNeg) (n := (nI L).toNatClampNeg) (I a) (I b) (by rw [z0, zL]; omega)
    refine h.trans ?_
    rw [z0, zL]
    rw [vp_cell_i]
    congr 1
    funext k
    congr 1
    simp [va_cpy, vs_cp]
  have e2 : copied (arrV (mx_ai E 0, FieldType.int).fst L fun j => Value.int (I a j)) (arrV (mx_ai E 0, FieldType.int).fst L fun j => Value.int (I b j)) (nI 0) (nI 0) (nI L) = vp_cell (mx_ai E 0) (L, .inl (vs_cp I a b L b)) := e1
  rw [e2] at Z1 stp
  have lt : b < H.size := (Array.getElem?_eq_some_iff.mp hc1).1
  have oq : ∀ q : Nat, q ≠ b → (H.setIfInBounds b (vp_cell (mx_ai E 0) (L, .inl (vs_cp I a b L b))))[q]? = H[q]? := fun q hq => by simp [Array.getElem?_setIfInBounds, Ne.symm hq]
  have hh : ((T.setVm vm1).setCell b (vp_cell (mx_ai E 0) (L, .inl (vs_cp I a b L b)))).heap = H.setIfInBounds b (vp_cell (mx_ai E 0) (L, .inl (vs_cp I a b L b))) := by rw [← hT]; rfl
  obtain ⟨t', q1, q2⟩ := kk p e R s m args below meth c _ _ cells slots mc ms A F h1 h2 h3 h4 (mx_Pic_upd hP hs1 (by simp) oq (by show (H.setIfInBounds b _)[b]? = _; simp [Array.getElem?_setIfInBounds, lt]) (fun q hq => by funext k; simp [vs_cp, hq]) (fun _ _ => rfl) (fun _ _ => rfl))
    ⟨by simp; exact hS.1, fun q u1 u2 => by rw [oq q (fun e => u2 (by rw [e]; exact g2))]; exact hS.2.1 q u1 u2, fun q hq => by
      rcases List.mem_append.mp hq with u | u
      · exact hS.2.2 q u
      · obtain ⟨y, -, hy⟩ := List.mem_map.mp u
        rw [← hy]; exact g2⟩ hl _ hh Z1
  exact ⟨t', stp t' q1, q2⟩
end L20
