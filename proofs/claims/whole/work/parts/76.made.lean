/-! A LAW IS MADE -/
section BI76
variable {l : Launch} {E : mx_Env} {M M' : mx_M} {d k n pc nx d' k' n' k2 n2 idx : Nat} {ls : List (Option Value)} {st : List Value} {Q : mx_R → mx_H → Prop} {t : Nat} {S : mx_S} {I : mx_I} {P : mx_P} {J : mx_G} {a b L c : Nat} {X X1 : mx_H}
theorem mx_copyF {L0 : Nat} (ho : mx_own M = "VisitingHours") (hd : mx_d M pc (.invokestatic 493) 3 nx) (hs0 : S a = some (1, L0)) (hL0 : L ≤ L0) (hs1 : S b = some (1, L)) (hL : L < 2 ^ 31) (h1d : 1 ≤ d) (hcat : (st.map fun v => v.category).sum ≤ 8)
    (kk : mx_E l E M d k n nx ls st (t, S, vs_cp I a b L, P, J) Q) : mx_E l E M d k n pc ls (.int (nI L) :: .int (nI 0) :: .ref b :: .int (nI 0) :: .ref a :: st) (t, S, I, P, J) Q := by
  obtain ⟨hd, rfl⟩ := hd
  intro p e R s m args below meth c H locs cells slots mc ms A F h1 h2 h3 h4 hP hS hl
  obtain ⟨g1, c0⟩ := hP.2.2.2 a _ hs0
  obtain ⟨g2, c1⟩ := hP.2.2.2 b _ hs1
  have f1 := F.2.2.2.2.2.2.2.2.1
  have f2 := F.2.2.2.2.2.2.2.2.2.1
  have hc0 : H[a]? = some (vp_cell (mx_ai E 0) (L0, .inl (I a))) := c0
  have hc1 : H[b]? = some (vp_cell (mx_ai E 0) (L, .inl (I b))) := c1
  have own : s.vm.findClass "VisitingHours" = some m.cls := ho ▸ F.2.2.2.1
  have z0 : (nI 0).toNatClampNeg = 0 := nI_clamp (by omega)
  have zL : (nI L).toNatClampNeg = L := nI_clamp hL
  have hv0 : ∀ f : Nat → Int32, _ := fun f => (hP.1.1.2 0 (mx_ai E 0, .int) rfl).1 L0 (fun j => .int (f j))
  have hv : ∀ f : Nat → Int32, _ := fun f => (hP.1.1.2 0 (mx_ai E 0, .int) rfl).1 L (fun j => .int (f j))
  intro T hT Z
  obtain ⟨-, ka, a1, a2, a3⟩ := hv0 (I a)
  obtain ⟨-, kb, b1, b2, b3⟩ := hv (I b)
  have sz : ∀ f : Nat → Int32, (vp_cell (mx_ai E 0) (L, .inl f)).slots.size = L := fun f => arrV_size ..
  have i0 : (nI 0).toInt = 0 := by decide
  have iL : (nI L).toInt = L := nI_toInt hL
  obtain ⟨vm1, Z1, stp⟩ := Z.arraycopy F.1 own (F.2.2.2.2.1 _ cpw_1) (F.2.2.2.2.1 _ cpw_3) (F.2.2.2.2.1 _ cpw_2) (F.2.2.2.2.1 _ cpw_4) (src := a) (dst := b) (srcPos := nI 0) (destPos := nI 0) (n := nI L) (hT ▸ hc0) (hT ▸ hc1)
    (by intro _ h; cases h) (by intro _ h; cases h) (by intro h; cases h) (by intro h; cases h) a1 b1 a3 b3 (by simp [refKind]) (by decide) (by decide) (nI_pos (by omega))
    (by rw [arrV_size, i0, iL]; omega) (by rw [arrV_size, i0, iL]; omega) (fun vm _ i hi => by
      rw [zL] at hi
      have e : ((arrV (mx_ai E 0) L0 fun j => Value.int (I a j)).slots.getD ((nI 0).toNatClampNeg + i) Value.null) = .int (I a i) := by
        rw [z0, Nat.zero_add, Array.getD_eq_getD_getElem?, arrV_read _ _ (Nat.lt_of_lt_of_le hi hL0)]; rfl
      show fits _ ((arrV (mx_ai E 0) L0 fun j => Value.int (I a j)).slots.getD ((nI 0).toNatClampNeg + i) Value.null) = true ∧ _
      refine ⟨by rw [e]; rfl, ?_⟩
      show (T.setVm vm).takes b2 ((arrV (mx_ai E 0) L0 fun j => Value.int (I a j)).slots.getD ((nI 0).toNatClampNeg + i) Value.null)
      rw [e]; exact trivial)
    (g := F0 m pc A (.int (nI L) :: .int (nI 0) :: .ref b :: .int (nI 0) :: .ref a :: st)) rfl (by rw [F.2.2.1]; exact hl.1) (rest := st) rfl (by rw [F.2.1]; exact hd) (by omega)
    (by
      have w : nativeFrameWords "java/lang/System" "arraycopy" 5 ≤ 20 := by decide
      show 2 * 0 + _ + _ ≤ _
      omega)
  have e1 : copied (arrV (mx_ai E 0) L0 fun j => Value.int (I a j)) (arrV (mx_ai E 0) L fun j => Value.int (I b j)) (nI 0) (nI 0) (nI L) = vp_cell (mx_ai E 0) (L, .inl (vs_cp I a b L b)) := by
    have h := va_copied (fun z => Value.int z) (mx_ai E 0) (mx_ai E 0) (n0 := L0) (n1 := L) (sp := (nI 0).toNatClampNeg) (dp := (nI 0).toNatClampNeg) (n := (nI L).toNatClampNeg) (I a) (I b) (by rw [z0, zL]; omega)
    refine h.trans ?_
    rw [z0, zL]
    rw [vp_cell_i]
    congr 1
    funext k
    congr 1
    simp [va_cpy, vs_cp]
  have e2 : copied (arrV (mx_ai E 0, FieldType.int).fst L0 fun j => Value.int (I a j)) (arrV (mx_ai E 0, FieldType.int).fst L fun j => Value.int (I b j)) (nI 0) (nI 0) (nI L) = vp_cell (mx_ai E 0) (L, .inl (vs_cp I a b L b)) := e1
  rw [e2] at Z1 stp
  have lt : b < H.size := (Array.getElem?_eq_some_iff.mp hc1).1
  have oq : ∀ q : Nat, q ≠ b → (H.setIfInBounds b (vp_cell (mx_ai E 0) (L, .inl (vs_cp I a b L b))))[q]? = H[q]? := fun q hq => by simp [Array.getElem?_setIfInBounds, Ne.symm hq]
  have hh : ((T.setVm vm1).setCell b (vp_cell (mx_ai E 0) (L, .inl (vs_cp I a b L b)))).heap = H.setIfInBounds b (vp_cell (mx_ai E 0) (L, .inl (vs_cp I a b L b))) := by rw [← hT]; rfl
  obtain ⟨t', q1, q2⟩ := kk p e R s m args below meth c _ _ cells slots mc ms A F h1 h2 h3 h4 (mx_Pic_upd hP hs1 (by simp) oq (by show (H.setIfInBounds b _)[b]? = _; simp [Array.getElem?_setIfInBounds, lt]) (fun q hq => by funext k; simp [vs_cp, hq]) (fun _ _ => rfl) (fun _ _ => rfl))
    ⟨by simp; exact hS.1, fun q u1 u2 => by rw [oq q (fun e => u2 (by rw [e]; exact g2))]; exact hS.2.1 q u1 u2, fun q hq => by
      rcases List.mem_append.mp hq with u | u
      · exact hS.2.2 q u
      · obtain ⟨y, -, hy⟩ := List.mem_map.mp u
        rw [← hy]; exact g2⟩ hl _ hh Z1
  exact ⟨t', stp t' q1, q2⟩
theorem mx_kSN2r {v0 v1 : Value} {v : Nat} {host : String} (hd : mx_d M pc (.invokestatic idx) 3 nx) (hc : mx_C l E M' d' k' n' [v0, v1] X (mx_rr v X1)) (hM : mx_okM M' 2) (hw : Cond.methodLinkNest (mx_own M) idx (mx_y M') host ∈ mx_NW ∧ Cond.static (mx_y M') ∈ mx_W) (hdd : d' + 1 ≤ d) (hcat : (st.map fun v => v.category).sum ≤ 8) (hk : k' + k2 ≤ k) (hn : n' + n2 ≤ n) (kk : mx_E l E M d k2 n2 nx ls (.ref v :: st) X1 Q) : mx_E l E M d k n pc ls (v1 :: v0 :: st) X Q :=
  mx_callSN (k2 := k2) (n2 := n2) hd hc hM hw rfl rfl hcat hdd hk hn (fun w X9 h => by obtain ⟨h1, rfl⟩ := h; cases h1; exact kk) (fun C X9 h => by cases h.1)
theorem mx_kI5v {v0 v1 v2 v3 v4 : Value} (hd : mx_d M pc (.invokespecial idx) 3 nx) (hc : mx_C l E M' d' k' n' [.ref a, v0, v1, v2, v3, v4] X (mx_rv X1)) (hM : mx_okM M' 5) (hrt : mx_rt M' = none) (hnm : (mx_y M').name = "<init>") (hw : Cond.methodLink (mx_own M) idx (mx_y M') ∈ mx_W ∧ Cond.instanceMethod (mx_y M') ∈ mx_W) (hdd : d' + 1 ≤ d) (hcat : (st.map fun v => v.category).sum ≤ 8) (hk : k' + k2 ≤ k) (hn : n' + n2 ≤ n) (kk : mx_E l E M d k2 n2 nx ls st X1 Q) : mx_E l E M d k n pc ls (v4 :: v3 :: v2 :: v1 :: v0 :: .ref a :: st) X Q :=
  mx_callI (k2 := k2) (n2 := n2) hd hc hM hrt hnm hw rfl rfl hcat hdd hk hn (fun w X9 h => by obtain ⟨h1, rfl⟩ := h; cases h1; exact kk) (fun C X9 h => by cases h.1)
theorem nI_nn {N : Nat} (h : N < 2 ^ 31) : ¬ nI N < 0 := by
  rw [Int32.lt_iff_toInt_lt, nI_toInt h]; show ¬ ((N : Int) < 0); omega
theorem c_copyF {L0 : Nat} (hs0 : S a = some (1, L0)) (hs1 : S b = some (1, L)) (hL0 : L ≤ L0) (hL : L0 < 65536) : mx_C l E M_Vh_copy 1 0 0 [.ref (a), .ref (b)] (t, S, I, P, J) (mx_rv (t, S, vs_cp I a b L, P, J)) := by
  refine mx_C_of (ls0 := [some (.ref (a)), some (.ref (b))]) (by decide +kernel) rfl rfl (Nat.le_of_ble_eq_true rfl) rfl ?_
  refine mx_al0 d_Vh_copy_0 ?_
  refine mx_ifnull d_Vh_copy_1 ?_
  refine mx_al1 d_Vh_copy_4 ?_
  refine mx_ifnull d_Vh_copy_5 ?_
  refine mx_al0 d_Vh_copy_8 ?_
  refine mx_in_0 d_Vh_copy_9 ?_
  refine mx_al1 d_Vh_copy_10 ?_
  refine mx_in_0 d_Vh_copy_11 ?_
  refine mx_al0 d_Vh_copy_12 ?_
  refine mx_alen d_Vh_copy_13 hs0 ?_
  refine mx_al1 d_Vh_copy_14 ?_
  refine mx_alen d_Vh_copy_15 hs1 ?_
  refine mx_mminN d_Vh_copy_16 ml_Vh_488 (by decide) (Nat.le_of_ble_eq_true rfl) (by omega) (by omega) ?_
  refine mx_ti (y := nI L) (congrArg nI (by omega)) ?_
  refine mx_copyF rfl d_Vh_copy_19 hs0 hL0 hs1 (by omega) (by decide) (Nat.le_of_ble_eq_true rfl) ?_
  exact mx_vret d_Vh_copy_22 rfl (mx_rv_of rfl)
theorem c_firstOf (hs : S a = some (1, L)) (hcL : c ≤ L) (hL : L ≤ 400) (hat : a ≠ t)  : mx_C l E M_Vh_firstOf 2 1 c [.ref (a), .int (nI (c))] (t, S, I, P, J) (mx_rr t (t + 1, mx_ups S t (1, c), vs_cp (mx_z I t) a t c, P, J)) := by
  refine mx_C_of (ls0 := [some (.ref (a)), some (.int (nI (c))), none]) (by decide +kernel) rfl rfl (Nat.le_of_ble_eq_true rfl) rfl ?_
  refine mx_al0 d_Vh_firstOf_0 ?_
  refine mx_ifnonnull 8 d_Vh_firstOf_1 (by decide) ?_
  refine mx_in_0 d_Vh_firstOf_8 ?_
  refine mx_il1 d_Vh_firstOf_9 ?_
  refine mx_al0 d_Vh_firstOf_10 ?_
  refine mx_alen d_Vh_firstOf_11 (by assumption) ?_
  refine mx_mminN d_Vh_firstOf_12 ml_Vh_488 (by decide) (Nat.le_of_ble_eq_true rfl) (by omega) (by omega) ?_
  refine mx_mmaxN d_Vh_firstOf_15 ml_Vh_499 (by decide) (Nat.le_of_ble_eq_true rfl) (by omega) (by omega) ?_
  refine mx_ti (y := nI (c)) ((congrArg nI (by omega))) ?_
  refine mx_newI (N := c) (k2 := 0) (n2 := 0) d_Vh_firstOf_18 ac_int (nI_nn (by omega)) (nI_clamp (by omega)) (by omega) (by omega) (by omega) ?_
  have hs2 : mx_ups S t (1, c) t = some (1, c) := by simp [mx_ups]
  have hs3 : mx_ups S t (1, c) a = some (1, L) := by simp [mx_ups, hat, hs]
  refine mx_as2 d_Vh_firstOf_20 ?_
  refine mx_al0 d_Vh_firstOf_21 ?_
  refine mx_al2 d_Vh_firstOf_22 ?_
  refine mx_cS2v d_Vh_firstOf_23 (c_copyF hs3 hs2 hcL (by omega)) ok_Vh_copy ml_Vh_502 (by decide) (Nat.le_of_ble_eq_true rfl) ?_
  refine mx_al2 d_Vh_firstOf_26 ?_
  exact mx_aret d_Vh_firstOf_27 rfl (by first | exact Or.inl ⟨_, rfl⟩ | exact Or.inr ⟨_, rfl⟩) (⟨rfl, rfl⟩)
theorem c_La_init {r1 r2 r3 r4 : Nat} {v : Int32} (hs : S a = some (0, 3)) (hat : a ≠ t)  : mx_C l E M_La_init 2 1 64 [.ref (a), .int (v), .ref (r1), .ref (r2), .ref (r3), .ref (r4)] (t, S, I, P, J) (mx_rv (t + 1, mx_ups S t (1, 64), mx_up (mx_z I t) a 0 v, (mx_upP (mx_upP (mx_upP (mx_upP (mx_upP P (a) 5 (some (t))) (a) 1 (some (r1))) (a) 2 (some (r2))) (a) 3 (some (r3))) (a) 4 (some (r4))), J)) := by
  refine mx_C_of (ls0 := [some (.ref (a)), some (.int (v)), some (.ref (r1)), some (.ref (r2)), some (.ref (r3)), some (.ref (r4))]) (by decide +kernel) rfl rfl (Nat.le_of_ble_eq_true rfl) rfl ?_
  refine mx_al0 d_La_init_0 ?_
  refine mx_objInit d_La_init_1 oi_La_3 (by decide) (Nat.le_of_ble_eq_true rfl) ?_
  refine mx_al0 d_La_init_4 ?_
  refine mx_bip 64 d_La_init_5 (by decide) ?_
  refine mx_newI (N := 64) (k2 := 0) (n2 := 0) d_La_init_7 ac_int (nI_nn (by omega)) (nI_clamp (by omega)) (by omega) (by omega) (by omega) ?_
  have hs2 : mx_ups S t (1, 64) a = some (0, 3) := by simp [mx_ups, hat, hs]
  refine mx_putRF d_La_init_9 fl_La_9 rfl (fun q h => by cases h; rfl) (by assumption) rfl rfl ?_
  refine mx_al0 d_La_init_12 ?_
  refine mx_il1 d_La_init_13 ?_
  refine mx_putIF d_La_init_14 fl_La_15 rfl (fun q h => by cases h; rfl) (by assumption) ?_
  refine mx_al0 d_La_init_17 ?_
  refine mx_al2 d_La_init_18 ?_
  refine mx_putRF d_La_init_19 fl_La_19 rfl (fun q h => by cases h; rfl) (by assumption) rfl rfl ?_
  refine mx_al0 d_La_init_22 ?_
  refine mx_al3 d_La_init_23 ?_
  refine mx_putRF d_La_init_24 fl_La_22 rfl (fun q h => by cases h; rfl) (by assumption) rfl rfl ?_
  refine mx_al0 d_La_init_27 ?_
  refine mx_al4 d_La_init_28 ?_
  refine mx_putRF d_La_init_30 fl_La_25 rfl (fun q h => by cases h; rfl) (by assumption) rfl rfl ?_
  refine mx_al0 d_La_init_33 ?_
  refine mx_al5 d_La_init_34 ?_
  refine mx_putRF d_La_init_36 fl_La_28 rfl (fun q h => by cases h; rfl) (by assumption) rfl rfl ?_
  exact mx_vret d_La_init_39 rfl (mx_rv_of (by rfl))
theorem cp_ne {q : Nat} (h : ¬ q = b) : vs_cp I a b L q = I q := by funext k; simp [vs_cp, h]
theorem c_Lr_written {lr te n z : Nat} (hLr : lr_ok S P lr te) (hn : I lr 1 = nI n) (hz : I lr 6 = nI z) (hn12 : n ≤ 12) (hz4 : z ≤ 400) (hlt : lr + 4 < t)  : mx_C l E M_Lr_written 3 6 (6 + 3 * n + z + 64) [.ref (lr)] (t, S, I, P, J) (mx_rr t (t + 6, (mx_ups (mx_ups (mx_ups (mx_ups (mx_ups (mx_ups S t (0, 3)) (t + 1) (1, n)) (t + 2) (1, n)) (t + 3) (1, n)) (t + 4) (1, z)) (t + 5) (1, 64)), (mx_up (mx_z (vs_cp (mx_z (vs_cp (mx_z (vs_cp (mx_z (vs_cp (mx_z (mx_z I t) (t + 1)) (lr + 1) (t + 1) n) (t + 2)) (lr + 2) (t + 2) n) (t + 3)) (lr + 3) (t + 3) n) (t + 4)) (lr + 4) (t + 4) z) (t + 5)) t 0 (nI n)), (mx_upP (mx_upP (mx_upP (mx_upP (mx_upP (mx_zP P t) t 5 (some (t + 5))) t 1 (some (t + 1))) t 2 (some (t + 2))) t 3 (some (t + 3))) t 4 (some (t + 4))), J)) := by
  obtain ⟨hL0, hLp0, hLp1, hLp2, hLp3, hLp4, hS1, hS2, hS3, hS4, hLte⟩ := id hLr
  refine mx_C_of (ls0 := [some (.ref (lr))]) (by decide +kernel) rfl rfl (Nat.le_of_ble_eq_true rfl) rfl ?_
  refine mx_new (c := 3) (k2 := 5) (n2 := 3 * n + z + 64) d_Lr_written_0 rfl cl_Lr_28 (by omega) (by show _ + 6 ≤ _; omega) ?_
  have hw1 : (mx_ups S t (0, 3)) lr = some (0, 10) := by simp only [mx_ups]; rw [if_neg (show ¬ lr = t by omega)]; exact hL0
  have hq1 : (mx_ups S t (0, 3)) (lr + 1) = some (1, 12) := by simp only [mx_ups]; rw [if_neg (show ¬ lr + 1 = t by omega)]; exact hS1
  have hp1 : (mx_zP P t) lr 2 = some (lr + 1) := by rw [mx_zP_ne (by omega)]; exact hLp1
  have hp2 : (mx_zP P t) lr 3 = some (lr + 2) := by rw [mx_zP_ne (by omega)]; exact hLp2
  have hp3 : (mx_zP P t) lr 4 = some (lr + 3) := by rw [mx_zP_ne (by omega)]; exact hLp3
  have hp4 : (mx_zP P t) lr 5 = some (lr + 4) := by rw [mx_zP_ne (by omega)]; exact hLp4
  refine mx_dup d_Lr_written_3 rfl ?_
  refine mx_al0 d_Lr_written_4 ?_
  refine mx_getI d_Lr_written_5 fl_Lr_30 (by assumption) ?_
  refine mx_ti (y := nI (n)) ((by rw [mx_z_ne (show ¬ lr = t by omega)]; exact hn)) ?_
  refine mx_al0 d_Lr_written_8 ?_
  refine mx_getR d_Lr_written_9 fl_Lr_9 (by assumption) (by assumption) ?_
  refine mx_al0 d_Lr_written_12 ?_
  refine mx_getI d_Lr_written_13 fl_Lr_30 (by assumption) ?_
  refine mx_ti (y := nI (n)) ((by rw [mx_z_ne (show ¬ lr = t by omega)]; exact hn)) ?_
  refine mx_kSN2r (k2 := 4) (n2 := 2 * n + z + 64) d_Lr_written_16 (c_firstOf (S := (mx_ups S t (0, 3))) (t := t + 1) (c := n) hq1 (by omega) (by omega) (by omega)) ok_Vh_firstOf ml_Lr_34 (by decide) (Nat.le_of_ble_eq_true rfl) (by omega) (by omega) ?_
  have hw2 : (mx_ups (mx_ups S t (0, 3)) (t + 1) (1, n)) lr = some (0, 10) := by simp only [mx_ups]; rw [if_neg (show ¬ lr = t + 1 by omega), if_neg (show ¬ lr = t by omega)]; exact hL0
  have hq2 : (mx_ups (mx_ups S t (0, 3)) (t + 1) (1, n)) (lr + 2) = some (1, 12) := by simp only [mx_ups]; rw [if_neg (show ¬ lr + 2 = t + 1 by omega), if_neg (show ¬ lr + 2 = t by omega)]; exact hS2
  refine mx_al0 d_Lr_written_19 ?_
  refine mx_getR d_Lr_written_20 fl_Lr_15 (by assumption) (by assumption) ?_
  refine mx_al0 d_Lr_written_23 ?_
  refine mx_getI d_Lr_written_24 fl_Lr_30 (by assumption) ?_
  refine mx_ti (y := nI (n)) ((by rw [cp_ne (show ¬ lr = t + 1 by omega), mx_z_ne (show ¬ lr = t + 1 by omega), mx_z_ne (show ¬ lr = t by omega)]; exact hn)) ?_
  refine mx_kSN2r (k2 := 3) (n2 := n + z + 64) d_Lr_written_27 (c_firstOf (S := (mx_ups (mx_ups S t (0, 3)) (t + 1) (1, n))) (t := t + 2) (c := n) hq2 (by omega) (by omega) (by omega)) ok_Vh_firstOf ml_Lr_34 (by decide) (Nat.le_of_ble_eq_true rfl) (by omega) (by omega) ?_
  have hw3 : (mx_ups (mx_ups (mx_ups S t (0, 3)) (t + 1) (1, n)) (t + 2) (1, n)) lr = some (0, 10) := by simp only [mx_ups]; rw [if_neg (show ¬ lr = t + 2 by omega), if_neg (show ¬ lr = t + 1 by omega), if_neg (show ¬ lr = t by omega)]; exact hL0
  have hq3 : (mx_ups (mx_ups (mx_ups S t (0, 3)) (t + 1) (1, n)) (t + 2) (1, n)) (lr + 3) = some (1, 12) := by simp only [mx_ups]; rw [if_neg (show ¬ lr + 3 = t + 2 by omega), if_neg (show ¬ lr + 3 = t + 1 by omega), if_neg (show ¬ lr + 3 = t by omega)]; exact hS3
  refine mx_al0 d_Lr_written_30 ?_
  refine mx_getR d_Lr_written_31 fl_Lr_18 (by assumption) (by assumption) ?_
  refine mx_al0 d_Lr_written_34 ?_
  refine mx_getI d_Lr_written_35 fl_Lr_30 (by assumption) ?_
  refine mx_ti (y := nI (n)) ((by rw [cp_ne (show ¬ lr = t + 2 by omega), mx_z_ne (show ¬ lr = t + 2 by omega), cp_ne (show ¬ lr = t + 1 by omega), mx_z_ne (show ¬ lr = t + 1 by omega), mx_z_ne (show ¬ lr = t by omega)]; exact hn)) ?_
  refine mx_kSN2r (k2 := 2) (n2 := z + 64) d_Lr_written_38 (c_firstOf (S := (mx_ups (mx_ups (mx_ups S t (0, 3)) (t + 1) (1, n)) (t + 2) (1, n))) (t := t + 3) (c := n) hq3 (by omega) (by omega) (by omega)) ok_Vh_firstOf ml_Lr_34 (by decide) (Nat.le_of_ble_eq_true rfl) (by omega) (by omega) ?_
  have hw4 : (mx_ups (mx_ups (mx_ups (mx_ups S t (0, 3)) (t + 1) (1, n)) (t + 2) (1, n)) (t + 3) (1, n)) lr = some (0, 10) := by simp only [mx_ups]; rw [if_neg (show ¬ lr = t + 3 by omega), if_neg (show ¬ lr = t + 2 by omega), if_neg (show ¬ lr = t + 1 by omega), if_neg (show ¬ lr = t by omega)]; exact hL0
  have hq4 : (mx_ups (mx_ups (mx_ups (mx_ups S t (0, 3)) (t + 1) (1, n)) (t + 2) (1, n)) (t + 3) (1, n)) (lr + 4) = some (1, 400) := by simp only [mx_ups]; rw [if_neg (show ¬ lr + 4 = t + 3 by omega), if_neg (show ¬ lr + 4 = t + 2 by omega), if_neg (show ¬ lr + 4 = t + 1 by omega), if_neg (show ¬ lr + 4 = t by omega)]; exact hS4
  refine mx_al0 d_Lr_written_41 ?_
  refine mx_getR d_Lr_written_42 fl_Lr_21 (by assumption) (by assumption) ?_
  refine mx_al0 d_Lr_written_45 ?_
  refine mx_getI d_Lr_written_46 fl_Lr_38 (by assumption) ?_
  refine mx_ti (y := nI (z)) ((by rw [cp_ne (show ¬ lr = t + 3 by omega), mx_z_ne (show ¬ lr = t + 3 by omega), cp_ne (show ¬ lr = t + 2 by omega), mx_z_ne (show ¬ lr = t + 2 by omega), cp_ne (show ¬ lr = t + 1 by omega), mx_z_ne (show ¬ lr = t + 1 by omega), mx_z_ne (show ¬ lr = t by omega)]; exact hz)) ?_
  refine mx_kSN2r (k2 := 1) (n2 := 64) d_Lr_written_49 (c_firstOf (S := (mx_ups (mx_ups (mx_ups (mx_ups S t (0, 3)) (t + 1) (1, n)) (t + 2) (1, n)) (t + 3) (1, n))) (t := t + 4) (c := z) hq4 (by omega) (by omega) (by omega)) ok_Vh_firstOf ml_Lr_34 (by decide) (Nat.le_of_ble_eq_true rfl) (by omega) (by omega) ?_
  have hw5 : (mx_ups (mx_ups (mx_ups (mx_ups (mx_ups S t (0, 3)) (t + 1) (1, n)) (t + 2) (1, n)) (t + 3) (1, n)) (t + 4) (1, z)) lr = some (0, 10) := by simp only [mx_ups]; rw [if_neg (show ¬ lr = t + 4 by omega), if_neg (show ¬ lr = t + 3 by omega), if_neg (show ¬ lr = t + 2 by omega), if_neg (show ¬ lr = t + 1 by omega), if_neg (show ¬ lr = t by omega)]; exact hL0
  have hq5 : (mx_ups (mx_ups (mx_ups (mx_ups (mx_ups S t (0, 3)) (t + 1) (1, n)) (t + 2) (1, n)) (t + 3) (1, n)) (t + 4) (1, z)) t = some (0, 3) := by simp only [mx_ups]; rw [if_neg (show ¬ t = t + 4 by omega), if_neg (show ¬ t = t + 3 by omega), if_neg (show ¬ t = t + 2 by omega), if_neg (show ¬ t = t + 1 by omega)]; simp
  refine mx_kI5v (k2 := 0) (n2 := 0) d_Lr_written_52 (c_La_init (a := t) (t := t + 5) hq5 (by omega)) ok_La_init rfl rfl ml_Lr_41 (by decide) (Nat.le_of_ble_eq_true rfl) (by omega) (by omega) ?_
  exact mx_aret d_Lr_written_55 rfl (by first | exact Or.inl ⟨_, rfl⟩ | exact Or.inr ⟨_, rfl⟩) (⟨rfl, rfl⟩)
end BI76
